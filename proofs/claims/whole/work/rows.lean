section
-- ===== PART A: goes FIRST, ahead of the names: the tables' words, and 'selects' of the private methods out of them =====
/-- a private method of a class that the tables say can be made, by its rows of tables_1 -/
def lw_okq (q : MethodName × Nat) : Prop := (q.1.cls ≠ "java/lang/invoke/MethodHandle" ∧ q.1.cls ≠ "java/lang/invoke/VarHandle") ∧ Cond.instantiable q.1.cls q.2 ∈ tables_1 ∧ Cond.privateMethod q.1 ∈ tables_1 ∧ Cond.instanceMethod q.1 ∈ tables_1
theorem lw_p0 : lw_okq (⟨"RestrictedFunds", "preparePlan", "()V"⟩, 6) := ⟨⟨by decide +kernel, by decide +kernel⟩, List.mem_of_getElem? (i := 31) (by decide +kernel), List.mem_of_getElem? (i := 131) (by decide +kernel), List.mem_of_getElem? (i := 132) (by decide +kernel)⟩
theorem lw_p1 : lw_okq (⟨"RestrictedFunds", "lineUpPots", "()V"⟩, 6) := ⟨⟨by decide +kernel, by decide +kernel⟩, List.mem_of_getElem? (i := 31) (by decide +kernel), List.mem_of_getElem? (i := 135) (by decide +kernel), List.mem_of_getElem? (i := 136) (by decide +kernel)⟩
theorem lw_p2 : lw_okq (⟨"RestrictedFunds", "lineUp", "(LRestrictedFunds$Pot;)V"⟩, 6) := ⟨⟨by decide +kernel, by decide +kernel⟩, List.mem_of_getElem? (i := 31) (by decide +kernel), List.mem_of_getElem? (i := 162) (by decide +kernel), List.mem_of_getElem? (i := 163) (by decide +kernel)⟩
theorem lw_p3 : lw_okq (⟨"java/util/ArrayList", "rangeCheckForAdd", "(I)V"⟩, 3) := ⟨⟨by decide +kernel, by decide +kernel⟩, List.mem_of_getElem? (i := 39) (by decide +kernel), List.mem_of_getElem? (i := 179) (by decide +kernel), List.mem_of_getElem? (i := 180) (by decide +kernel)⟩
theorem lw_p4 : lw_okq (⟨"java/lang/Throwable", "fillInStackTrace", "(I)Ljava/lang/Throwable;"⟩, 6) := ⟨⟨by decide +kernel, by decide +kernel⟩, List.mem_of_getElem? (i := 221) (by decide +kernel), List.mem_of_getElem? (i := 219) (by decide +kernel), List.mem_of_getElem? (i := 220) (by decide +kernel)⟩
theorem lw_p5 : lw_okq (⟨"java/util/ArrayList", "outOfBoundsMsg", "(I)Ljava/lang/String;"⟩, 3) := ⟨⟨by decide +kernel, by decide +kernel⟩, List.mem_of_getElem? (i := 39) (by decide +kernel), List.mem_of_getElem? (i := 224) (by decide +kernel), List.mem_of_getElem? (i := 225) (by decide +kernel)⟩
theorem lw_p6 : lw_okq (⟨"java/util/ArrayList", "grow", "()[Ljava/lang/Object;"⟩, 3) := ⟨⟨by decide +kernel, by decide +kernel⟩, List.mem_of_getElem? (i := 39) (by decide +kernel), List.mem_of_getElem? (i := 513) (by decide +kernel), List.mem_of_getElem? (i := 514) (by decide +kernel)⟩
theorem lw_p7 : lw_okq (⟨"java/util/ArrayList", "grow", "(I)[Ljava/lang/Object;"⟩, 3) := ⟨⟨by decide +kernel, by decide +kernel⟩, List.mem_of_getElem? (i := 39) (by decide +kernel), List.mem_of_getElem? (i := 517) (by decide +kernel), List.mem_of_getElem? (i := 518) (by decide +kernel)⟩
theorem lw_p8 : lw_okq (⟨"RestrictedFunds$Plan", "isCost", "(I)Z"⟩, 11) := ⟨⟨by decide +kernel, by decide +kernel⟩, List.mem_of_getElem? (i := 65) (by decide +kernel), List.mem_of_getElem? (i := 561) (by decide +kernel), List.mem_of_getElem? (i := 562) (by decide +kernel)⟩
theorem lw_p9 : lw_okq (⟨"RestrictedFunds", "costsThatMayBePaidBy", "(LRestrictedFunds$Pot;)I"⟩, 6) := ⟨⟨by decide +kernel, by decide +kernel⟩, List.mem_of_getElem? (i := 31) (by decide +kernel), List.mem_of_getElem? (i := 565) (by decide +kernel), List.mem_of_getElem? (i := 566) (by decide +kernel)⟩
theorem lw_p10 : lw_okq (⟨"RestrictedFunds$Plan", "isPot", "(I)Z"⟩, 11) := ⟨⟨by decide +kernel, by decide +kernel⟩, List.mem_of_getElem? (i := 65) (by decide +kernel), List.mem_of_getElem? (i := 594) (by decide +kernel), List.mem_of_getElem? (i := 595) (by decide +kernel)⟩
theorem lw_p11 : lw_okq (⟨"RestrictedFunds$Plan", "payMoreOf", "(I)Z"⟩, 11) := ⟨⟨by decide +kernel, by decide +kernel⟩, List.mem_of_getElem? (i := 65) (by decide +kernel), List.mem_of_getElem? (i := 603) (by decide +kernel), List.mem_of_getElem? (i := 604) (by decide +kernel)⟩
theorem lw_p12 : lw_okq (⟨"RestrictedFunds$Plan", "potsWithMoney", "()I"⟩, 11) := ⟨⟨by decide +kernel, by decide +kernel⟩, List.mem_of_getElem? (i := 65) (by decide +kernel), List.mem_of_getElem? (i := 611) (by decide +kernel), List.mem_of_getElem? (i := 612) (by decide +kernel)⟩
theorem lw_p13 : lw_okq (⟨"RestrictedFunds$Plan", "potsWith", "([II)I"⟩, 11) := ⟨⟨by decide +kernel, by decide +kernel⟩, List.mem_of_getElem? (i := 65) (by decide +kernel), List.mem_of_getElem? (i := 615) (by decide +kernel), List.mem_of_getElem? (i := 616) (by decide +kernel)⟩
theorem lw_p14 : lw_okq (⟨"RestrictedFunds$Plan", "findChain", "(III)I"⟩, 11) := ⟨⟨by decide +kernel, by decide +kernel⟩, List.mem_of_getElem? (i := 65) (by decide +kernel), List.mem_of_getElem? (i := 620) (by decide +kernel), List.mem_of_getElem? (i := 621) (by decide +kernel)⟩
theorem lw_p15 : lw_okq (⟨"RestrictedFunds$Plan", "costBetween", "(III)I"⟩, 11) := ⟨⟨by decide +kernel, by decide +kernel⟩, List.mem_of_getElem? (i := 65) (by decide +kernel), List.mem_of_getElem? (i := 624) (by decide +kernel), List.mem_of_getElem? (i := 625) (by decide +kernel)⟩
def lw_privs_1 : List (MethodName × Nat) := [(⟨"RestrictedFunds", "preparePlan", "()V"⟩, 6), (⟨"RestrictedFunds", "lineUpPots", "()V"⟩, 6), (⟨"RestrictedFunds", "lineUp", "(LRestrictedFunds$Pot;)V"⟩, 6), (⟨"java/util/ArrayList", "rangeCheckForAdd", "(I)V"⟩, 3), (⟨"java/lang/Throwable", "fillInStackTrace", "(I)Ljava/lang/Throwable;"⟩, 6), (⟨"java/util/ArrayList", "outOfBoundsMsg", "(I)Ljava/lang/String;"⟩, 3), (⟨"java/util/ArrayList", "grow", "()[Ljava/lang/Object;"⟩, 3), (⟨"java/util/ArrayList", "grow", "(I)[Ljava/lang/Object;"⟩, 3), (⟨"RestrictedFunds$Plan", "isCost", "(I)Z"⟩, 11), (⟨"RestrictedFunds", "costsThatMayBePaidBy", "(LRestrictedFunds$Pot;)I"⟩, 6), (⟨"RestrictedFunds$Plan", "isPot", "(I)Z"⟩, 11), (⟨"RestrictedFunds$Plan", "payMoreOf", "(I)Z"⟩, 11), (⟨"RestrictedFunds$Plan", "potsWithMoney", "()I"⟩, 11), (⟨"RestrictedFunds$Plan", "potsWith", "([II)I"⟩, 11), (⟨"RestrictedFunds$Plan", "findChain", "(III)I"⟩, 11), (⟨"RestrictedFunds$Plan", "costBetween", "(III)I"⟩, 11)]
theorem lw_r1 : ∀ q ∈ lw_privs_1, lw_okq q := List.forall_mem_cons.mpr ⟨lw_p0, List.forall_mem_cons.mpr ⟨lw_p1, List.forall_mem_cons.mpr ⟨lw_p2, List.forall_mem_cons.mpr ⟨lw_p3, List.forall_mem_cons.mpr ⟨lw_p4, List.forall_mem_cons.mpr ⟨lw_p5, List.forall_mem_cons.mpr ⟨lw_p6, List.forall_mem_cons.mpr ⟨lw_p7, List.forall_mem_cons.mpr ⟨lw_p8, List.forall_mem_cons.mpr ⟨lw_p9, List.forall_mem_cons.mpr ⟨lw_p10, List.forall_mem_cons.mpr ⟨lw_p11, List.forall_mem_cons.mpr ⟨lw_p12, List.forall_mem_cons.mpr ⟨lw_p13, List.forall_mem_cons.mpr ⟨lw_p14, List.forall_mem_cons.mpr ⟨lw_p15, fun _ h => absurd h List.not_mem_nil⟩⟩⟩⟩⟩⟩⟩⟩⟩⟩⟩⟩⟩⟩⟩⟩
theorem lw_p16 : lw_okq (⟨"RestrictedFunds$Plan", "firstOfChain", "(I)I"⟩, 11) := ⟨⟨by decide +kernel, by decide +kernel⟩, List.mem_of_getElem? (i := 65) (by decide +kernel), List.mem_of_getElem? (i := 628) (by decide +kernel), List.mem_of_getElem? (i := 629) (by decide +kernel)⟩
theorem lw_p17 : lw_okq (⟨"RestrictedFunds$Plan", "hasAhead", "(I)Z"⟩, 11) := ⟨⟨by decide +kernel, by decide +kernel⟩, List.mem_of_getElem? (i := 65) (by decide +kernel), List.mem_of_getElem? (i := 632) (by decide +kernel), List.mem_of_getElem? (i := 633) (by decide +kernel)⟩
theorem lw_p18 : lw_okq (⟨"RestrictedFunds$Plan", "narrowest", "(II)I"⟩, 11) := ⟨⟨by decide +kernel, by decide +kernel⟩, List.mem_of_getElem? (i := 65) (by decide +kernel), List.mem_of_getElem? (i := 640) (by decide +kernel), List.mem_of_getElem? (i := 641) (by decide +kernel)⟩
theorem lw_p19 : lw_okq (⟨"RestrictedFunds$Plan", "shiftAlongChain", "(II)V"⟩, 11) := ⟨⟨by decide +kernel, by decide +kernel⟩, List.mem_of_getElem? (i := 65) (by decide +kernel), List.mem_of_getElem? (i := 648) (by decide +kernel), List.mem_of_getElem? (i := 649) (by decide +kernel)⟩
theorem lw_p20 : lw_okq (⟨"RestrictedFunds$Plan", "addShare", "(III)V"⟩, 11) := ⟨⟨by decide +kernel, by decide +kernel⟩, List.mem_of_getElem? (i := 65) (by decide +kernel), List.mem_of_getElem? (i := 652) (by decide +kernel), List.mem_of_getElem? (i := 653) (by decide +kernel)⟩
theorem lw_p21 : lw_okq (⟨"RestrictedFunds$Plan", "addToPot", "(II)V"⟩, 11) := ⟨⟨by decide +kernel, by decide +kernel⟩, List.mem_of_getElem? (i := 65) (by decide +kernel), List.mem_of_getElem? (i := 656) (by decide +kernel), List.mem_of_getElem? (i := 657) (by decide +kernel)⟩
theorem lw_p22 : lw_okq (⟨"RestrictedFunds$Plan", "planCost", "(II)V"⟩, 11) := ⟨⟨by decide +kernel, by decide +kernel⟩, List.mem_of_getElem? (i := 65) (by decide +kernel), List.mem_of_getElem? (i := 660) (by decide +kernel), List.mem_of_getElem? (i := 661) (by decide +kernel)⟩
theorem lw_p23 : lw_okq (⟨"RestrictedFunds$Plan", "drawMoreOn", "(I)Z"⟩, 11) := ⟨⟨by decide +kernel, by decide +kernel⟩, List.mem_of_getElem? (i := 65) (by decide +kernel), List.mem_of_getElem? (i := 668) (by decide +kernel), List.mem_of_getElem? (i := 669) (by decide +kernel)⟩
theorem lw_p24 : lw_okq (⟨"RestrictedFunds$Plan", "potsAfter", "(I)I"⟩, 11) := ⟨⟨by decide +kernel, by decide +kernel⟩, List.mem_of_getElem? (i := 65) (by decide +kernel), List.mem_of_getElem? (i := 672) (by decide +kernel), List.mem_of_getElem? (i := 673) (by decide +kernel)⟩
theorem lw_p25 : lw_okq (⟨"RestrictedFunds$Plan", "payMoreFrom", "(II)Z"⟩, 11) := ⟨⟨by decide +kernel, by decide +kernel⟩, List.mem_of_getElem? (i := 65) (by decide +kernel), List.mem_of_getElem? (i := 680) (by decide +kernel), List.mem_of_getElem? (i := 681) (by decide +kernel)⟩
theorem lw_p26 : lw_okq (⟨"RestrictedFunds", "bookPlan", "()V"⟩, 6) := ⟨⟨by decide +kernel, by decide +kernel⟩, List.mem_of_getElem? (i := 31) (by decide +kernel), List.mem_of_getElem? (i := 688) (by decide +kernel), List.mem_of_getElem? (i := 689) (by decide +kernel)⟩
theorem lw_p27 : lw_okq (⟨"RestrictedFunds", "endEmptyCommitments", "()V"⟩, 6) := ⟨⟨by decide +kernel, by decide +kernel⟩, List.mem_of_getElem? (i := 31) (by decide +kernel), List.mem_of_getElem? (i := 709) (by decide +kernel), List.mem_of_getElem? (i := 710) (by decide +kernel)⟩
theorem lw_p28 : lw_okq (⟨"RestrictedFunds", "endCommitment", "(I)V"⟩, 6) := ⟨⟨by decide +kernel, by decide +kernel⟩, List.mem_of_getElem? (i := 31) (by decide +kernel), List.mem_of_getElem? (i := 714) (by decide +kernel), List.mem_of_getElem? (i := 715) (by decide +kernel)⟩
theorem lw_p29 : lw_okq (⟨"java/util/ArrayList", "fastRemove", "([Ljava/lang/Object;I)V"⟩, 3) := ⟨⟨by decide +kernel, by decide +kernel⟩, List.mem_of_getElem? (i := 39) (by decide +kernel), List.mem_of_getElem? (i := 723) (by decide +kernel), List.mem_of_getElem? (i := 724) (by decide +kernel)⟩
theorem lw_p30 : lw_okq (⟨"java/util/ArrayList", "add", "(Ljava/lang/Object;[Ljava/lang/Object;I)V"⟩, 3) := ⟨⟨by decide +kernel, by decide +kernel⟩, List.mem_of_getElem? (i := 39) (by decide +kernel), List.mem_of_getElem? (i := 827) (by decide +kernel), List.mem_of_getElem? (i := 828) (by decide +kernel)⟩
theorem lw_p31 : lw_okq (⟨"RestrictedFunds", "fundAt", "(I)LRestrictedFunds$Fund;"⟩, 6) := ⟨⟨by decide +kernel, by decide +kernel⟩, List.mem_of_getElem? (i := 31) (by decide +kernel), List.mem_of_getElem? (i := 839) (by decide +kernel), List.mem_of_getElem? (i := 840) (by decide +kernel)⟩
def lw_privs_2 : List (MethodName × Nat) := [(⟨"RestrictedFunds$Plan", "firstOfChain", "(I)I"⟩, 11), (⟨"RestrictedFunds$Plan", "hasAhead", "(I)Z"⟩, 11), (⟨"RestrictedFunds$Plan", "narrowest", "(II)I"⟩, 11), (⟨"RestrictedFunds$Plan", "shiftAlongChain", "(II)V"⟩, 11), (⟨"RestrictedFunds$Plan", "addShare", "(III)V"⟩, 11), (⟨"RestrictedFunds$Plan", "addToPot", "(II)V"⟩, 11), (⟨"RestrictedFunds$Plan", "planCost", "(II)V"⟩, 11), (⟨"RestrictedFunds$Plan", "drawMoreOn", "(I)Z"⟩, 11), (⟨"RestrictedFunds$Plan", "potsAfter", "(I)I"⟩, 11), (⟨"RestrictedFunds$Plan", "payMoreFrom", "(II)Z"⟩, 11), (⟨"RestrictedFunds", "bookPlan", "()V"⟩, 6), (⟨"RestrictedFunds", "endEmptyCommitments", "()V"⟩, 6), (⟨"RestrictedFunds", "endCommitment", "(I)V"⟩, 6), (⟨"java/util/ArrayList", "fastRemove", "([Ljava/lang/Object;I)V"⟩, 3), (⟨"java/util/ArrayList", "add", "(Ljava/lang/Object;[Ljava/lang/Object;I)V"⟩, 3), (⟨"RestrictedFunds", "fundAt", "(I)LRestrictedFunds$Fund;"⟩, 6)]
theorem lw_r2 : ∀ q ∈ lw_privs_2, lw_okq q := List.forall_mem_cons.mpr ⟨lw_p16, List.forall_mem_cons.mpr ⟨lw_p17, List.forall_mem_cons.mpr ⟨lw_p18, List.forall_mem_cons.mpr ⟨lw_p19, List.forall_mem_cons.mpr ⟨lw_p20, List.forall_mem_cons.mpr ⟨lw_p21, List.forall_mem_cons.mpr ⟨lw_p22, List.forall_mem_cons.mpr ⟨lw_p23, List.forall_mem_cons.mpr ⟨lw_p24, List.forall_mem_cons.mpr ⟨lw_p25, List.forall_mem_cons.mpr ⟨lw_p26, List.forall_mem_cons.mpr ⟨lw_p27, List.forall_mem_cons.mpr ⟨lw_p28, List.forall_mem_cons.mpr ⟨lw_p29, List.forall_mem_cons.mpr ⟨lw_p30, List.forall_mem_cons.mpr ⟨lw_p31, fun _ h => absurd h List.not_mem_nil⟩⟩⟩⟩⟩⟩⟩⟩⟩⟩⟩⟩⟩⟩⟩⟩
theorem lw_p32 : lw_okq (⟨"RestrictedFunds", "commitmentAt", "(I)LRestrictedFunds$Commitment;"⟩, 6) := ⟨⟨by decide +kernel, by decide +kernel⟩, List.mem_of_getElem? (i := 31) (by decide +kernel), List.mem_of_getElem? (i := 877) (by decide +kernel), List.mem_of_getElem? (i := 878) (by decide +kernel)⟩
theorem lw_p33 : lw_okq (⟨"RestrictedFunds", "lapseCommitments", "()I"⟩, 6) := ⟨⟨by decide +kernel, by decide +kernel⟩, List.mem_of_getElem? (i := 31) (by decide +kernel), List.mem_of_getElem? (i := 889) (by decide +kernel), List.mem_of_getElem? (i := 890) (by decide +kernel)⟩
theorem lw_p34 : lw_okq (⟨"RestrictedFunds", "shareByDirectCosts", "(I)I"⟩, 6) := ⟨⟨by decide +kernel, by decide +kernel⟩, List.mem_of_getElem? (i := 31) (by decide +kernel), List.mem_of_getElem? (i := 931) (by decide +kernel), List.mem_of_getElem? (i := 932) (by decide +kernel)⟩
theorem lw_p35 : lw_okq (⟨"RestrictedFunds", "directCostsWithRoom", "()J"⟩, 6) := ⟨⟨by decide +kernel, by decide +kernel⟩, List.mem_of_getElem? (i := 31) (by decide +kernel), List.mem_of_getElem? (i := 935) (by decide +kernel), List.mem_of_getElem? (i := 936) (by decide +kernel)⟩
theorem lw_p36 : lw_okq (⟨"RestrictedFunds", "shareOnes", "(I)I"⟩, 6) := ⟨⟨by decide +kernel, by decide +kernel⟩, List.mem_of_getElem? (i := 31) (by decide +kernel), List.mem_of_getElem? (i := 952) (by decide +kernel), List.mem_of_getElem? (i := 953) (by decide +kernel)⟩
theorem lw_p37 : lw_okq (⟨"RestrictedFunds", "costAt", "(I)LRestrictedFunds$Cost;"⟩, 6) := ⟨⟨by decide +kernel, by decide +kernel⟩, List.mem_of_getElem? (i := 31) (by decide +kernel), List.mem_of_getElem? (i := 1019) (by decide +kernel), List.mem_of_getElem? (i := 1020) (by decide +kernel)⟩
theorem lw_p38 : lw_okq (⟨"RestrictedFunds", "isAllowedBySomeFund", "(LRestrictedFunds$Cost;)Z"⟩, 6) := ⟨⟨by decide +kernel, by decide +kernel⟩, List.mem_of_getElem? (i := 31) (by decide +kernel), List.mem_of_getElem? (i := 1058) (by decide +kernel), List.mem_of_getElem? (i := 1059) (by decide +kernel)⟩
theorem lw_p39 : lw_okq (⟨"RestrictedFunds", "isSuitedBySomeFund", "(LRestrictedFunds$Cost;)Z"⟩, 6) := ⟨⟨by decide +kernel, by decide +kernel⟩, List.mem_of_getElem? (i := 31) (by decide +kernel), List.mem_of_getElem? (i := 1062) (by decide +kernel), List.mem_of_getElem? (i := 1063) (by decide +kernel)⟩
theorem lw_p40 : lw_okq (⟨"RestrictedFunds", "isPayableFromSomePot", "(LRestrictedFunds$Cost;)Z"⟩, 6) := ⟨⟨by decide +kernel, by decide +kernel⟩, List.mem_of_getElem? (i := 31) (by decide +kernel), List.mem_of_getElem? (i := 1067) (by decide +kernel), List.mem_of_getElem? (i := 1068) (by decide +kernel)⟩
theorem lw_p41 : lw_okq (⟨"RestrictedFunds", "isHeldInCommitment", "(LRestrictedFunds$Cost;)Z"⟩, 6) := ⟨⟨by decide +kernel, by decide +kernel⟩, List.mem_of_getElem? (i := 31) (by decide +kernel), List.mem_of_getElem? (i := 1071) (by decide +kernel), List.mem_of_getElem? (i := 1072) (by decide +kernel)⟩
theorem lw_p42 : lw_okq (⟨"RestrictedFundsModel", "fails", "(I)I"⟩, 30) := ⟨⟨by decide +kernel, by decide +kernel⟩, List.mem_of_getElem? (i := 1075) (by decide +kernel), List.mem_of_getElem? (i := 1187) (by decide +kernel), List.mem_of_getElem? (i := 1188) (by decide +kernel)⟩
theorem lw_p43 : lw_okq (⟨"RestrictedFundsModel", "isFund", "(I)Z"⟩, 30) := ⟨⟨by decide +kernel, by decide +kernel⟩, List.mem_of_getElem? (i := 1075) (by decide +kernel), List.mem_of_getElem? (i := 1195) (by decide +kernel), List.mem_of_getElem? (i := 1196) (by decide +kernel)⟩
theorem lw_p44 : lw_okq (⟨"RestrictedFundsModel", "allows", "(II)Z"⟩, 30) := ⟨⟨by decide +kernel, by decide +kernel⟩, List.mem_of_getElem? (i := 1075) (by decide +kernel), List.mem_of_getElem? (i := 1204) (by decide +kernel), List.mem_of_getElem? (i := 1205) (by decide +kernel)⟩
theorem lw_p45 : lw_okq (⟨"RestrictedFundsModel", "isCommitment", "(I)Z"⟩, 30) := ⟨⟨by decide +kernel, by decide +kernel⟩, List.mem_of_getElem? (i := 1075) (by decide +kernel), List.mem_of_getElem? (i := 1212) (by decide +kernel), List.mem_of_getElem? (i := 1213) (by decide +kernel)⟩
theorem lw_p46 : lw_okq (⟨"RestrictedFundsModel", "ends", "(I)V"⟩, 30) := ⟨⟨by decide +kernel, by decide +kernel⟩, List.mem_of_getElem? (i := 1075) (by decide +kernel), List.mem_of_getElem? (i := 1216) (by decide +kernel), List.mem_of_getElem? (i := 1217) (by decide +kernel)⟩
theorem lw_p47 : lw_okq (⟨"RestrictedFundsModel", "plans", "()V"⟩, 30) := ⟨⟨by decide +kernel, by decide +kernel⟩, List.mem_of_getElem? (i := 1075) (by decide +kernel), List.mem_of_getElem? (i := 1232) (by decide +kernel), List.mem_of_getElem? (i := 1233) (by decide +kernel)⟩
def lw_privs_3 : List (MethodName × Nat) := [(⟨"RestrictedFunds", "commitmentAt", "(I)LRestrictedFunds$Commitment;"⟩, 6), (⟨"RestrictedFunds", "lapseCommitments", "()I"⟩, 6), (⟨"RestrictedFunds", "shareByDirectCosts", "(I)I"⟩, 6), (⟨"RestrictedFunds", "directCostsWithRoom", "()J"⟩, 6), (⟨"RestrictedFunds", "shareOnes", "(I)I"⟩, 6), (⟨"RestrictedFunds", "costAt", "(I)LRestrictedFunds$Cost;"⟩, 6), (⟨"RestrictedFunds", "isAllowedBySomeFund", "(LRestrictedFunds$Cost;)Z"⟩, 6), (⟨"RestrictedFunds", "isSuitedBySomeFund", "(LRestrictedFunds$Cost;)Z"⟩, 6), (⟨"RestrictedFunds", "isPayableFromSomePot", "(LRestrictedFunds$Cost;)Z"⟩, 6), (⟨"RestrictedFunds", "isHeldInCommitment", "(LRestrictedFunds$Cost;)Z"⟩, 6), (⟨"RestrictedFundsModel", "fails", "(I)I"⟩, 30), (⟨"RestrictedFundsModel", "isFund", "(I)Z"⟩, 30), (⟨"RestrictedFundsModel", "allows", "(II)Z"⟩, 30), (⟨"RestrictedFundsModel", "isCommitment", "(I)Z"⟩, 30), (⟨"RestrictedFundsModel", "ends", "(I)V"⟩, 30), (⟨"RestrictedFundsModel", "plans", "()V"⟩, 30)]
theorem lw_r3 : ∀ q ∈ lw_privs_3, lw_okq q := List.forall_mem_cons.mpr ⟨lw_p32, List.forall_mem_cons.mpr ⟨lw_p33, List.forall_mem_cons.mpr ⟨lw_p34, List.forall_mem_cons.mpr ⟨lw_p35, List.forall_mem_cons.mpr ⟨lw_p36, List.forall_mem_cons.mpr ⟨lw_p37, List.forall_mem_cons.mpr ⟨lw_p38, List.forall_mem_cons.mpr ⟨lw_p39, List.forall_mem_cons.mpr ⟨lw_p40, List.forall_mem_cons.mpr ⟨lw_p41, List.forall_mem_cons.mpr ⟨lw_p42, List.forall_mem_cons.mpr ⟨lw_p43, List.forall_mem_cons.mpr ⟨lw_p44, List.forall_mem_cons.mpr ⟨lw_p45, List.forall_mem_cons.mpr ⟨lw_p46, List.forall_mem_cons.mpr ⟨lw_p47, fun _ h => absurd h List.not_mem_nil⟩⟩⟩⟩⟩⟩⟩⟩⟩⟩⟩⟩⟩⟩⟩⟩
theorem lw_p48 : lw_okq (⟨"RestrictedFundsModel", "laysPots", "()V"⟩, 30) := ⟨⟨by decide +kernel, by decide +kernel⟩, List.mem_of_getElem? (i := 1075) (by decide +kernel), List.mem_of_getElem? (i := 1236) (by decide +kernel), List.mem_of_getElem? (i := 1237) (by decide +kernel)⟩
theorem lw_p49 : lw_okq (⟨"RestrictedFundsModel", "addPot", "(II)V"⟩, 30) := ⟨⟨by decide +kernel, by decide +kernel⟩, List.mem_of_getElem? (i := 1075) (by decide +kernel), List.mem_of_getElem? (i := 1240) (by decide +kernel), List.mem_of_getElem? (i := 1241) (by decide +kernel)⟩
theorem lw_p50 : lw_okq (⟨"RestrictedFundsModel", "rank", "(II)I"⟩, 30) := ⟨⟨by decide +kernel, by decide +kernel⟩, List.mem_of_getElem? (i := 1075) (by decide +kernel), List.mem_of_getElem? (i := 1244) (by decide +kernel), List.mem_of_getElem? (i := 1245) (by decide +kernel)⟩
theorem lw_p51 : lw_okq (⟨"RestrictedFundsModel", "suits", "(II)Z"⟩, 30) := ⟨⟨by decide +kernel, by decide +kernel⟩, List.mem_of_getElem? (i := 1075) (by decide +kernel), List.mem_of_getElem? (i := 1248) (by decide +kernel), List.mem_of_getElem? (i := 1249) (by decide +kernel)⟩
theorem lw_p52 : lw_okq (⟨"RestrictedFundsModel", "laysSets", "([I)V"⟩, 30) := ⟨⟨by decide +kernel, by decide +kernel⟩, List.mem_of_getElem? (i := 1075) (by decide +kernel), List.mem_of_getElem? (i := 1252) (by decide +kernel), List.mem_of_getElem? (i := 1253) (by decide +kernel)⟩
theorem lw_p53 : lw_okq (⟨"RestrictedFundsModel", "most", "(II[I)I"⟩, 30) := ⟨⟨by decide +kernel, by decide +kernel⟩, List.mem_of_getElem? (i := 1075) (by decide +kernel), List.mem_of_getElem? (i := 1256) (by decide +kernel), List.mem_of_getElem? (i := 1257) (by decide +kernel)⟩
theorem lw_p54 : lw_okq (⟨"RestrictedFundsModel", "parts", "()V"⟩, 30) := ⟨⟨by decide +kernel, by decide +kernel⟩, List.mem_of_getElem? (i := 1075) (by decide +kernel), List.mem_of_getElem? (i := 1264) (by decide +kernel), List.mem_of_getElem? (i := 1265) (by decide +kernel)⟩
theorem lw_p55 : lw_okq (⟨"RestrictedFundsModel", "round", "(I)I"⟩, 30) := ⟨⟨by decide +kernel, by decide +kernel⟩, List.mem_of_getElem? (i := 1075) (by decide +kernel), List.mem_of_getElem? (i := 1272) (by decide +kernel), List.mem_of_getElem? (i := 1273) (by decide +kernel)⟩
theorem lw_p56 : lw_okq (⟨"RestrictedFundsModel", "room", "(I)I"⟩, 30) := ⟨⟨by decide +kernel, by decide +kernel⟩, List.mem_of_getElem? (i := 1075) (by decide +kernel), List.mem_of_getElem? (i := 1276) (by decide +kernel), List.mem_of_getElem? (i := 1277) (by decide +kernel)⟩
theorem lw_p57 : lw_okq (⟨"RestrictedFundsModel", "gets", "(II)V"⟩, 30) := ⟨⟨by decide +kernel, by decide +kernel⟩, List.mem_of_getElem? (i := 1075) (by decide +kernel), List.mem_of_getElem? (i := 1280) (by decide +kernel), List.mem_of_getElem? (i := 1281) (by decide +kernel)⟩
theorem lw_p58 : lw_okq (⟨"RestrictedFundsModel", "ones", "(I)I"⟩, 30) := ⟨⟨by decide +kernel, by decide +kernel⟩, List.mem_of_getElem? (i := 1075) (by decide +kernel), List.mem_of_getElem? (i := 1284) (by decide +kernel), List.mem_of_getElem? (i := 1285) (by decide +kernel)⟩
theorem lw_p59 : lw_okq (⟨"RestrictedFundsModel", "committed", "(I)I"⟩, 30) := ⟨⟨by decide +kernel, by decide +kernel⟩, List.mem_of_getElem? (i := 1075) (by decide +kernel), List.mem_of_getElem? (i := 1304) (by decide +kernel), List.mem_of_getElem? (i := 1305) (by decide +kernel)⟩
theorem lw_p60 : lw_okq (⟨"RestrictedFundsModel", "isCost", "(I)Z"⟩, 30) := ⟨⟨by decide +kernel, by decide +kernel⟩, List.mem_of_getElem? (i := 1075) (by decide +kernel), List.mem_of_getElem? (i := 1344) (by decide +kernel), List.mem_of_getElem? (i := 1345) (by decide +kernel)⟩
def lw_privs_4 : List (MethodName × Nat) := [(⟨"RestrictedFundsModel", "laysPots", "()V"⟩, 30), (⟨"RestrictedFundsModel", "addPot", "(II)V"⟩, 30), (⟨"RestrictedFundsModel", "rank", "(II)I"⟩, 30), (⟨"RestrictedFundsModel", "suits", "(II)Z"⟩, 30), (⟨"RestrictedFundsModel", "laysSets", "([I)V"⟩, 30), (⟨"RestrictedFundsModel", "most", "(II[I)I"⟩, 30), (⟨"RestrictedFundsModel", "parts", "()V"⟩, 30), (⟨"RestrictedFundsModel", "round", "(I)I"⟩, 30), (⟨"RestrictedFundsModel", "room", "(I)I"⟩, 30), (⟨"RestrictedFundsModel", "gets", "(II)V"⟩, 30), (⟨"RestrictedFundsModel", "ones", "(I)I"⟩, 30), (⟨"RestrictedFundsModel", "committed", "(I)I"⟩, 30), (⟨"RestrictedFundsModel", "isCost", "(I)Z"⟩, 30)]
theorem lw_r4 : ∀ q ∈ lw_privs_4, lw_okq q := List.forall_mem_cons.mpr ⟨lw_p48, List.forall_mem_cons.mpr ⟨lw_p49, List.forall_mem_cons.mpr ⟨lw_p50, List.forall_mem_cons.mpr ⟨lw_p51, List.forall_mem_cons.mpr ⟨lw_p52, List.forall_mem_cons.mpr ⟨lw_p53, List.forall_mem_cons.mpr ⟨lw_p54, List.forall_mem_cons.mpr ⟨lw_p55, List.forall_mem_cons.mpr ⟨lw_p56, List.forall_mem_cons.mpr ⟨lw_p57, List.forall_mem_cons.mpr ⟨lw_p58, List.forall_mem_cons.mpr ⟨lw_p59, List.forall_mem_cons.mpr ⟨lw_p60, fun _ h => absurd h List.not_mem_nil⟩⟩⟩⟩⟩⟩⟩⟩⟩⟩⟩⟩⟩
def lw_privs : List (MethodName × Nat) := lw_privs_1 ++ (lw_privs_2 ++ (lw_privs_3 ++ (lw_privs_4)))
def lw_tbl : List Cond := k2_sels lw_privs ++ tables_1
theorem lw_privs_ok : ∀ q ∈ lw_privs, lw_okq q := by
  show ∀ q ∈ lw_privs_1 ++ (lw_privs_2 ++ (lw_privs_3 ++ (lw_privs_4))), lw_okq q
  exact List.forall_mem_append.mpr ⟨lw_r1, List.forall_mem_append.mpr ⟨lw_r2, List.forall_mem_append.mpr ⟨lw_r3, lw_r4⟩⟩⟩
/-! ===== BEGIN words of one list among another's, by their places ===== -/
theorem goodIn_r {big : List Cond} (ws : List Cond) (ps : List Nat) (hp : ws = ps.filterMap (fun i => big[i]?)) (h : ws.all goodWord = true) : GoodIn big ws := by
  intro w hw
  have h1 := List.all_eq_true.mp h w hw
  rw [hp] at hw
  obtain ⟨i, -, hi⟩ := List.mem_filterMap.mp hw
  have hm : w ∈ big := by first | exact List.mem_of_getElem? hi | exact List.getElem?_mem hi
  exact ⟨hm, good_of_word h1⟩
theorem goodIn_app {big a b : List Cond} (ha : GoodIn big a) (hb : GoodIn big b) : GoodIn big (a ++ b) := fun w h => (List.mem_append.mp h).elim (ha w) (hb w)
theorem goodIn_ca {big a b : List Cond} {c : Cond} (ha : GoodIn big (c :: a)) (hb : GoodIn big b) : GoodIn big (c :: (a ++ b)) := fun w h => (List.mem_cons.mp h).elim (fun e => ha w (List.mem_cons.mpr (Or.inl e))) (fun h => (List.mem_append.mp h).elim (fun h => ha w (List.mem_cons.mpr (Or.inr h))) (hb w))
theorem goodIn_sub {big ws : List Cond} (hm : ∀ w ∈ ws, w ∈ big) (h : ws.all goodWord = true) : GoodIn big ws := fun w hw => ⟨hm w hw, good_of_word (List.all_eq_true.mp h w hw)⟩
/-! ===== END ===== -/

/-- the array class over an array class stands in the tables -/
def va_AOA (ty : FieldType) (U : State) : Prop := (Cond.arrayOver (.array ty)).before #[] U = true
theorem va_AOA.of {ty : FieldType} {A : Array Value} {U : State} (h : (Cond.arrayOver (.array ty)).before A U = true) : va_AOA ty U := h
theorem va_AOA.use {ty : FieldType} {A : Array Value} {U : State} (h : va_AOA ty U) : (Cond.arrayOver (.array ty)).before A U = true := h
/-! ===== BEGIN new T[n][m]: the outer array a place, the inner ones among the pooled ===== -/
/-- f, but v at every address of l -/
def vr_up {α : Type} (f : Nat → α) (l : List Nat) (v : α) : Nat → α := fun a => if a ∈ l then v else f a
theorem vr_up_in {α : Type} {f : Nat → α} {l : List Nat} {v : α} {a : Nat} (h : a ∈ l) : vr_up f l v a = v := if_pos h
theorem vr_up_ne {α : Type} {f : Nat → α} {l : List Nat} {v : α} {a : Nat} (h : a ∉ l) : vr_up f l v a = f a := if_neg h
theorem vr_rows {L l : List Nat} {f : Nat → va_E} {e : va_E} (h : ∀ a, a ∈ l → a ∉ L) : va_pl L f ++ l.map (fun a => (a, e)) = va_pl (L ++ l) (vr_up f l e) := by
  unfold va_pl
  rw [List.map_append]
  congr 1
  · apply List.map_congr_left
    intro a ha
    rw [vr_up_ne (fun q => h a q ha)]
  · apply List.map_congr_left
    intro a ha
    rw [vr_up_in ha]
theorem vr_lay {X rows : va_W} {x : Nat × va_E} {pl : va_W} {D : va_G} {cl : List vw_C} {H : Heap} (hP : va_P D cl (((X ++ pl) ++ [x]) ++ rows) H) : va_P D cl ((X ++ [x]) ++ (pl ++ rows)) H := by
  rw [List.append_assoc (X ++ pl)] at hP
  have h := va_P.swap hP
  rw [← List.append_assoc X] at h
  have h2 := va_P.swap h
  rw [List.append_assoc (X ++ [x])] at h2
  exact h2
theorem vr_layD {X rows : va_W} {x : Nat × va_E} {pl : va_W} {A : Nat → Prop} (hD : va_D A (((X ++ pl) ++ [x]) ++ rows)) : va_D A ((X ++ [x]) ++ (pl ++ rows)) := by
  rw [List.append_assoc (X ++ pl)] at hD
  have h := va_D.swap hD
  rw [← List.append_assoc X] at h
  have h2 := va_D.swap h
  rw [List.append_assoc (X ++ [x])] at h2
  exact h2
theorem vr_outer (c : ClassId) (N h0 : Nat) : ∀ i : Nat, Jvm.Free.Multi.outerC c N h0 i = arrV c N (fun j => va_rf (if j < i then some (h0 + 1 + j) else none))
  | 0 => by
    show ({ cls := c, slots := Array.replicate N .null, vm := .none } : Cell) = _
    rw [arrV_new]
    refine congrArg (arrV c N) (funext fun j => ?_)
    simp [va_rf]
  | i + 1 => by
    show (Jvm.Free.Multi.outerC c N h0 i).setSlot i (.ref (h0 + 1 + i)) = _
    rw [vr_outer c N h0 i, arrV_store]
    refine congrArg (arrV c N) (funext fun j => ?_)
    by_cases e : j = i
    · subst e
      simp [updV, va_rf]
    · by_cases h : j < i
      · simp [updV, e, h, Nat.lt_succ_of_lt h]
      · simp [updV, e, h, show ¬ j < i + 1 by omega]
section VGM
variable {p : Program} {l : Launch} {e : Env} {R : Room} {s : State} {m : MethodId} {args : Array Value} {below : List Frame} {meth : Method} {c : Code} {H : Heap} {locs : List Loc} {cells slots : Nat} {Q : State → Prop}
variable {cc : ByteArray} {pc : Nat} {ls : Array Slot} {rest : List Value} {D : va_G} {cl : List vw_C} {A : Nat → Prop} {a : Nat} {tys : List (ClassId × FieldType)} {ws : va_W} {H0 : Heap}
theorem va_mna {X : va_W} {L : List Nat} {f : Nat → va_E} {cc : ByteArray} (hexec : p.tables.exec = Jvm.exec) (hb : c.code = cc) {own : String} {index : Nat} {ty : FieldType} {cy : ClassId} (hown : s.vm.findClass own = some m.cls) (hclink : (Cond.classLink own index ("[" ++ (FieldType.array ty).toString)).before args s = true) (hover : va_AOA ty s) (harr : (Cond.arrayClass ty).before args s = true) (hcy : s.vm.findClass (FieldType.array ty).toString = some cy)
    (hK : va_K D cl tys s) (hP : va_P D cl (X ++ va_pl L f) H) (hD : va_D A (X ++ va_pl L f)) (hS : va_S A H0 H locs) (hA : ∀ q, H0.size ≤ q → A q) {n k : Int32} {N' K' : Nat} {z : vp_A} (hn : ¬ n < 0) (hk : ¬ k < 0) (hN : n.toNatClampNeg = N') (hM : k.toNatClampNeg = K')
    (hb1 : N' * 4 ≤ 536870912) (hb2 : K' * componentBytes ty ≤ 536870912) (hb3 : K' ≤ 536870912) (hdf : fits ty (defaultValue ty) = true) (hdd : (defaultValue ty).isDefault = true) (hcells : cells + (1 + N') ≤ R.cells) (hslots : slots + (N' + N' * K') ≤ R.slots) (hz : ∀ c : ClassId, Jvm.Free.Multi.innerC c K' (defaultValue ty) = vp_cell c z) (hdg : decode cc pc = .ok (.multianewarray index 2, 4))
    (kk : ∀ (q : Nat) (r : Nat → Nat) (cA : ClassId) (H1 : Heap), (∀ i j : Nat, i < N' → j < N' → r i = r j → i = j) → (∀ i : Nat, i < N' → r i ∉ L) → va_K D cl (tys ++ [(cA, .array ty)]) s →
      va_P D cl ((X ++ [(q, .inl (cA, N', .inr (.inr (.inr (.inr (fun i => if i < N' then some (r i) else none))))))]) ++ va_pl (L ++ (List.range N').map r) (vr_up f ((List.range N').map r) (.inl (cy, z)))) H1 → va_D A ((X ++ [(q, .inl (cA, N', .inr (.inr (.inr (.inr (fun i => if i < N' then some (r i) else none))))))]) ++ va_pl (L ++ (List.range N').map r) (vr_up f ((List.range N').map r) (.inl (cy, z)))) → va_S A H0 H1 locs →
      W p l e R s m args below meth c H1 locs (cells + 1 + N') (slots + N' + N' * K') Q (F0 m (pc + 4) ls (.ref q :: rest))) : W p l e R s m args below meth c H locs cells slots Q (F0 m pc ls (.int k :: .int n :: rest)) := by
  subst hN
  subst hM
  intro T hT Xs
  obtain ⟨vm₁, cA, comp, -, fA, fC, hO, -, X', step⟩ := Xs.multianewarray2F hexec hown hclink (va_AOA.use hover) harr (g := F0 m pc ls (.int k :: .int n :: rest)) rfl (by rw [hb]; exact hdg) rfl hn hk hb1 hb2 hb3 hdf hdd hcells hslots
  have ec : some cy = some comp := hcy.symm.trans fC
  cases ec
  generalize hF : Jvm.Free.Multi.fill (T.setVm vm₁) cA cy n.toNatClampNeg k.toNatClampNeg (defaultValue ty) n.toNatClampNeg = F at X' step
  have hTh : (T.setVm vm₁).heap = H := hT
  obtain ⟨f1, f2, -, -⟩ := Jvm.Free.Multi.fill_facts (T.setVm vm₁) cA cy n.toNatClampNeg k.toNatClampNeg (defaultValue ty) n.toNatClampNeg
  rw [hF, hTh] at f1 f2
  have hold : ∀ x : Nat, x < H.size → F.heap[x]? = H[x]? := fun x hx => by
    have := Jvm.Free.Multi.fill_old (T.setVm vm₁) cA cy n.toNatClampNeg k.toNatClampNeg (defaultValue ty) (a := x) (by rw [hTh]; exact hx) n.toNatClampNeg
    rw [hF, hTh] at this
    exact this
  have hrow : ∀ j : Nat, j < n.toNatClampNeg → F.heap[H.size + 1 + j]? = some (vp_cell cy z) := fun j hj => by
    have := Jvm.Free.Multi.fill_inner (T.setVm vm₁) cA cy n.toNatClampNeg k.toNatClampNeg (defaultValue ty) n.toNatClampNeg j hj
    rw [hF, hTh, hz] at this
    exact this
  have hout : Jvm.Free.Multi.outerC cA n.toNatClampNeg H.size n.toNatClampNeg = vp_cell cA (n.toNatClampNeg, .inr (.inr (.inr (.inr (fun i => if i < n.toNatClampNeg then some (H.size + 1 + i) else none))))) := by
    rw [vp_cell_q]
    exact vr_outer cA n.toNatClampNeg H.size n.toNatClampNeg
  rw [hout] at f2
  have hlt : ∀ a, a ∈ L → a < H.size := fun a ha => by
    obtain ⟨k9, hk9⟩ := va_pl_get (X := X) (f := f) ha
    exact (hP k9 _ hk9).lt
  have hnl : ∀ i : Nat, i < n.toNatClampNeg → H.size + 1 + i ∉ L := fun i _ h => by
    have := hlt _ h
    omega
  have hnm : ∀ a, a ∈ (List.range n.toNatClampNeg).map (fun i => H.size + 1 + i) → a ∉ L := fun a ha h => by
    obtain ⟨i, -, rfl⟩ := List.mem_map.mp ha
    have := hlt _ h
    omega
  have hP0 : va_P D cl (X ++ va_pl L f) F.heap := hP.kept (fun k9 x hx => hold x.1 ((hP k9 x hx).lt))
  have hP1 : va_P D cl ((X ++ va_pl L f) ++ [(H.size, .inl (cA, n.toNatClampNeg, .inr (.inr (.inr (.inr (fun i => if i < n.toNatClampNeg then some (H.size + 1 + i) else none))))))]) F.heap := hP0.app (fun k9 x hx => by
    have h0 : k9 < 1 := (List.getElem?_eq_some_iff.mp hx).1
    rw [show k9 = 0 by omega] at hx
    cases hx
    exact f2)
  have hP2 : va_P D cl (((X ++ va_pl L f) ++ [(H.size, .inl (cA, n.toNatClampNeg, .inr (.inr (.inr (.inr (fun i => if i < n.toNatClampNeg then some (H.size + 1 + i) else none))))))]) ++ ((List.range n.toNatClampNeg).map (fun i => H.size + 1 + i)).map (fun a => (a, .inl (cy, z)))) F.heap := hP1.app (fun k9 x hx => by
    obtain ⟨a, ha, rfl⟩ := List.mem_map.mp (List.mem_of_getElem? hx)
    obtain ⟨i, hi, rfl⟩ := List.mem_map.mp ha
    exact hrow i (List.mem_range.mp hi))
  have hD2 : va_D A (((X ++ va_pl L f) ++ [(H.size, .inl (cA, n.toNatClampNeg, .inr (.inr (.inr (.inr (fun i => if i < n.toNatClampNeg then some (H.size + 1 + i) else none))))))]) ++ ((List.range n.toNatClampNeg).map (fun i => H.size + 1 + i)).map (fun a => (a, .inl (cy, z)))) := by
    have hD1 := hD.push (e := .inl (cA, n.toNatClampNeg, .inr (.inr (.inr (.inr (fun i => if i < n.toNatClampNeg then some (H.size + 1 + i) else none)))))) hP rfl (hA _ hS.1)
    generalize hW1 : (X ++ va_pl L f) ++ [(H.size, .inl (cA, n.toNatClampNeg, .inr (.inr (.inr (.inr (fun i => if i < n.toNatClampNeg then some (H.size + 1 + i) else none))))))] = W1 at hD1 hP1 ⊢
    have hle : ∀ (k9 : Nat) (x : Nat × va_E), W1[k9]? = some x → x.1 ≤ H.size := fun k9 x hx => by
      rw [← hW1] at hx
      by_cases hl : k9 < (X ++ va_pl L f).length
      · rw [List.getElem?_append_left hl] at hx
        exact Nat.le_of_lt ((hP k9 x hx).lt)
      · rw [List.getElem?_append_right (by omega)] at hx
        have h0 : k9 - (X ++ va_pl L f).length < 1 := (List.getElem?_eq_some_iff.mp hx).1
        rw [show k9 - (X ++ va_pl L f).length = 0 by omega] at hx
        cases hx
        exact Nat.le_refl _
    have hr : ∀ (k9 : Nat) (x : Nat × va_E), (((List.range n.toNatClampNeg).map (fun i => H.size + 1 + i)).map (fun a => ((a, .inl (cy, z)) : Nat × va_E)))[k9]? = some x → x.1 = H.size + 1 + k9 := fun k9 x hx => by
      rw [List.getElem?_map, List.getElem?_map] at hx
      by_cases h9 : k9 < n.toNatClampNeg
      · rw [List.getElem?_range h9] at hx
        cases hx
        rfl
      · have hn0 : (List.range n.toNatClampNeg)[k9]? = none := List.getElem?_eq_none (by rw [List.length_range]; omega)
        rw [hn0] at hx
        cases hx
    refine ⟨fun i j x y hi hj hxy => ?_, fun k9 x hx => ?_⟩
    · by_cases h1 : i < W1.length <;> by_cases h2 : j < W1.length
      · rw [List.getElem?_append_left h1] at hi
        rw [List.getElem?_append_left h2] at hj
        exact hD1.1 i j x y hi hj hxy
      · rw [List.getElem?_append_left h1] at hi
        rw [List.getElem?_append_right (by omega)] at hj
        have := hle _ _ hi
        have := hr _ _ hj
        omega
      · rw [List.getElem?_append_right (by omega)] at hi
        rw [List.getElem?_append_left h2] at hj
        have := hle _ _ hj
        have := hr _ _ hi
        omega
      · rw [List.getElem?_append_right (by omega)] at hi hj
        have := hr _ _ hi
        have := hr _ _ hj
        omega
    · by_cases h1 : k9 < W1.length
      · rw [List.getElem?_append_left h1] at hx
        exact hD1.2 k9 x hx
      · rw [List.getElem?_append_right (by omega)] at hx
        have := hr _ _ hx
        exact hA _ (by have := hS.1; omega)
  have hAr : ArrOfT s cA (.array ty) := fun N9 z9 => by
    obtain ⟨-, k9, hk9, cm9, hkk9⟩ := (hO 0 0 0).1
    exact ⟨(fun q hq => by cases hq), k9, hk9, cm9, hkk9⟩
  have hK2 : va_K D cl (tys ++ [(cA, .array ty)]) s := ⟨hK.1, fun k9 x hx => by
    by_cases hl : k9 < tys.length
    · rw [List.getElem?_append_left hl] at hx
      exact hK.2 k9 x hx
    · rw [List.getElem?_append_right (by omega)] at hx
      have h0 : k9 - tys.length < 1 := (List.getElem?_eq_some_iff.mp hx).1
      rw [show k9 - tys.length = 0 by omega] at hx
      cases hx
      exact ⟨hAr, fA⟩⟩
  obtain ⟨t, a1, b1⟩ := kk H.size (fun i => H.size + 1 + i) cA F.heap (fun i j _ _ h => by have h9 : H.size + 1 + i = H.size + 1 + j := h; omega) hnl hK2 (by rw [← vr_rows hnm]; exact vr_lay hP2) (by rw [← vr_rows hnm]; exact vr_layD hD2) ⟨by rw [f1]; have := hS.1; omega, fun x h1 h2 => (hold x (Nat.lt_of_lt_of_le h1 hS.1)).trans (hS.2.1 x h1 h2), hS.2.2⟩ F rfl X'
  refine ⟨t, step t ?_, b1⟩
  have e : T.heap.size = H.size := by rw [hT]
  rw [e]
  exact a1
end VGM
/-! ===== END ===== -/

/-! ===== BEGIN exceptions that leave a method, and their catching by the caller (launches without stack traces) ===== -/
section VXA
/-! The laws vx_back, vx_callV, vx_callS, vx_callSW, vx_throw0, vx_throwS follow proofs of the library, with one case more: JvmDerived/Free/Laws.lean (Back.of_free), Shelf42/LK1.lean (callV, callS), Shelf/KitTraced.lean (throwNew0V, throwNewS). -/
/-- where a method has thrown q: the class by its name, the cell, what was written, the world -/
def vx_T (XC : String → State → State → Prop) (st : State) (q : Addr) (t : State) (mc ms : Nat) (free : Addr → Prop) : Prop :=
  ∃ (E : String) (ce : Cell) (L : List Loc), XC E st t ∧ t.heap[q]? = some ce ∧ ce.vm = .none ∧ st.vm.findClass E = some ce.cls ∧ st.WarmedH t.vm ∧ st.sameButNew ({ t with vm := st.vm } : State) L mc ms ∧ ∀ z ∈ L, free z.base
def vx_Q (Qc : Array Value → State → Outcome → State → Prop) (XC : String → State → State → Prop) (mc ms : Nat) (free : Addr → Prop) : Array Value → State → Outcome → State → Prop := fun a st o t =>
  (Qc a st o t ∧ ∃ L, FrameEnd st o t L mc ms ∧ ∀ q ∈ L, free q.base) ∨ ∃ q, o = .threw q ∧ vx_T XC st q t mc ms free
/-- a callee that returns or throws -/
def vx_Met (l : Launch) (y : MethodName) (ws : List Cond) (rm : Room) (Pc : Array Value → State → Prop) (Qc : Array Value → State → Outcome → State → Prop) (XC : String → State → State → Prop) (mc ms : Nat) (free : Addr → Prop) : Prop :=
  MetFree l y (headSpec ws rm) Pc (fun _ _ _ _ _ => True) (vx_Q Qc XC mc ms free)
def vx_Post (XC : String → State → State → Prop) (mc ms : Nat) (free : Addr → Prop) : Pt → Array Value → Addr → Pt → Prop := fun A a q B =>
  ∃ (g : JFrame) (mk : MethodId) (t : State) (L : List Loc) (E : String) (ce : Cell), B.U.heap = t.heap ∧ B.U.vm = t.vm ∧ XC E (A.U.calling g mk a) t ∧ t.heap[q]? = some ce ∧ ce.vm = .none ∧ A.U.vm.findClass E = some ce.cls ∧ B.locs = A.locs ++ L ∧ (∀ z ∈ L, free z.base) ∧ B.cells = A.cells + mc ∧ B.slots = A.slots + ms
def vx_Back (l : Launch) (R : Room) (p : Program) (e : Env) (below : List Frame) (s : State) (sargs : Array Value) (y : MethodName) (len W9 : Nat)
    (Pre : Pt → Array Value → Prop) (Post : Pt → Array Value → Option Value → Pt → Prop) (PostX : Pt → Array Value → Addr → Pt → Prop) : Prop :=
  ∀ (m : MethodId) (meth : Method) (c : Code) (A : Pt) (g : JFrame) (ig : Instr) (mk : MethodId) (a : Array Value),
    Stand p l e R s m sargs below meth c A.U A.locs A.cells A.slots → g.method = m → g.locals.size = c.maxLocals → decode c.code g.pc = .ok (ig, len) →
    2 * g.monitorRoom + (g.stack.map fun v => v.category).sum ≤ W9 → A.U.methodNamed? y = some mk → Pre A a →
    (∃ (v : Option Value) (B : Pt), Stand p l e R s m sargs below meth c B.U B.locs B.cells B.slots ∧ Post A a v B ∧
      Steps p.tables e below (doInvoke e (A.U.setTop g) [] mk a).1 (B.U.setTop { g with pc := g.pc + len, stack := v.toList ++ g.stack })) ∨
    (∃ (q : Addr) (B : Pt), Stand p l e R s m sargs below meth c B.U B.locs B.cells B.slots ∧ PostX A a q B ∧
      Steps p.tables e below (doInvoke e (A.U.setTop g) [] mk a).1 ((B.U.setTop g).pushFrame (.throwing q)))
section Payer
variable {l : Launch} {R : Room} {p : Program} {e : Env} {below : List Frame} {s : State} {sargs : Array Value} {y : MethodName} {len W9 : Nat}
theorem vx_back {ws : List Cond} {rm : Room} {Pc : Array Value → State → Prop} {Qc : Array Value → State → Outcome → State → Prop} {XC : String → State → State → Prop} {mc ms : Nat} {free : Addr → Prop} {bytes : ByteArray} {maxL : Nat} {ret : Option FieldType}
    (hM : vx_Met l y ws rm Pc Qc XC mc ms free) (hblind : FrameBlind Pc) (hrc : rm.cells = mc) (hrs : rm.slots = ms)
    (hframes : rm.frames + 1 ≤ R.frames) (hlocals : W9 + (maxL + 11) + rm.locals ≤ R.locals)
    (hws : ∀ w ∈ ws, ∀ a' U, s.WarmedH U.vm → w.before a' U = true) (hcode : Cond.code y bytes maxL ret ∈ ws) (hinit : ∀ a' U, s.WarmedH U.vm → (Cond.initialized y.cls).before a' U = true) :
    vx_Back l R p e below s sargs y len W9 (PreOf R mc ms Pc) (PostOf Qc mc ms free) (vx_Post XC mc ms free) := by
  intro m meth c A g ig mk a X hg hsize hdg hW hn hp
  have h1 : (headSpec ws rm).pre.before a A.U = true := atoms_intro fun w hw => hws w hw _ _ X.warmed
  have h2 : (Cond.code y bytes maxL ret).before a A.U = true := hws _ hcode _ _ X.warmed
  have h3 : (Cond.initialized y.cls).before a A.U = true := hinit _ _ X.warmed
  have h4 : A.cells + (headSpec ws rm).room.cells ≤ R.cells := by rw [show (headSpec ws rm).room.cells = mc from hrc]; exact hp.1
  have h5 : A.slots + (headSpec ws rm).room.slots ≤ R.slots := by rw [show (headSpec ws rm).room.slots = ms from hrs]; exact hp.2.1
  have hPc : Pc a (A.U.calling g mk a) := hblind _ _ _ _ hp.2.2
  obtain ⟨U, Ls, c0, s0⟩ := A
  dsimp only [Pt.U, Pt.locs, Pt.cells, Pt.slots] at h1 h2 h3 h4 h5 X hn hPc ⊢
  obtain ⟨methY, cY, hmY, hcY, -, hlY, -, -, -, -⟩ := Cond.code_spec hn h2
  obtain ⟨kY, hkY, -⟩ := className_of_methodNamed hn
  have hinitY : kY.init = .initialized := Cond.initialized_spec (findClass_of_methodNamed hn) hkY h3
  have h : At U g.method c below := by rw [hg]; exact X.here
  have hlocals9 : W9 + (maxL + 11) + (headSpec ws rm).room.locals ≤ R.locals := hlocals
  have happ : (headSpec ws rm).appliesLoose y e.platform (U.calling g mk a) = true :=
    Spec.appliesLoose_calling (g := g) h hdg hn hkY hinitY
      (X.room_calling (g := g) (R' := (headSpec ws rm).room) hsize hmY hcY hframes (by rw [hlY]; omega) h4 h5) h1
  obtain ⟨mid, hmid⟩ := h.above
  have hfr : (U.setTop g).frames = (.java g :: mid) ++ below := by rw [State.frames_setTop' g h.top, hmid]; rfl
  obtain ⟨o, s₂, hsteps, -, hend, hq⟩ := Steps.callFree hM p X.admits X.cas X.clock (acts := []) hfr happ hPc trivial
  have hq' : vx_Q Qc XC mc ms free a (U.calling g mk a) o s₂ := hq
  rw [State.frames_setTop' g h.top] at hend
  obtain ⟨g₀, hg0⟩ := Option.isSome_iff_exists.mp h.top
  obtain ⟨r, hr⟩ := State.topJava?_eq_some.mp hg0
  have hr' : (({ U with heap := s₂.heap, slotsUsed := s₂.slotsUsed } : State).setVm s₂.vm).frames = .java g₀ :: r := hr
  rcases hq' with ⟨hqc, L, hfe, hL⟩ | ⟨q, rfl, E, ce, L, hx, hce, hcv, hcl, hW₂, hsm, hL⟩
  · obtain ⟨⟨v, rfl⟩, hW₂, e2, q2, q3, q4, q5, q6⟩ := id hfe
    have e3 : s₂ = ({ (U.calling g mk a).setFrames s₂.frames with heap := s₂.heap, slotsUsed := s₂.slotsUsed } : State).setVm s₂.vm := by
      have : s₂ = ({ s₂ with vm := (U.calling g mk a).vm } : State).setVm s₂.vm := rfl
      rw [e2] at this
      exact this
    obtain ⟨c₂, i₂, len₂, hc₂, hd₂, hf₂⟩ := hend
    have hW' : U.WarmedH s₂.vm := hW₂
    have hcc : c₂ = c := by
      have h1 : s₂.code? g.method = U.code? g.method := by
        rw [State.code?_eq, State.code?_eq, hW'.alike.method?]
      exact Option.some.inj (hc₂.symm.trans (h1.trans h.code))
    subst hcc
    have hlen : len₂ = len := by rw [hdg] at hd₂; cases hd₂; rfl
    subst hlen
    have hs₂ : s₂ = (({ U with heap := s₂.heap, slotsUsed := s₂.slotsUsed } : State).setVm s₂.vm).setTop { g with pc := g.pc + len₂, stack := v.toList ++ g.stack } := by
      refine e3.trans ?_
      rw [hf₂, State.calling_eq h.top, State.setFrames_setFrames, State.setTop_of_frames _ hr', hr]
      rfl
    have hsame : U.sameButNew ({ U with heap := s₂.heap, slotsUsed := s₂.slotsUsed } : State) L mc ms := by
      refine ⟨?_, q2, q3, q4, q5, q6⟩
      obtain ⟨t, ht, -⟩ := State.frames_cons hr
      show ({ U with heap := s₂.heap, slotsUsed := s₂.slotsUsed } : State) = { U.setFrames U.frames with heap := s₂.heap, slotsUsed := s₂.slotsUsed }
      rw [State.setFrames_self ht]
    subst hg
    refine Or.inl ⟨v, ⟨(({ U with heap := s₂.heap, slotsUsed := s₂.slotsUsed } : State).setVm s₂.vm), Ls ++ L, c0 + mc, s0 + ms⟩,
      ⟨X.admits, X.cas, X.clock, X.frames, X.room, X.hears, X.method, X.code, (X.here.setHeapUsed s₂.heap s₂.slotsUsed).setVm hW'.alike, X.tail, State.WarmedH.trans X.warmed hW', X.limits, X.bytes, X.same.trans (hsame.setVm s.vm)⟩,
      ⟨g, mk, s₂, L, rfl, rfl, hqc, rfl, hL, rfl, rfl⟩, ?_⟩
    show Steps p.tables e below _ ((({ U with heap := s₂.heap, slotsUsed := s₂.slotsUsed } : State).setVm s₂.vm).setTop { g with pc := g.pc + len₂, stack := v.toList ++ g.stack })
    rw [← hs₂]
    exact hsteps
  · obtain ⟨e2, q2, q3, q4, q5, q6⟩ := id hsm
    have e3 : s₂ = ({ (U.calling g mk a).setFrames s₂.frames with heap := s₂.heap, slotsUsed := s₂.slotsUsed } : State).setVm s₂.vm := by
      have : s₂ = ({ s₂ with vm := (U.calling g mk a).vm } : State).setVm s₂.vm := rfl
      rw [e2] at this
      exact this
    have hf₂ : s₂.frames = .throwing q :: .java g :: U.frames.tail := hend
    have hW' : U.WarmedH s₂.vm := hW₂
    have hs₂ : s₂ = ((({ U with heap := s₂.heap, slotsUsed := s₂.slotsUsed } : State).setVm s₂.vm).setTop g).pushFrame (.throwing q) := by
      refine e3.trans ?_
      rw [hf₂, State.calling_eq h.top, State.setFrames_setFrames, State.pushFrame, State.frames_setTop _ hr', State.setTop_of_frames _ hr', State.setFrames_setFrames, hr]
      rfl
    have hsame : U.sameButNew ({ U with heap := s₂.heap, slotsUsed := s₂.slotsUsed } : State) L mc ms := by
      refine ⟨?_, q2, q3, q4, q5, q6⟩
      obtain ⟨t, ht, -⟩ := State.frames_cons hr
      show ({ U with heap := s₂.heap, slotsUsed := s₂.slotsUsed } : State) = { U.setFrames U.frames with heap := s₂.heap, slotsUsed := s₂.slotsUsed }
      rw [State.setFrames_self ht]
    subst hg
    refine Or.inr ⟨q, ⟨(({ U with heap := s₂.heap, slotsUsed := s₂.slotsUsed } : State).setVm s₂.vm), Ls ++ L, c0 + mc, s0 + ms⟩,
      ⟨X.admits, X.cas, X.clock, X.frames, X.room, X.hears, X.method, X.code, (X.here.setHeapUsed s₂.heap s₂.slotsUsed).setVm hW'.alike, X.tail, State.WarmedH.trans X.warmed hW', X.limits, X.bytes, X.same.trans (hsame.setVm s.vm)⟩,
      ⟨g, mk, s₂, L, E, ce, rfl, rfl, hx, hce, hcv, hcl, rfl, hL, rfl, rfl⟩, ?_⟩
    show Steps p.tables e below _ (((({ U with heap := s₂.heap, slotsUsed := s₂.slotsUsed } : State).setVm s₂.vm).setTop g).pushFrame (.throwing q))
    rw [← hs₂]
    exact hsteps
end Payer
section Calls
variable {p : Program} {l : Launch} {e : Env} {R : Room} {s : State} {m : MethodId} {args : Array Value} {below : List Frame} {meth : Method} {c : Code} {T : State} {locs : List Loc} {cells slots : Nat}
theorem vx_callV (X : Stand p l e R s m args below meth c T locs cells slots) (hexec : p.tables.exec = Jvm.exec) {own C : String} {index : Nat} {y : MethodName} {bytes : ByteArray} {maxL : Nat} {ret : Option FieldType}
    (hown : s.vm.findClass own = some m.cls) (hlink : (Cond.methodLink own index y).before args s = true) (hinst : (Cond.instanceMethod y).before args s = true) (hsel : (Cond.selects C y y).before args s = true)
    (hcode : (Cond.code y bytes maxL ret).before args s = true) (hy : y.cls ≠ "java/lang/invoke/MethodHandle" ∧ y.cls ≠ "java/lang/invoke/VarHandle")
    {W9 : Nat} {Pre : Pt → Array Value → Prop} {Post : Pt → Array Value → Option Value → Pt → Prop} {PostX : Pt → Array Value → Addr → Pt → Prop} (hK : vx_Back l R p e below s args y 3 W9 Pre Post PostX)
    {b : Addr} {cellB : Cell} (hcell : T.heap[b]? = some cellB) (hobj : cellB.vm.isStatics = false) (hcls : s.vm.findClass C = some cellB.cls)
    {g : JFrame} (hg : g.method = m) (hsize : g.locals.size = c.maxLocals) {argsL rest : List Value} (hlen : ∀ sig, parseMethodDescriptor y.desc = some sig → argsL.length = sig.parameters.length)
    (hstack : g.stack = argsL.reverse ++ .ref b :: rest) (hW : 2 * g.monitorRoom + (rest.map fun v => v.category).sum ≤ W9) (hdg : decode c.code g.pc = .ok (.invokevirtual index, 3))
    (hpre : ∀ vm₁, s.WarmedH vm₁ → Pre ⟨T.setVm vm₁, locs, cells, slots⟩ (Value.ref b :: argsL).toArray) :
    (∃ (v : Option Value) (vm₁ : Vm) (B : Pt), s.WarmedH vm₁ ∧ Stand p l e R s m args below meth c B.U B.locs B.cells B.slots ∧ Post ⟨T.setVm vm₁, locs, cells, slots⟩ (Value.ref b :: argsL).toArray v B ∧
      ∀ target, Steps p.tables e below (B.U.setTop { g with pc := g.pc + 3, stack := v.toList ++ rest }) target → Steps p.tables e below (T.setTop g) target) ∨
    (∃ (q : Addr) (vm₁ : Vm) (B : Pt), s.WarmedH vm₁ ∧ Stand p l e R s m args below meth c B.U B.locs B.cells B.slots ∧ PostX ⟨T.setVm vm₁, locs, cells, slots⟩ (Value.ref b :: argsL).toArray q B ∧
      Steps p.tables e below (T.setTop g) ((B.U.setTop { g with stack := rest }).pushFrame (.throwing q))) := by
  obtain ⟨mk, methM, hnamed, hmethM, hstM, habM⟩ := Cond.instanceMethod_spec hinst
  obtain ⟨methM', cM, hmethM', -, -, -, -, -, -, hsigM⟩ := Cond.code_spec hnamed hcode
  cases hmethM.symm.trans hmethM'
  obtain ⟨c2, r2, m2, q1, q2, q3, q4, kP, hkP, hkPi⟩ := Cond.selects_spec hsel
  cases hcls.symm.trans q1
  cases (State.methodFound?_of_named hnamed hy).symm.trans q2
  cases hnamed.symm.trans q3
  have hselP : selectMethod e.platform s.vm cellB.cls mk = .method mk := by rw [Launch.admits_selectMethod X.admits]; exact q4
  obtain ⟨vm₁, X₁, hstep₁⟩ := X.invokevirtual hexec hown hlink hnamed hmethM hstM hkP hkPi hy (a := b) (cell := cellB) hcell
    (fun z h => by rw [h] at hobj; cases hobj) hselP hmethM habM hkP hkPi (g := g) hg (argsL := argsL) (rest := rest) (hlen _ hsigM) hstack hdg
  rcases hK m meth c ⟨T.setVm vm₁, locs, cells, slots⟩ { g with stack := rest } (.invokevirtual index) mk (Value.ref b :: argsL).toArray X₁ hg hsize hdg hW (X₁.named hnamed) (hpre vm₁ X₁.warmed) with ⟨v, B, X', hpost, hsteps⟩ | ⟨q, B, X', hpost, hsteps⟩
  · exact Or.inl ⟨v, vm₁, B, X₁.warmed, X', hpost, fun target h => hstep₁ _ fun acts => by rw [doInvoke_state]; exact hsteps.trans h⟩
  · exact Or.inr ⟨q, vm₁, B, X₁.warmed, X', hpost, hstep₁ _ fun acts => by rw [doInvoke_state]; exact hsteps⟩
theorem vx_callS (X : Stand p l e R s m args below meth c T locs cells slots) (hexec : p.tables.exec = Jvm.exec) {own : String} {index : Nat} {y : MethodName} {bytes : ByteArray} {maxL : Nat} {ret : Option FieldType}
    (hown : s.vm.findClass own = some m.cls) (hlink : (Cond.methodLink own index y).before args s = true) (hstat : (Cond.static y).before args s = true) (hinit : (Cond.initialized y.cls).before args s = true)
    (hcode : (Cond.code y bytes maxL ret).before args s = true) (hy : y.cls ≠ "java/lang/invoke/MethodHandle" ∧ y.cls ≠ "java/lang/invoke/VarHandle")
    {W9 : Nat} {Pre : Pt → Array Value → Prop} {Post : Pt → Array Value → Option Value → Pt → Prop} {PostX : Pt → Array Value → Addr → Pt → Prop} (hK : vx_Back l R p e below s args y 3 W9 Pre Post PostX)
    {g : JFrame} (hg : g.method = m) (hsize : g.locals.size = c.maxLocals) {argsL rest : List Value} (hlen : ∀ sig, parseMethodDescriptor y.desc = some sig → argsL.length = sig.parameters.length)
    (hstack : g.stack = argsL.reverse ++ rest) (hW : 2 * g.monitorRoom + (rest.map fun v => v.category).sum ≤ W9) (hdg : decode c.code g.pc = .ok (.invokestatic index, 3))
    (hpre : ∀ vm₁, s.WarmedH vm₁ → Pre ⟨T.setVm vm₁, locs, cells, slots⟩ argsL.toArray) :
    (∃ (v : Option Value) (vm₁ : Vm) (B : Pt), s.WarmedH vm₁ ∧ Stand p l e R s m args below meth c B.U B.locs B.cells B.slots ∧ Post ⟨T.setVm vm₁, locs, cells, slots⟩ argsL.toArray v B ∧
      ∀ target, Steps p.tables e below (B.U.setTop { g with pc := g.pc + 3, stack := v.toList ++ rest }) target → Steps p.tables e below (T.setTop g) target) ∨
    (∃ (q : Addr) (vm₁ : Vm) (B : Pt), s.WarmedH vm₁ ∧ Stand p l e R s m args below meth c B.U B.locs B.cells B.slots ∧ PostX ⟨T.setVm vm₁, locs, cells, slots⟩ argsL.toArray q B ∧
      Steps p.tables e below (T.setTop g) ((B.U.setTop { g with stack := rest }).pushFrame (.throwing q))) := by
  obtain ⟨mk, hnamed⟩ := Cond.code_named hcode
  obtain ⟨methM, cM, hmethM, -, -, -, -, -, -, hsigM⟩ := Cond.code_spec hnamed hcode
  have hstatic : methM.isStatic = true := Cond.static_spec hnamed hmethM hstat
  obtain ⟨kP, hkP, -⟩ := className_of_methodNamed hnamed
  have hinitP : kP.init = .initialized := Cond.initialized_spec (findClass_of_methodNamed hnamed) hkP hinit
  obtain ⟨vm₁, X₁, hstep₁⟩ := X.invokestatic hexec hown hlink hnamed hmethM hstatic hkP hinitP hy (g := g) hg (argsL := argsL) (rest := rest) (hlen _ hsigM) hstack hdg
  rcases hK m meth c ⟨T.setVm vm₁, locs, cells, slots⟩ { g with stack := rest } (.invokestatic index) mk argsL.toArray X₁ hg hsize hdg hW (X₁.named hnamed) (hpre vm₁ X₁.warmed) with ⟨v, B, X', hpost, hsteps⟩ | ⟨q, B, X', hpost, hsteps⟩
  · exact Or.inl ⟨v, vm₁, B, X₁.warmed, X', hpost, fun target h => hstep₁ _ fun acts => by rw [doInvoke_state]; exact hsteps.trans h⟩
  · exact Or.inr ⟨q, vm₁, B, X₁.warmed, X', hpost, hstep₁ _ fun acts => by rw [doInvoke_state]; exact hsteps⟩
end Calls
theorem vx_cls {s : State} {T : State} {vm₁ : Vm} {E : String} {k : ClassId} (hW : s.WarmedH vm₁) (h : (T.setVm vm₁).vm.findClass E = some k) : s.vm.findClass E = some k := by
  have h1 : vm₁.findClass E = some k := h
  rw [hW.alike.findClass] at h1
  exact h1
/-- the method's frame g, with q thrown over it -/
def vx_W (p : Program) (l : Launch) (e : Env) (R : Room) (s : State) (m : MethodId) (args : Array Value) (below : List Frame) (meth : Method) (c : Code) (H : Heap) (locs : List Loc) (cells slots : Nat) (Q : State → Prop) (g : JFrame) (q : Addr) : Prop :=
  ∀ T : State, T.heap = H → Stand p l e R s m args below meth c T locs cells slots → ∃ t, Steps p.tables e below ((T.setTop g).pushFrame (.throwing q)) t ∧ Q t
def vx_Run (p : Program) (l : Launch) (e : Env) (R : Room) (s : State) (m : MethodId) (args : Array Value) (below : List Frame) (meth : Method) (c : Code) (H : Heap) (locs : List Loc) (cells slots mc ms : Nat) (g : JFrame) (rest : List Value) (Qa : State → Outcome → State → Prop) (XC : String → State → State → Prop) (free : Addr → Prop) : Prop :=
  ∀ T : State, T.heap = H → Stand p l e R s m args below meth c T locs cells slots →
    (∃ (v : Option Value) (st₀ t T' : State) (L : List Loc), st₀.heap = H ∧ Stand p l e R s m args below meth c T' (locs ++ L) (cells + mc) (slots + ms) ∧ (∀ q ∈ L, free q.base) ∧ T'.heap = t.heap ∧ T'.vm = t.vm ∧ Qa st₀ (.returned v) t ∧
      Goes p e below T g T' { g with pc := g.pc + 3, stack := v.toList ++ rest }) ∨
    (∃ (q : Addr) (st₀ t T' : State) (L : List Loc) (E : String) (ce : Cell), st₀.heap = H ∧ Stand p l e R s m args below meth c T' (locs ++ L) (cells + mc) (slots + ms) ∧ (∀ z ∈ L, free z.base) ∧ T'.heap = t.heap ∧ T'.vm = t.vm ∧ XC E st₀ t ∧ t.heap[q]? = some ce ∧ ce.vm = .none ∧ s.vm.findClass E = some ce.cls ∧
      Steps p.tables e below (T.setTop g) ((T'.setTop { g with stack := rest }).pushFrame (.throwing q)))
def vx_X {S : Type} (px : S → Prop) (B : String → S → State → Prop) (A : Nat → Prop) : String → State → State → Prop := fun E st t => ∃ u : S, px u ∧ B E u t ∧ va_F A st t
section Runs
variable {p : Program} {l : Launch} {e : Env} {R : Room} {s : State} {m : MethodId} {args : Array Value} {below : List Frame} {meth : Method} {c : Code} {H : Heap} {locs : List Loc} {cells slots : Nat}
variable {y : MethodName} {bytes cc : ByteArray} {maxL nL mc ms n index : Nat} {ret : Option FieldType} {ws : List Cond} {rm : Room} {Pc : Array Value → State → Prop} {Qc : Array Value → State → Outcome → State → Prop} {XC : String → State → State → Prop} {free : Addr → Prop} {Ts : List Cond} {own C : String} {b : Addr} {As rest : List Value} {g : JFrame}
theorem vx_callBack (cb : CallB R s args own index y bytes maxL ret ws rm mc ms n) (hM : vx_Met l y ws rm Pc Qc XC mc ms free) (hbl : FrameBlind Pc) : vx_Back l R p e below s args y 3 8 (PreOf R mc ms Pc) (PostOf Qc mc ms free) (vx_Post XC mc ms free) := by
  obtain ⟨hrc, hrs, hfr, hlo, hws, hcw, -, hini, -⟩ := cb
  exact vx_back (bytes := bytes) (maxL := maxL) (ret := ret) hM hbl hrc hrs hfr hlo hws hcw (fun a' U hW => word_at hW (Or.inl (by first | rfl | simp [Cond.onTables, Cond.keeps, Cond.steady])) hini)
theorem vx_runV (S : CallFix p m c cc nL s args Ts own) (hM : vx_Met l y ws rm Pc Qc XC mc ms free) (cw : CallW R s args own C index y bytes maxL ret ws rm mc ms n) (hp : PreV s H C b Pc As)
    (hg : g.method = m) (hn : As.length = n) (hsize : g.locals.size = nL) (hstack : g.stack = As.reverse ++ .ref b :: rest) (hW : 2 * g.monitorRoom + (rest.map fun v => v.category).sum ≤ 8) (hdg : decode cc g.pc = .ok (.invokevirtual index, 3)) (hf : cells + mc ≤ R.cells ∧ slots + ms ≤ R.slots) :
    vx_Run p l e R s m args below meth c H locs cells slots mc ms g rest (Qc (Value.ref b :: As).toArray) XC free := by
  have hK : vx_Back l R p e below s args y 3 8 (PreOf R mc ms Pc) (PostOf Qc mc ms free) (vx_Post XC mc ms free) := vx_callBack cw.1 hM hp.1
  obtain ⟨⟨-, -, -, -, -, -, hcode, -, hy, hlen, hl⟩, hin, hse⟩ := cw
  obtain ⟨hx, hb, hml, ho, -⟩ := S
  obtain ⟨-, ⟨cellB, hcB, hoB, hclB⟩, hPc⟩ := hp
  intro T hT X
  rcases vx_callV X hx (C := C) (bytes := bytes) (maxL := maxL) (ret := ret) ho hl hin hse hcode hy hK (by rw [hT]; exact hcB) hoB hclB hg (hsize.trans hml.symm) (argsL := As) (rest := rest) (fun sig h => hn.trans (hlen sig h)) hstack hW (by rw [hb]; exact hdg)
    (fun vm₁ hW₁ => ⟨hf.1, hf.2, hPc (T.setVm vm₁) hT hW₁⟩) with ⟨v, vm₁, ⟨U', l2, c2, s2⟩, hW₁, X', ⟨g', mk, t, L, e1, e2, hq, h1, hL, h2, h3⟩, st⟩ | ⟨q, vm₁, ⟨U', l2, c2, s2⟩, hW₁, X', ⟨g', mk, t, L, E, ce, e1, e2, hq, hce, hcv, hcl, h1, hL, h2, h3⟩, st⟩
  · dsimp only [Pt.U, Pt.locs, Pt.cells, Pt.slots] at X' e1 e2 h1 h2 h3 st
    subst h1; subst h2; subst h3
    exact Or.inl ⟨v, (T.setVm vm₁).calling g' mk (Value.ref b :: As).toArray, t, U', L, hT, X', hL, e1, e2, hq, st⟩
  · dsimp only [Pt.U, Pt.locs, Pt.cells, Pt.slots] at X' e1 e2 h1 h2 h3 st hcl
    subst h1; subst h2; subst h3
    exact Or.inr ⟨q, (T.setVm vm₁).calling g' mk (Value.ref b :: As).toArray, t, U', L, E, ce, hT, X', hL, e1, e2, hq, hce, hcv, vx_cls hW₁ hcl, st⟩
theorem vx_runS (S : CallFix p m c cc nL s args Ts own) (hM : vx_Met l y ws rm Pc Qc XC mc ms free) (cw : CallB R s args own index y bytes maxL ret ws rm mc ms n ∧ (Cond.static y).before args s = true) (hp : PreS s H Pc As)
    (hg : g.method = m) (hn : As.length = n) (hsize : g.locals.size = nL) (hstack : g.stack = As.reverse ++ rest) (hW : 2 * g.monitorRoom + (rest.map fun v => v.category).sum ≤ 8) (hdg : decode cc g.pc = .ok (.invokestatic index, 3)) (hf : cells + mc ≤ R.cells ∧ slots + ms ≤ R.slots) :
    vx_Run p l e R s m args below meth c H locs cells slots mc ms g rest (Qc As.toArray) XC free := by
  have hK : vx_Back l R p e below s args y 3 8 (PreOf R mc ms Pc) (PostOf Qc mc ms free) (vx_Post XC mc ms free) := vx_callBack cw.1 hM hp.1
  obtain ⟨⟨-, -, -, -, -, -, hcode, hini, hy, hlen, hl⟩, hstt⟩ := cw
  obtain ⟨hx, hb, hml, ho, -⟩ := S
  intro T hT X
  rcases vx_callS X hx (bytes := bytes) (maxL := maxL) (ret := ret) ho hl hstt hini hcode hy hK hg (hsize.trans hml.symm) (argsL := As) (rest := rest) (fun sig h => hn.trans (hlen sig h)) hstack hW (by rw [hb]; exact hdg)
    (fun vm₁ hW₁ => ⟨hf.1, hf.2, hp.2 (T.setVm vm₁) hT hW₁⟩) with ⟨v, vm₁, ⟨U', l2, c2, s2⟩, hW₁, X', ⟨g', mk, t, L, e1, e2, hq, h1, hL, h2, h3⟩, st⟩ | ⟨q, vm₁, ⟨U', l2, c2, s2⟩, hW₁, X', ⟨g', mk, t, L, E, ce, e1, e2, hq, hce, hcv, hcl, h1, hL, h2, h3⟩, st⟩
  · dsimp only [Pt.U, Pt.locs, Pt.cells, Pt.slots] at X' e1 e2 h1 h2 h3 st
    subst h1; subst h2; subst h3
    exact Or.inl ⟨v, (T.setVm vm₁).calling g' mk As.toArray, t, U', L, hT, X', hL, e1, e2, hq, st⟩
  · dsimp only [Pt.U, Pt.locs, Pt.cells, Pt.slots] at X' e1 e2 h1 h2 h3 st hcl
    subst h1; subst h2; subst h3
    exact Or.inr ⟨q, (T.setVm vm₁).calling g' mk As.toArray, t, U', L, E, ce, hT, X', hL, e1, e2, hq, hce, hcv, vx_cls hW₁ hcl, st⟩
end Runs
section Rows
variable {p : Program} {l : Launch} {e : Env} {R : Room} {s : State} {m : MethodId} {args : Array Value} {below : List Frame} {meth : Method} {c : Code} {H : Heap} {locs : List Loc} {cells slots : Nat} {Q : State → Prop}
variable {mc ms : Nat} {free : Addr → Prop} {A0 A1 : Nat → Prop} {H0 : Heap} {a : Array Value} {pc : Nat} {ls : Array Slot} {st0 rest : List Value}
theorem vx_keep {st₀ t T' : State} {L : List Loc} (h0 : st₀.heap = H) (e1 : T'.heap = t.heap) (hS : va_S A0 H0 H locs) (hA : ∀ q, q < H.size → A1 q → A0 q) (hf : ∀ q, free q → A0 q) (hL : ∀ q ∈ L, free q.base) (hF : va_F A1 st₀ t) :
    H.size ≤ T'.heap.size ∧ (∀ q : Nat, q < H.size → ¬ A1 q → T'.heap[q]? = H[q]?) ∧ va_S A0 H0 T'.heap (locs ++ L) := by
  obtain ⟨hz, hk⟩ := hF
  rw [h0] at hz hk
  exact ⟨by rw [e1]; exact hz, fun q h1 h2 => by rw [e1]; exact hk q h1 h2,
    ⟨Nat.le_trans hS.1 (by rw [e1]; exact hz), fun q h1 h2 => by rw [e1, hk q (Nat.lt_of_lt_of_le h1 hS.1) (fun z => h2 (hA q (Nat.lt_of_lt_of_le h1 hS.1) z))]; exact hS.2.1 q h1 h2, fun q hq => by
      rcases List.mem_append.mp hq with h | h
      · exact hS.2.2 q h
      · exact hf _ (hL q h)⟩⟩
theorem vx_calli {S SX : Type} {post : Int32 → S → Prop} {px : SX → Prop} {B : S → State → Prop} {BX : String → SX → State → Prop} {AX : Nat → Prop} (hr : vx_Run p l e R s m args below meth c H locs cells slots mc ms (F0 m pc ls st0) rest (va_Qi post B A1 a) (vx_X px BX AX) free) (hS : va_S A0 H0 H locs) (hA : ∀ q, q < H.size → A1 q → A0 q) (hf : ∀ q, free q → A0 q) (hAX : ∀ q, q < H.size → AX q → A0 q)
    (kx : ∀ (E : String) (ce : Cell) (q9 : Addr) (u : SX) (t : State) (H1 : Heap) (locs1 : List Loc), t.heap = H1 → s.vm.Alike t.vm → px u → BX E u t → H.size ≤ H1.size → (∀ q : Nat, q < H.size → ¬ AX q → H1[q]? = H[q]?) → va_S A0 H0 H1 locs1 → H1[q9]? = some ce → ce.vm = .none → s.vm.findClass E = some ce.cls → vx_W p l e R s m args below meth c H1 locs1 (cells + mc) (slots + ms) Q (F0 m pc ls rest) q9)
    (kk : ∀ (r : Int32) (u : S) (t : State) (H1 : Heap) (locs1 : List Loc), t.heap = H1 → s.vm.Alike t.vm → post r u → B u t → H.size ≤ H1.size → (∀ q : Nat, q < H.size → ¬ A1 q → H1[q]? = H[q]?) → va_S A0 H0 H1 locs1 → W p l e R s m args below meth c H1 locs1 (cells + mc) (slots + ms) Q (F0 m (pc + 3) ls (.int r :: rest))) : W p l e R s m args below meth c H locs cells slots Q (F0 m pc ls st0) := by
  intro T hT X
  rcases hr T hT X with ⟨v, st₀, t, T', L, h0, X', hL, e1, e2, ⟨⟨r, u, hv, hp, hb⟩, hF⟩, st⟩ | ⟨q, st₀, t, T', L, E, ce, h0, X', hL, e1, e2, ⟨u, hp, hb, hF⟩, hce, hcv, hcl, st⟩
  · cases hv
    obtain ⟨k1, k2, k3⟩ := vx_keep h0 e1 hS hA hf hL hF
    obtain ⟨t2, a1, b1⟩ := kk r u t T'.heap (locs ++ L) e1.symm (by rw [← e2]; exact X'.warmed.alike) hp hb k1 k2 k3 T' rfl X'
    exact ⟨t2, st t2 a1, b1⟩
  · obtain ⟨k1, k2, k3⟩ := vx_keep h0 e1 hS hAX hf hL hF
    obtain ⟨t2, a1, b1⟩ := kx E ce q u t T'.heap (locs ++ L) e1.symm (by rw [← e2]; exact X'.warmed.alike) hp hb k1 k2 k3 (by rw [e1]; exact hce) hcv hcl T' rfl X'
    exact ⟨t2, st.trans a1, b1⟩
theorem vx_calll {S SX : Type} {post : Int64 → S → Prop} {px : SX → Prop} {B : S → State → Prop} {BX : String → SX → State → Prop} {AX : Nat → Prop} (hr : vx_Run p l e R s m args below meth c H locs cells slots mc ms (F0 m pc ls st0) rest (va_Ql post B A1 a) (vx_X px BX AX) free) (hS : va_S A0 H0 H locs) (hA : ∀ q, q < H.size → A1 q → A0 q) (hf : ∀ q, free q → A0 q) (hAX : ∀ q, q < H.size → AX q → A0 q)
    (kx : ∀ (E : String) (ce : Cell) (q9 : Addr) (u : SX) (t : State) (H1 : Heap) (locs1 : List Loc), t.heap = H1 → s.vm.Alike t.vm → px u → BX E u t → H.size ≤ H1.size → (∀ q : Nat, q < H.size → ¬ AX q → H1[q]? = H[q]?) → va_S A0 H0 H1 locs1 → H1[q9]? = some ce → ce.vm = .none → s.vm.findClass E = some ce.cls → vx_W p l e R s m args below meth c H1 locs1 (cells + mc) (slots + ms) Q (F0 m pc ls rest) q9)
    (kk : ∀ (r : Int64) (u : S) (t : State) (H1 : Heap) (locs1 : List Loc), t.heap = H1 → s.vm.Alike t.vm → post r u → B u t → H.size ≤ H1.size → (∀ q : Nat, q < H.size → ¬ A1 q → H1[q]? = H[q]?) → va_S A0 H0 H1 locs1 → W p l e R s m args below meth c H1 locs1 (cells + mc) (slots + ms) Q (F0 m (pc + 3) ls (.long r :: rest))) : W p l e R s m args below meth c H locs cells slots Q (F0 m pc ls st0) := by
  intro T hT X
  rcases hr T hT X with ⟨v, st₀, t, T', L, h0, X', hL, e1, e2, ⟨⟨r, u, hv, hp, hb⟩, hF⟩, st⟩ | ⟨q, st₀, t, T', L, E, ce, h0, X', hL, e1, e2, ⟨u, hp, hb, hF⟩, hce, hcv, hcl, st⟩
  · cases hv
    obtain ⟨k1, k2, k3⟩ := vx_keep h0 e1 hS hA hf hL hF
    obtain ⟨t2, a1, b1⟩ := kk r u t T'.heap (locs ++ L) e1.symm (by rw [← e2]; exact X'.warmed.alike) hp hb k1 k2 k3 T' rfl X'
    exact ⟨t2, st t2 a1, b1⟩
  · obtain ⟨k1, k2, k3⟩ := vx_keep h0 e1 hS hAX hf hL hF
    obtain ⟨t2, a1, b1⟩ := kx E ce q u t T'.heap (locs ++ L) e1.symm (by rw [← e2]; exact X'.warmed.alike) hp hb k1 k2 k3 (by rw [e1]; exact hce) hcv hcl T' rfl X'
    exact ⟨t2, st.trans a1, b1⟩
theorem vx_callf {S SX : Type} {post : UInt32 → S → Prop} {px : SX → Prop} {B : S → State → Prop} {BX : String → SX → State → Prop} {AX : Nat → Prop} (hr : vx_Run p l e R s m args below meth c H locs cells slots mc ms (F0 m pc ls st0) rest (va_Qf post B A1 a) (vx_X px BX AX) free) (hS : va_S A0 H0 H locs) (hA : ∀ q, q < H.size → A1 q → A0 q) (hf : ∀ q, free q → A0 q) (hAX : ∀ q, q < H.size → AX q → A0 q)
    (kx : ∀ (E : String) (ce : Cell) (q9 : Addr) (u : SX) (t : State) (H1 : Heap) (locs1 : List Loc), t.heap = H1 → s.vm.Alike t.vm → px u → BX E u t → H.size ≤ H1.size → (∀ q : Nat, q < H.size → ¬ AX q → H1[q]? = H[q]?) → va_S A0 H0 H1 locs1 → H1[q9]? = some ce → ce.vm = .none → s.vm.findClass E = some ce.cls → vx_W p l e R s m args below meth c H1 locs1 (cells + mc) (slots + ms) Q (F0 m pc ls rest) q9)
    (kk : ∀ (r : UInt32) (u : S) (t : State) (H1 : Heap) (locs1 : List Loc), t.heap = H1 → s.vm.Alike t.vm → post r u → B u t → H.size ≤ H1.size → (∀ q : Nat, q < H.size → ¬ A1 q → H1[q]? = H[q]?) → va_S A0 H0 H1 locs1 → W p l e R s m args below meth c H1 locs1 (cells + mc) (slots + ms) Q (F0 m (pc + 3) ls (.float r :: rest))) : W p l e R s m args below meth c H locs cells slots Q (F0 m pc ls st0) := by
  intro T hT X
  rcases hr T hT X with ⟨v, st₀, t, T', L, h0, X', hL, e1, e2, ⟨⟨r, u, hv, hp, hb⟩, hF⟩, st⟩ | ⟨q, st₀, t, T', L, E, ce, h0, X', hL, e1, e2, ⟨u, hp, hb, hF⟩, hce, hcv, hcl, st⟩
  · cases hv
    obtain ⟨k1, k2, k3⟩ := vx_keep h0 e1 hS hA hf hL hF
    obtain ⟨t2, a1, b1⟩ := kk r u t T'.heap (locs ++ L) e1.symm (by rw [← e2]; exact X'.warmed.alike) hp hb k1 k2 k3 T' rfl X'
    exact ⟨t2, st t2 a1, b1⟩
  · obtain ⟨k1, k2, k3⟩ := vx_keep h0 e1 hS hAX hf hL hF
    obtain ⟨t2, a1, b1⟩ := kx E ce q u t T'.heap (locs ++ L) e1.symm (by rw [← e2]; exact X'.warmed.alike) hp hb k1 k2 k3 (by rw [e1]; exact hce) hcv hcl T' rfl X'
    exact ⟨t2, st.trans a1, b1⟩
theorem vx_calld {S SX : Type} {post : UInt64 → S → Prop} {px : SX → Prop} {B : S → State → Prop} {BX : String → SX → State → Prop} {AX : Nat → Prop} (hr : vx_Run p l e R s m args below meth c H locs cells slots mc ms (F0 m pc ls st0) rest (va_Qd post B A1 a) (vx_X px BX AX) free) (hS : va_S A0 H0 H locs) (hA : ∀ q, q < H.size → A1 q → A0 q) (hf : ∀ q, free q → A0 q) (hAX : ∀ q, q < H.size → AX q → A0 q)
    (kx : ∀ (E : String) (ce : Cell) (q9 : Addr) (u : SX) (t : State) (H1 : Heap) (locs1 : List Loc), t.heap = H1 → s.vm.Alike t.vm → px u → BX E u t → H.size ≤ H1.size → (∀ q : Nat, q < H.size → ¬ AX q → H1[q]? = H[q]?) → va_S A0 H0 H1 locs1 → H1[q9]? = some ce → ce.vm = .none → s.vm.findClass E = some ce.cls → vx_W p l e R s m args below meth c H1 locs1 (cells + mc) (slots + ms) Q (F0 m pc ls rest) q9)
    (kk : ∀ (r : UInt64) (u : S) (t : State) (H1 : Heap) (locs1 : List Loc), t.heap = H1 → s.vm.Alike t.vm → post r u → B u t → H.size ≤ H1.size → (∀ q : Nat, q < H.size → ¬ A1 q → H1[q]? = H[q]?) → va_S A0 H0 H1 locs1 → W p l e R s m args below meth c H1 locs1 (cells + mc) (slots + ms) Q (F0 m (pc + 3) ls (.double r :: rest))) : W p l e R s m args below meth c H locs cells slots Q (F0 m pc ls st0) := by
  intro T hT X
  rcases hr T hT X with ⟨v, st₀, t, T', L, h0, X', hL, e1, e2, ⟨⟨r, u, hv, hp, hb⟩, hF⟩, st⟩ | ⟨q, st₀, t, T', L, E, ce, h0, X', hL, e1, e2, ⟨u, hp, hb, hF⟩, hce, hcv, hcl, st⟩
  · cases hv
    obtain ⟨k1, k2, k3⟩ := vx_keep h0 e1 hS hA hf hL hF
    obtain ⟨t2, a1, b1⟩ := kk r u t T'.heap (locs ++ L) e1.symm (by rw [← e2]; exact X'.warmed.alike) hp hb k1 k2 k3 T' rfl X'
    exact ⟨t2, st t2 a1, b1⟩
  · obtain ⟨k1, k2, k3⟩ := vx_keep h0 e1 hS hAX hf hL hF
    obtain ⟨t2, a1, b1⟩ := kx E ce q u t T'.heap (locs ++ L) e1.symm (by rw [← e2]; exact X'.warmed.alike) hp hb k1 k2 k3 (by rw [e1]; exact hce) hcv hcl T' rfl X'
    exact ⟨t2, st.trans a1, b1⟩
theorem vx_callv {S SX : Type} {post : S → Prop} {px : SX → Prop} {B : S → State → Prop} {BX : String → SX → State → Prop} {AX : Nat → Prop} (hr : vx_Run p l e R s m args below meth c H locs cells slots mc ms (F0 m pc ls st0) rest (va_Qv post B A1 a) (vx_X px BX AX) free) (hS : va_S A0 H0 H locs) (hA : ∀ q, q < H.size → A1 q → A0 q) (hf : ∀ q, free q → A0 q) (hAX : ∀ q, q < H.size → AX q → A0 q)
    (kx : ∀ (E : String) (ce : Cell) (q9 : Addr) (u : SX) (t : State) (H1 : Heap) (locs1 : List Loc), t.heap = H1 → s.vm.Alike t.vm → px u → BX E u t → H.size ≤ H1.size → (∀ q : Nat, q < H.size → ¬ AX q → H1[q]? = H[q]?) → va_S A0 H0 H1 locs1 → H1[q9]? = some ce → ce.vm = .none → s.vm.findClass E = some ce.cls → vx_W p l e R s m args below meth c H1 locs1 (cells + mc) (slots + ms) Q (F0 m pc ls rest) q9)
    (kk : ∀ (u : S) (t : State) (H1 : Heap) (locs1 : List Loc), t.heap = H1 → s.vm.Alike t.vm → post u → B u t → H.size ≤ H1.size → (∀ q : Nat, q < H.size → ¬ A1 q → H1[q]? = H[q]?) → va_S A0 H0 H1 locs1 → W p l e R s m args below meth c H1 locs1 (cells + mc) (slots + ms) Q (F0 m (pc + 3) ls (rest))) : W p l e R s m args below meth c H locs cells slots Q (F0 m pc ls st0) := by
  intro T hT X
  rcases hr T hT X with ⟨v, st₀, t, T', L, h0, X', hL, e1, e2, ⟨⟨u, hv, hp, hb⟩, hF⟩, st⟩ | ⟨q, st₀, t, T', L, E, ce, h0, X', hL, e1, e2, ⟨u, hp, hb, hF⟩, hce, hcv, hcl, st⟩
  · cases hv
    obtain ⟨k1, k2, k3⟩ := vx_keep h0 e1 hS hA hf hL hF
    obtain ⟨t2, a1, b1⟩ := kk u t T'.heap (locs ++ L) e1.symm (by rw [← e2]; exact X'.warmed.alike) hp hb k1 k2 k3 T' rfl X'
    exact ⟨t2, st t2 a1, b1⟩
  · obtain ⟨k1, k2, k3⟩ := vx_keep h0 e1 hS hAX hf hL hF
    obtain ⟨t2, a1, b1⟩ := kx E ce q u t T'.heap (locs ++ L) e1.symm (by rw [← e2]; exact X'.warmed.alike) hp hb k1 k2 k3 (by rw [e1]; exact hce) hcv hcl T' rfl X'
    exact ⟨t2, st.trans a1, b1⟩
/-- caught by the row x of this method's table; the rows ahead don't take it -/
theorem vx_catch {own name : String} {E : String} {ce : Cell} {q : Addr} (hown : s.vm.findClass own = some m.cls) (pre : List ExceptionTableEntry) (x : ExceptionTableEntry) (suf : List ExceptionTableEntry) (hsplit : c.exceptionTable.toList = pre ++ x :: suf)
    (hpass : ∀ z ∈ pre, covers z pc = false ∨ (z.catchType ≠ 0 ∧ ∃ nm : String, (Cond.classLink own z.catchType nm).before args s = true ∧ va_Nc E nm s)) (hx : covers x pc = true) (h0 : x.catchType ≠ 0)
    (hlink : (Cond.classLink own x.catchType name).before args s = true) (hcast : (Cond.castable E name).before args s = true) (hcell : H[q]? = some ce) (hv : ce.vm = .none) (hcl : s.vm.findClass E = some ce.cls)
    (kk : W p l e R s m args below meth c H locs cells slots Q (F0 m x.handlerPc ls [.ref q])) : vx_W p l e R s m args below meth c H locs cells slots Q (F0 m pc ls rest) q := by
  intro T hT X
  have hpl : e.platform.magicAccessors = ({} : Platform).magicAccessors := by rw [X.admits.platform]
  obtain ⟨c3, c4, hc3, hc4, hasg⟩ := Cond.castable_spec hcast
  cases Option.some.inj (hc3.symm.trans hcl)
  obtain ⟨c5, hc5, hcl5⟩ := Cond.classLink_spec hown hlink e.platform hpl
  cases Option.some.inj (hc4.symm.trans hc5)
  obtain ⟨vm', X', st⟩ := X.thenCaughtThrough q (g := F0 m pc ls rest) rfl (Steps.refl _) (by rw [hT]; exact hcell) (by rw [hv]; rfl) (by obtain ⟨k9, h9, -⟩ := Vm.findClass_spec hcl; exact ⟨k9, h9⟩) pre x suf hsplit
    (fun z hz => by
      rcases hpass z hz with h | ⟨hz0, nm, hl1, hn1⟩
      · exact Or.inl h
      · obtain ⟨c6, hc6, hcl6⟩ := Cond.classLink_spec hown hl1 e.platform hpl
        obtain ⟨a8, b8, h1, h2, h3⟩ := hn1
        cases Option.some.inj (h1.symm.trans hcl)
        cases Option.some.inj (h2.symm.trans hc6)
        exact Or.inr ⟨hz0, _, hcl6, h3⟩) hx (Or.inr ⟨h0, c4, hcl5, hasg⟩)
  obtain ⟨t, a1, b1⟩ := kk (T.setVm vm') hT X'
  exact ⟨t, st.trans a1, b1⟩
end Rows
section Ends
variable {p : Program} {l : Launch} {e : Env} {R : Room} {s : State} {m : MethodId} {args : Array Value} {below : List Frame} {meth : Method} {c : Code} {H : Heap} {locs : List Loc} {cells slots : Nat} {Q : State → Prop}
variable {mc ms : Nat} {free : Addr → Prop} {A0 A1 : Nat → Prop} {H0 : Heap} {a : Array Value} {ls : Array Slot} {st0 rest : List Value}
variable {Qc : Array Value → State → Outcome → State → Prop} {XC : String → State → State → Prop}
/-- what a body that may throw owes at its end -/
def vx_MQ (below : List Frame) (Qc : Array Value → State → Outcome → State → Prop) (XC : String → State → State → Prop) (a : Array Value) (s : State) (mc ms : Nat) (free : Addr → Prop) : State → Prop := fun t =>
  ∃ o, t.status = .running ∧ Ended t below o ∧ vx_Q Qc XC mc ms free a s o t
theorem vx_ret {g : JFrame} {mc ms : Nat} (k : W p l e R s m args below meth c H locs cells slots (MQ below Qc args s mc ms free) g) : W p l e R s m args below meth c H locs cells slots (vx_MQ below Qc XC args s mc ms free) g := by
  intro T hT X
  obtain ⟨t, a1, o, b1, b2, b3, b4⟩ := k T hT X
  exact ⟨t, a1, o, b1, b2, Or.inl ⟨b3, b4⟩⟩
/-- not caught here: it goes on to the caller -/
theorem vx_widen {g : JFrame} {q : Addr} {k n : Nat} (h1 : cells ≤ k) (h2 : slots ≤ n) (kk : vx_W p l e R s m args below meth c H locs k n Q g q) : vx_W p l e R s m args below meth c H locs cells slots Q g q := fun T hT X => kk T hT (stand_widen X h1 h2)
theorem vx_out {pc : Nat} {E : String} {ce : Cell} {q : Addr} {mc ms : Nat} (hout : ∀ x ∈ c.exceptionTable.toList, covers x pc = false) (hlocks : meth.locks = false) (hcell : H[q]? = some ce) (hv : ce.vm = .none) (hcl : s.vm.findClass E = some ce.cls)
    (hx : ∀ t : State, t.heap = H → s.vm.Alike t.vm → XC E s t) (hf : ∀ z ∈ locs, free z.base) (hc : cells ≤ mc) (hs : slots ≤ ms) :
    vx_W p l e R s m args below meth c H locs cells slots (vx_MQ below Qc XC args s mc ms free) (F0 m pc ls rest) q := by
  intro T hT X
  obtain ⟨st1, hrun, hend, hW, hsm⟩ := X.leaveThrown q (g := F0 m pc ls rest) rfl rfl rfl hout hlocks
  have hcell9 : (T.setFrames (.throwing q :: below)).heap[q]? = some ce := by
    show T.heap[q]? = some ce
    rw [hT]; exact hcell
  exact ⟨_, st1, .threw q, hrun, hend, Or.inr ⟨q, rfl, E, ce, locs, hx _ hT hW.alike, hcell9, hv, hcl, hW, hsm.mono hc hs, hf⟩⟩
theorem vx_frame {U : State} {k n : Nat} (h : s.sameButNew ({ U with vm := s.vm } : State) locs k n) : s.heap.size ≤ U.heap.size ∧ ∀ q : Nat, q < s.heap.size → (∀ z ∈ locs, z.base ≠ q) → U.heap[q]? = s.heap[q]? := by
  obtain ⟨-, h2, -, -, -, h6⟩ := h
  refine ⟨h2, fun q hq hz => ?_⟩
  obtain ⟨c9, e1, e2, e3, e4⟩ := h6 q _ (Array.getElem?_eq_getElem hq)
  have hs : c9.slots = (s.heap[q]).slots := Array.ext_getElem? fun i => e4 i fun hm => hz _ hm rfl
  have h9 : c9 = s.heap[q] := by
    rw [hs] at e2
    exact e2
  have e5 : U.heap[q]? = some c9 := e1
  rw [e5, h9, Array.getElem?_eq_getElem hq]
/-- the words of a throw but the four that speak of the heap -/
def vx_no (w : Cond) : Bool := decide (w ≠ .isRef (.static Bundle.tN "UNASSIGNED_STACK" Bundle.steD)) && decide (w ≠ .isRef (.static Bundle.tN "SUPPRESSED_SENTINEL" Bundle.listD)) && decide (w ≠ .laysStatic Bundle.tN "UNASSIGNED_STACK" Bundle.steD) && decide (w ≠ .laysStatic Bundle.tN "SUPPRESSED_SENTINEL" Bundle.listD)
def vx_at0 (own : String) (ic : Nat) (X : String) (names : List String) : List Cond := (Bundle.ownAtoms0 own ic X names).filter vx_no
def vx_atS (own : String) (ic : Nat) (X : String) (names : List String) : List Cond := (Bundle.ownAtoms own ic X names).filter vx_no
/-- a word that the tables alone decide, or a good one -/
def vx_ot (w : Cond) : Bool := w.onTables || goodWord w
theorem vx_ot_at {args a' : Array Value} {s U : State} {w : Cond} (hW : s.WarmedH U.vm) (hvm : s.vm = U.vm) (hg : vx_ot w = true) (h : w.before args s = true) : w.before a' U = true := by
  simp only [vx_ot, Bool.or_eq_true] at hg
  rcases hg with hg | hg
  · exact va_tabs hg hvm h
  · exact word_at hW (good_of_word hg) h
/-- a list's words: the good ones out of the method's own list, the others by premises of their own -/
theorem vx_hat {args : Array Value} {s : State} {L B : List Cond} (h1 : ∀ w ∈ L.filter goodWord, w.before args s = true) (h2 : ∀ w ∈ L.filter (fun w => !goodWord w), w ∈ B) (h3 : ∀ w ∈ B, w.before args s = true) : ∀ w ∈ L, w.before args s = true := by
  intro w hw
  by_cases g : goodWord w = true
  · exact h1 w (List.mem_filter.mpr ⟨hw, g⟩)
  · refine h3 w (h2 w (List.mem_filter.mpr ⟨hw, ?_⟩))
    show (!goodWord w) = true
    cases hgw : goodWord w
    · rfl
    · exact absurd hgw g
theorem vx_c {args : Array Value} {s : State} {w : Cond} {B : List Cond} (h : w.before args s = true) (t : ∀ w ∈ B, w.before args s = true) : ∀ w' ∈ w :: B, w'.before args s = true := fun w' h' => (List.mem_cons.mp h').elim (fun e => by rw [e]; exact h) (t w')
theorem vx_n {args : Array Value} {s : State} : ∀ w ∈ ([] : List Cond), w.before args s = true := fun _ h => nomatch h
theorem vx_own {args : Array Value} {s : State} {L : List Cond} (h1 : ∀ w ∈ L.filter vx_no, w.before args s = true)
    (hU : (Cond.isRef (.static Bundle.tN "UNASSIGNED_STACK" Bundle.steD)).before args s = true) (hN : (Cond.isRef (.static Bundle.tN "SUPPRESSED_SENTINEL" Bundle.listD)).before args s = true)
    (lU : (Cond.laysStatic Bundle.tN "UNASSIGNED_STACK" Bundle.steD).before args s = true) (lN : (Cond.laysStatic Bundle.tN "SUPPRESSED_SENTINEL" Bundle.listD).before args s = true) : ∀ w ∈ L, w.before args s = true := by
  intro w hw
  by_cases e1 : w = .isRef (.static Bundle.tN "UNASSIGNED_STACK" Bundle.steD)
  · rw [e1]; exact hU
  · by_cases e2 : w = .isRef (.static Bundle.tN "SUPPRESSED_SENTINEL" Bundle.listD)
    · rw [e2]; exact hN
    · by_cases e3 : w = .laysStatic Bundle.tN "UNASSIGNED_STACK" Bundle.steD
      · rw [e3]; exact lU
      · by_cases e4 : w = .laysStatic Bundle.tN "SUPPRESSED_SENTINEL" Bundle.listD
        · rw [e4]; exact lN
        · exact h1 w (List.mem_filter.mpr ⟨hw, by unfold vx_no; rw [decide_eq_true e1, decide_eq_true e2, decide_eq_true e3, decide_eq_true e4]; rfl⟩)
/-- where a static field lies, its class's statics cell in H -/
def vx_L (C n d : String) (A : Nat → Prop) (U : State) (H : Heap) : Prop := ∃ (c : ClassId) (k : Class) (i : Nat) (f : Field) (a : Nat) (cell : Cell), U.vm.findClass C = some c ∧ U.fieldFound? C n d = some (c, k, i, f) ∧ f.isStatic = true ∧ k.statics = some a ∧ H[a]? = some cell ∧ cell.vm.isStatics = true ∧ cell.cls = c ∧ f.slot < cell.slots.size ∧ k.staticTypes[f.slot]? = some f.type ∧ ¬ A a
theorem vx_L.moved {C n d : String} {A : Nat → Prop} {u U : State} {H : Heap} (hvm : u.vm.Alike U.vm) (h : vx_L C n d A u H) : vx_L C n d A U H := by
  obtain ⟨c, k, i, f, a, cell, h1, h2, h3, h4, h5, h6, h7, h8, h9, h10⟩ := h
  obtain ⟨k', hi', he⟩ := State.fieldFound?_setVm hvm h2
  exact ⟨c, k', i, f, a, cell, by rw [hvm.findClass]; exact h1, hi', h3, by rw [he]; exact h4, h5, h6, h7, h8, by rw [he]; exact h9, h10⟩
theorem vx_L.kept {C n d : String} {A : Nat → Prop} {U : State} {H H1 : Heap} (h : vx_L C n d A U H) (hq : ∀ a : Nat, a < H.size → ¬ A a → H1[a]? = H[a]?) : vx_L C n d A U H1 := by
  obtain ⟨c, k, i, f, a, cell, h1, h2, h3, h4, h5, h6, h7, h8, h9, h10⟩ := h
  exact ⟨c, k, i, f, a, cell, h1, h2, h3, h4, by rw [hq a (Array.getElem?_eq_some_iff.mp h5).1 h10]; exact h5, h6, h7, h8, h9, h10⟩
theorem vx_L.narrow {C n d : String} {A B : Nat → Prop} {U : State} {H : Heap} (h : vx_L C n d A U H) (hAB : ∀ q, B q → A q) : vx_L C n d B U H := by
  obtain ⟨c, k, i, f, a, cell, h1, h2, h3, h4, h5, h6, h7, h8, h9, h10⟩ := h
  exact ⟨c, k, i, f, a, cell, h1, h2, h3, h4, h5, h6, h7, h8, h9, fun z => h10 (hAB _ z)⟩
theorem vx_L.word {C n d : String} {A : Nat → Prop} {s : State} {args : Array Value} (h : vx_L C n d A s s.heap) : (Cond.laysStatic C n d).before args s = true := by
  obtain ⟨c, k, i, f, a, cell, h1, h2, h3, h4, h5, h6, h7, h8, h9, -⟩ := h
  show (Cond.laysStatic C n d).holds args s none s [] = true
  exact Cond.laysStatic_of h1 h2 h3 h4 h5 h6 h7 h8 h9
/-- .. and what it holds: null or some reference -/
def vx_Zq (C n d : String) (A : Nat → Prop) (U : State) (H : Heap) : Prop := va_Zq C n d A U H ∧ vx_L C n d A U H
theorem vx_Zq.moved {C n d : String} {A : Nat → Prop} {u U : State} {H : Heap} (hvm : u.vm.Alike U.vm) (h : vx_Zq C n d A u H) : vx_Zq C n d A U H := ⟨va_Zq.moved hvm h.1, vx_L.moved hvm h.2⟩
theorem vx_Zq.kept {C n d : String} {A : Nat → Prop} {U : State} {H H1 : Heap} (h : vx_Zq C n d A U H) (hq : ∀ a : Nat, a < H.size → ¬ A a → H1[a]? = H[a]?) : vx_Zq C n d A U H1 := ⟨va_Zq.kept h.1 hq, vx_L.kept h.2 hq⟩
theorem vx_Zq.narrow {C n d : String} {A B : Nat → Prop} {U : State} {H : Heap} (h : vx_Zq C n d A U H) (hAB : ∀ q, B q → A q) : vx_Zq C n d B U H := ⟨va_Zq.narrow h.1 hAB, vx_L.narrow h.2 hAB⟩
theorem vx_Zqof {args : Array Value} {s : State} {C n d : String} {A : Nat → Prop} (hl : (Cond.laysStatic C n d).before args s = true) (hini : (Cond.initialized C).before args s = true) (h : (Cond.isRef (.static C n d)).before args s = true) (hA : ∀ a : Nat, a < s.heap.size → ¬ A a) : vx_Zq C n d A s s.heap := by
  refine ⟨va_Zqof hl hini h hA, ?_⟩
  obtain ⟨c, k, i, f, a, cell, h1, h2, h3, h4, h5, h6, h7, h8, h9⟩ := Cond.laysStatic_spec hl
  exact ⟨c, k, i, f, a, cell, h1, h2, h3, h4, h5, h6, h7, h8, h9, hA a (Array.getElem?_eq_some_iff.mp h5).1⟩
theorem vx_isRef {C n d : String} {v : Value} {A : Nat → Prop} {s : State} {args : Array Value} (h : va_Z C n d v A s s.heap) (hv : v.isRef = true) : (Cond.isRef (.static C n d)).before args s = true := by
  obtain ⟨cf, kf, fi, f, a, cell, h1, h2, h3, h4, h5, h6, h7, -⟩ := h
  have he : (Term.static C n d).eval args s none [] s = some v := by
    simp [Term.eval, State.fieldNamed?, h1, h2, h4, h5, h6, h7]
  simp only [Cond.before, Cond.holds, Cond.value, he]
  cases v <;> simp_all [Value.isRef]
theorem vx_isRefq {C n d : String} {A : Nat → Prop} {s : State} {args : Array Value} (h : va_Zq C n d A s s.heap) : (Cond.isRef (.static C n d)).before args s = true := by
  rcases h with h | ⟨t, h⟩
  · exact vx_isRef h rfl
  · exact vx_isRef h rfl
/-- the same frame, seen from here: as if the method were called anew in this heap -/
theorem vx_rebase {T : State} (X : Stand p l e R s m args below meth c T locs cells slots) {R' : Room} (hf : R'.frames ≤ R.frames) (hl : R'.locals ≤ R.locals) (hc : cells + R'.cells ≤ R.cells) (hs : slots + R'.slots ≤ R.slots) :
    Stand p l e R' ((T.setVm s.vm).setFrames (.invoking m args :: below)) m args below meth c T [] 0 0 := by
  have htop : (T.setVm s.vm).topJava?.isSome := X.here.top
  have hF : ((T.setVm s.vm).setFrames (.invoking m args :: below)).frames = .invoking m args :: below := State.frames_setFrames _ (State.cur_lt_of_top htop)
  obtain ⟨g₀, hg0⟩ := Option.isSome_iff_exists.mp htop
  obtain ⟨r, hr⟩ := State.topJava?_eq_some.mp hg0
  have hl9 : e.platform.stackLimits (T.setVm s.vm).me = e.platform.stackLimits s.me := X.limits
  have hb9 : (T.setVm s.vm).me.stackBytes = s.me.stackBytes := X.bytes
  refine ⟨X.admits, X.cas, X.clock, hF, ?_, X.hears, X.method, X.code, X.here, X.tail, X.warmed, ?_, ?_, ?_⟩
  · have h := X.room
    have hU : ((T.setVm s.vm).setFrames (.invoking m args :: below)).localsInUse = s.localsInUse := by
      rw [State.localsInUse_invoking hF (meth := meth) (c := c) X.method X.code, State.localsInUse_invoking X.frames X.method X.code]
    simp only [State.hasRoom, Bool.and_eq_true, decide_eq_true_eq] at h ⊢
    obtain ⟨⟨⟨⟨h1, h2, h3, h4, h5, h6⟩, h7⟩, h8⟩, h9⟩ := h
    rw [X.frames, List.length_cons] at h2 h3
    have q1 := X.heapSize
    have q2 := X.used
    simp only [hF, hU, List.length_cons, State.stackLimits_setFrames, State.stackBytes_setFrames, hl9, hb9]
    refine ⟨⟨⟨⟨by omega, by omega, by omega, by omega, by omega, h6⟩, ?_⟩, ?_⟩, X.book⟩
    · show T.heap.size + R'.cells ≤ e.platform.maxCells
      omega
    · show T.slotsUsed + R'.slots ≤ e.platform.maxSlots
      omega
  · rw [State.stackLimits_setFrames]; rfl
  · rw [State.stackBytes_setFrames]; rfl
  · refine ⟨?_, Nat.le_refl _, Nat.le_refl _, ?_, ?_, fun a c9 h9 => ⟨c9, h9, rfl, rfl, fun _ _ => rfl⟩⟩
    · obtain ⟨t, ht, -⟩ := State.frames_cons hr
      show T.setVm s.vm = { ((T.setVm s.vm).setFrames (.invoking m args :: below)).setFrames (T.setVm s.vm).frames with heap := T.heap, slotsUsed := T.slotsUsed }
      rw [State.setFrames_setFrames, State.setFrames_self ht]
      rfl
    · show T.slotsUsed = T.slotsUsed + ((T.heap.toList.drop T.heap.size).map (·.slots.size)).sum
      rw [List.drop_eq_nil_of_le (Nat.le_of_eq Array.length_toList)]
      rfl
    · show ((T.heap.toList.drop T.heap.size).map (·.slots.size)).sum ≤ 0
      rw [List.drop_eq_nil_of_le (Nat.le_of_eq Array.length_toList)]
      exact Nat.le_refl _
/-- 'throw new E()': new; dup; invokespecial; athrow -/
theorem vx_throw0 {cc : ByteArray} {pc : Nat} (hexec : p.tables.exec = Jvm.exec) (hb : c.code = cc) (hl : l.stackTraces = false) {own cls : String} {names : List String} {ik ic mc ms : Nat} {A : Nat → Prop}
    (hown : s.vm.findClass own = some m.cls) (hcls : Bundle.fit cls = true) (hnames : ∀ n ∈ names, Bundle.fit n = true)
    (hk : (Cond.classLink own ik cls).before args s = true) (hini : (Cond.initialized cls).before args s = true) (hat : ∀ w ∈ vx_at0 own ic cls names, w.before args s = true)
    (hgood : ∀ w ∈ Cond.classLink own ik cls :: Cond.initialized cls :: vx_at0 own ic cls names, vx_ot w = true)
    (hU : vx_Zq Bundle.tN "UNASSIGNED_STACK" Bundle.steD A s s.heap) (hN : vx_Zq Bundle.tN "SUPPRESSED_SENTINEL" Bundle.listD A s s.heap) (hS : va_S A s.heap H locs) (hsize : ls.size = c.maxLocals)
    (d0 : decode cc pc = .ok (.new ik, 3)) (d3 : decode cc (pc + 3) = .ok (.dup, 1)) (d4 : decode cc (pc + 4) = .ok (.invokespecial ic, 3)) (d7 : decode cc (pc + 7) = .ok (.athrow, 1))
    (hout : ∀ x ∈ c.exceptionTable.toList, covers x (pc + 7) = false)
    (hRframes : names.length + 3 < R.frames) (hRlocals : (rest.map fun v => v.category).sum + (13 * (names.length + 1) + 42) ≤ R.locals) (hRcells : cells + 1 ≤ R.cells) (hRslots : slots + 6 ≤ R.slots) (hlocks : meth.locks = false)
    (hx : ∀ t : State, s.vm.Alike t.vm → H.size ≤ t.heap.size → (∀ q : Nat, q < H.size → t.heap[q]? = H[q]?) → XC cls s t)
    (hf : ∀ z ∈ locs, free z.base) (hc : cells + 1 ≤ mc) (hs : slots + 6 ≤ ms) :
    W p l e R s m args below meth c H locs cells slots (vx_MQ below Qc XC args s mc ms free) (F0 m pc ls rest) := by
  intro T hT X
  have htr : e.platform.stackTraces = false := (show e.platform.stackTraces = l.stackTraces by rw [X.admits.platform]).trans hl
  have Y := vx_rebase X (R' := { frames := R.frames, locals := R.locals, cells := 1, slots := 6 }) (Nat.le_refl _) (Nat.le_refl _) hRcells hRslots
  obtain ⟨s', hA⟩ : ∃ z, z = (T.setVm s.vm).setFrames (.invoking m args :: below) := ⟨_, rfl⟩
  rw [← hA] at Y
  have hvm : s'.vm = s.vm := by rw [hA]; rfl
  have hhp : s'.heap = H := by rw [hA]; exact hT
  have hW0 : s.WarmedH s'.vm := by rw [hvm]; exact State.WarmedH.refl s
  have hat' : ∀ w ∈ vx_at0 own ic cls names, w.before args s' = true := fun w hw => vx_ot_at hW0 hvm.symm (hgood w (List.mem_cons_of_mem _ (List.mem_cons_of_mem _ hw))) (hat w hw)
  have hk' : (Cond.classLink own ik cls).before args s' = true := vx_ot_at hW0 hvm.symm (hgood _ List.mem_cons_self) hk
  have hini' : (Cond.initialized cls).before args s' = true := vx_ot_at hW0 hvm.symm (hgood _ (List.mem_cons_of_mem _ List.mem_cons_self)) hini
  have hU' : vx_Zq Bundle.tN "UNASSIGNED_STACK" Bundle.steD A s' s'.heap := by rw [hhp]; exact vx_Zq.moved hW0.alike (hU.kept hS.2.1)
  have hN' : vx_Zq Bundle.tN "SUPPRESSED_SENTINEL" Bundle.listD A s' s'.heap := by rw [hhp]; exact vx_Zq.moved hW0.alike (hN.kept hS.2.1)
  have h : ∀ w ∈ Bundle.ownAtoms0 own ic cls names, w.before args s' = true := vx_own hat' (vx_isRefq hU'.1) (vx_isRefq hN'.1) hU'.2.word hN'.2.word
  have hown' : s'.vm.findClass own = some m.cls := by rw [hvm]; exact hown
  have hins : (Cond.instantiable cls 6).before args s' = true := h _ (by simp [Bundle.ownAtoms0])
  obtain ⟨vm₁, cX, kX, hfX, hkX, -, -, X₁, st1⟩ := Y.newCold hexec (own := own) (C := cls) (index := ik) (n := 6) hown' hk' hins hini'
    (g := F0 m pc ls rest) rfl (by rw [hb]; exact d0) (Nat.le_refl _) (Nat.le_refl _)
  generalize hT1 : (T.setVm vm₁).pushCell { cls := cX, slots := kX.instanceTypes.map defaultValue, vm := .none } = T1 at X₁ st1
  have hcat : (Value.ref T.heap.size).category = 1 := rfl
  have hcellA : T1.heap[T.heap.size]? = some (freshCell cX kX) := by rw [← hT1]; exact State.heap_pushCell_size _ _
  have d3' : decode c.code (pc + 3) = .ok (.dup, 1) := by rw [hb]; exact d3
  obtain ⟨U, hsteps, hrun, hend, hW, hsame, ce, hce, hO⟩ := X₁.ctorThrow0 hexec htr (own := own) (cls := cls) (names := names) (ic := ic) hown' hcls hnames h (fun x hx => nomatch hx) hfX hkX hcellA (by rw [hhp, hT]; exact Nat.le_refl _)
    (g := { method := m, pc := pc + 4, locals := ls, stack := .ref T.heap.size :: .ref T.heap.size :: rest, locked := none }) rfl hsize rfl rfl (rest := rest) rfl
    (by rw [hb]; exact d4) (by rw [hb]; exact d7) hout hRframes (by simp only [List.map_cons, List.sum_cons, hcat]; omega) hlocks
  obtain ⟨f1, f2⟩ := vx_frame hsame
  rw [hhp] at f1 f2
  have hWs : s.WarmedH U.vm := State.WarmedH.trans hW0 hW
  have hcl : s.vm.findClass cls = some ce.cls := by
    have h9 := hO.cls
    rw [hvm] at h9
    exact h9
  have hall : s.sameButNew ({ U with vm := s.vm } : State) locs mc ms := by
    subst hA
    obtain ⟨e1, e2⟩ := hsame
    rw [State.setFrames_setFrames] at e1
    have h2 : (T.setVm s.vm).sameButNew ({ U with vm := s.vm } : State) [] (0 + 1) (0 + 6) := ⟨e1, e2⟩
    have h3 := X.same.trans h2
    rw [List.append_nil] at h3
    exact h3.mono hc hs
  refine ⟨U, ?_, .threw T.heap.size, hrun, hend, Or.inr ⟨T.heap.size, rfl, cls, ce, locs, hx U hWs.alike f1 (fun q hq => f2 q hq (fun z hz => nomatch hz)), hce, hO.vm, hcl, hWs, hall, hf⟩⟩
  refine st1 _ ?_
  show Steps p.tables e below (T1.setTop { method := m, pc := pc + 3, locals := ls, stack := .ref T.heap.size :: rest, locked := none }) _
  jvm_step X₁.here [X₁.here.top, hexec, d3', Value.category]
  exact hsteps
/-- 'throw new E("text")': new; dup; ldc; invokespecial; athrow -/
theorem vx_throwS {cc : ByteArray} {pc : Nat} (hexec : p.tables.exec = Jvm.exec) (hb : c.code = cc) (hl : l.stackTraces = false) {own cls text : String} {names : List String} {ik is ic mc ms sa : Nat} {A : Nat → Prop}
    (hown : s.vm.findClass own = some m.cls) (hcls : Bundle.fit cls = true) (hnames : ∀ n ∈ names, Bundle.fit n = true)
    (hk : (Cond.classLink own ik cls).before args s = true) (hini : (Cond.initialized cls).before args s = true) (hstr : vk_R own is text sa s) (hat : ∀ w ∈ vx_atS own ic cls names, w.before args s = true)
    (hgood : ∀ w ∈ Cond.classLink own ik cls :: Cond.initialized cls :: vx_atS own ic cls names, vx_ot w = true)
    (hU : vx_Zq Bundle.tN "UNASSIGNED_STACK" Bundle.steD A s s.heap) (hN : vx_Zq Bundle.tN "SUPPRESSED_SENTINEL" Bundle.listD A s s.heap) (hS : va_S A s.heap H locs) (hsize : ls.size = c.maxLocals)
    (d0 : decode cc pc = .ok (.new ik, 3)) (d3 : decode cc (pc + 3) = .ok (.dup, 1)) (d4 : decode cc (pc + 4) = .ok (.ldc is, 2)) (d6 : decode cc (pc + 6) = .ok (.invokespecial ic, 3)) (d9 : decode cc (pc + 9) = .ok (.athrow, 1))
    (hout : ∀ x ∈ c.exceptionTable.toList, covers x (pc + 9) = false)
    (hRframes : names.length + 3 < R.frames) (hRlocals : (rest.map fun v => v.category).sum + (13 * (names.length + 1) + 43) ≤ R.locals) (hRcells : cells + 1 ≤ R.cells) (hRslots : slots + 6 ≤ R.slots) (hlocks : meth.locks = false)
    (hx : ∀ t : State, s.vm.Alike t.vm → H.size ≤ t.heap.size → (∀ q : Nat, q < H.size → t.heap[q]? = H[q]?) → XC cls s t)
    (hf : ∀ z ∈ locs, free z.base) (hc : cells + 1 ≤ mc) (hs : slots + 6 ≤ ms) :
    W p l e R s m args below meth c H locs cells slots (vx_MQ below Qc XC args s mc ms free) (F0 m pc ls rest) := by
  intro T hT X
  have htr : e.platform.stackTraces = false := (show e.platform.stackTraces = l.stackTraces by rw [X.admits.platform]).trans hl
  have Y := vx_rebase X (R' := { frames := R.frames, locals := R.locals, cells := 1, slots := 6 }) (Nat.le_refl _) (Nat.le_refl _) hRcells hRslots
  obtain ⟨s', hA⟩ : ∃ z, z = (T.setVm s.vm).setFrames (.invoking m args :: below) := ⟨_, rfl⟩
  rw [← hA] at Y
  have hvm : s'.vm = s.vm := by rw [hA]; rfl
  have hhp : s'.heap = H := by rw [hA]; exact hT
  have hW0 : s.WarmedH s'.vm := by rw [hvm]; exact State.WarmedH.refl s
  have hat' : ∀ w ∈ vx_atS own ic cls names, w.before args s' = true := fun w hw => vx_ot_at hW0 hvm.symm (hgood w (List.mem_cons_of_mem _ (List.mem_cons_of_mem _ hw))) (hat w hw)
  have hk' : (Cond.classLink own ik cls).before args s' = true := vx_ot_at hW0 hvm.symm (hgood _ List.mem_cons_self) hk
  have hini' : (Cond.initialized cls).before args s' = true := vx_ot_at hW0 hvm.symm (hgood _ (List.mem_cons_of_mem _ List.mem_cons_self)) hini
  have hU' : vx_Zq Bundle.tN "UNASSIGNED_STACK" Bundle.steD A s' s'.heap := by rw [hhp]; exact vx_Zq.moved hW0.alike (hU.kept hS.2.1)
  have hN' : vx_Zq Bundle.tN "SUPPRESSED_SENTINEL" Bundle.listD A s' s'.heap := by rw [hhp]; exact vx_Zq.moved hW0.alike (hN.kept hS.2.1)
  have h : ∀ w ∈ Bundle.ownAtoms own ic cls names, w.before args s' = true := vx_own hat' (vx_isRefq hU'.1) (vx_isRefq hN'.1) hU'.2.word hN'.2.word
  have hown' : s'.vm.findClass own = some m.cls := by rw [hvm]; exact hown
  have hins : (Cond.instantiable cls 6).before args s' = true := h _ (by simp [Bundle.ownAtoms])
  obtain ⟨vm₁, cX, kX, hfX, hkX, -, -, X₁, st1⟩ := Y.newCold hexec (own := own) (C := cls) (index := ik) (n := 6) hown' hk' hins hini'
    (g := F0 m pc ls rest) rfl (by rw [hb]; exact d0) (Nat.le_refl _) (Nat.le_refl _)
  generalize hT1 : (T.setVm vm₁).pushCell { cls := cX, slots := kX.instanceTypes.map defaultValue, vm := .none } = T1 at X₁ st1
  have hcat : (Value.ref T.heap.size).category = 1 := rfl
  have hcellA : T1.heap[T.heap.size]? = some (freshCell cX kX) := by rw [← hT1]; exact State.heap_pushCell_size _ _
  have d3' : decode c.code (pc + 3) = .ok (.dup, 1) := by rw [hb]; exact d3
  have d4' : decode c.code (pc + 4) = .ok (.ldc is, 2) := by rw [hb]; exact d4
  have hstr' : vk_R own is text sa s' := vk_R.warm hW0 hstr
  obtain ⟨U, hsteps, hrun, hend, hW, hsame, ce, hce, hO⟩ := X₁.ctorThrowS hexec htr (own := own) (cls := cls) (names := names) (ic := ic) hown' hcls hnames h (fun x hx => nomatch hx) hfX hkX hcellA (by rw [hhp, hT]; exact Nat.le_refl _) (msg := .ref sa) rfl
    (g := { method := m, pc := pc + 6, locals := ls, stack := .ref sa :: .ref T.heap.size :: .ref T.heap.size :: rest, locked := none }) rfl hsize rfl rfl (rest := rest) rfl
    (by rw [hb]; exact d6) (by rw [hb]; exact d9) hout hRframes (by simp only [List.map_cons, List.sum_cons, hcat]; omega) hlocks
  obtain ⟨f1, f2⟩ := vx_frame hsame
  rw [hhp] at f1 f2
  have hWs : s.WarmedH U.vm := State.WarmedH.trans hW0 hW
  have hcl : s.vm.findClass cls = some ce.cls := by
    have h9 := hO.cls
    rw [hvm] at h9
    exact h9
  have hall : s.sameButNew ({ U with vm := s.vm } : State) locs mc ms := by
    subst hA
    obtain ⟨e1, e2⟩ := hsame
    rw [State.setFrames_setFrames] at e1
    have h2 : (T.setVm s.vm).sameButNew ({ U with vm := s.vm } : State) [] (0 + 1) (0 + 6) := ⟨e1, e2⟩
    have h3 := X.same.trans h2
    rw [List.append_nil] at h3
    exact h3.mono hc hs
  refine ⟨U, ?_, .threw T.heap.size, hrun, hend, Or.inr ⟨T.heap.size, rfl, cls, ce, locs, hx U hWs.alike f1 (fun q hq => f2 q hq (fun z hz => nomatch hz)), hce, hO.vm, hcl, hWs, hall, hf⟩⟩
  refine st1 _ ?_
  show Steps p.tables e below (T1.setTop { method := m, pc := pc + 3, locals := ls, stack := .ref T.heap.size :: rest, locked := none }) _
  jvm_step X₁.here [X₁.here.top, hexec, d3', Value.category]
  exact X₁.ldcString hexec (own := own) (text := text) (index := is) (a := sa) hown' hstr'.1 hstr'.2
    (g := { method := m, pc := pc + 4, locals := ls, stack := .ref T.heap.size :: .ref T.heap.size :: rest, locked := none }) rfl d4' _ hsteps
/-- 'throw new E("text")', the text by a wide index -/
theorem vx_throwSW {cc : ByteArray} {pc : Nat} (hexec : p.tables.exec = Jvm.exec) (hb : c.code = cc) (hl : l.stackTraces = false) {own cls text : String} {names : List String} {ik is ic mc ms sa : Nat} {A : Nat → Prop}
    (hown : s.vm.findClass own = some m.cls) (hcls : Bundle.fit cls = true) (hnames : ∀ n ∈ names, Bundle.fit n = true)
    (hk : (Cond.classLink own ik cls).before args s = true) (hini : (Cond.initialized cls).before args s = true) (hstr : vk_R own is text sa s) (hat : ∀ w ∈ vx_atS own ic cls names, w.before args s = true)
    (hgood : ∀ w ∈ Cond.classLink own ik cls :: Cond.initialized cls :: vx_atS own ic cls names, vx_ot w = true)
    (hU : vx_Zq Bundle.tN "UNASSIGNED_STACK" Bundle.steD A s s.heap) (hN : vx_Zq Bundle.tN "SUPPRESSED_SENTINEL" Bundle.listD A s s.heap) (hS : va_S A s.heap H locs) (hsize : ls.size = c.maxLocals)
    (d0 : decode cc pc = .ok (.new ik, 3)) (d3 : decode cc (pc + 3) = .ok (.dup, 1)) (d4 : decode cc (pc + 4) = .ok (.ldc_w is, 3)) (d7 : decode cc (pc + 7) = .ok (.invokespecial ic, 3)) (d10 : decode cc (pc + 10) = .ok (.athrow, 1))
    (hout : ∀ x ∈ c.exceptionTable.toList, covers x (pc + 10) = false)
    (hRframes : names.length + 3 < R.frames) (hRlocals : (rest.map fun v => v.category).sum + (13 * (names.length + 1) + 43) ≤ R.locals) (hRcells : cells + 1 ≤ R.cells) (hRslots : slots + 6 ≤ R.slots) (hlocks : meth.locks = false)
    (hx : ∀ t : State, s.vm.Alike t.vm → H.size ≤ t.heap.size → (∀ q : Nat, q < H.size → t.heap[q]? = H[q]?) → XC cls s t)
    (hf : ∀ z ∈ locs, free z.base) (hc : cells + 1 ≤ mc) (hs : slots + 6 ≤ ms) :
    W p l e R s m args below meth c H locs cells slots (vx_MQ below Qc XC args s mc ms free) (F0 m pc ls rest) := by
  intro T hT X
  have htr : e.platform.stackTraces = false := (show e.platform.stackTraces = l.stackTraces by rw [X.admits.platform]).trans hl
  have Y := vx_rebase X (R' := { frames := R.frames, locals := R.locals, cells := 1, slots := 6 }) (Nat.le_refl _) (Nat.le_refl _) hRcells hRslots
  obtain ⟨s', hA⟩ : ∃ z, z = (T.setVm s.vm).setFrames (.invoking m args :: below) := ⟨_, rfl⟩
  rw [← hA] at Y
  have hvm : s'.vm = s.vm := by rw [hA]; rfl
  have hhp : s'.heap = H := by rw [hA]; exact hT
  have hW0 : s.WarmedH s'.vm := by rw [hvm]; exact State.WarmedH.refl s
  have hat' : ∀ w ∈ vx_atS own ic cls names, w.before args s' = true := fun w hw => vx_ot_at hW0 hvm.symm (hgood w (List.mem_cons_of_mem _ (List.mem_cons_of_mem _ hw))) (hat w hw)
  have hk' : (Cond.classLink own ik cls).before args s' = true := vx_ot_at hW0 hvm.symm (hgood _ List.mem_cons_self) hk
  have hini' : (Cond.initialized cls).before args s' = true := vx_ot_at hW0 hvm.symm (hgood _ (List.mem_cons_of_mem _ List.mem_cons_self)) hini
  have hU' : vx_Zq Bundle.tN "UNASSIGNED_STACK" Bundle.steD A s' s'.heap := by rw [hhp]; exact vx_Zq.moved hW0.alike (hU.kept hS.2.1)
  have hN' : vx_Zq Bundle.tN "SUPPRESSED_SENTINEL" Bundle.listD A s' s'.heap := by rw [hhp]; exact vx_Zq.moved hW0.alike (hN.kept hS.2.1)
  have h : ∀ w ∈ Bundle.ownAtoms own ic cls names, w.before args s' = true := vx_own hat' (vx_isRefq hU'.1) (vx_isRefq hN'.1) hU'.2.word hN'.2.word
  have hown' : s'.vm.findClass own = some m.cls := by rw [hvm]; exact hown
  have hins : (Cond.instantiable cls 6).before args s' = true := h _ (by simp [Bundle.ownAtoms])
  obtain ⟨vm₁, cX, kX, hfX, hkX, -, -, X₁, st1⟩ := Y.newCold hexec (own := own) (C := cls) (index := ik) (n := 6) hown' hk' hins hini'
    (g := F0 m pc ls rest) rfl (by rw [hb]; exact d0) (Nat.le_refl _) (Nat.le_refl _)
  generalize hT1 : (T.setVm vm₁).pushCell { cls := cX, slots := kX.instanceTypes.map defaultValue, vm := .none } = T1 at X₁ st1
  have hcat : (Value.ref T.heap.size).category = 1 := rfl
  have hcellA : T1.heap[T.heap.size]? = some (freshCell cX kX) := by rw [← hT1]; exact State.heap_pushCell_size _ _
  have d3' : decode c.code (pc + 3) = .ok (.dup, 1) := by rw [hb]; exact d3
  have d4' : decode c.code (pc + 4) = .ok (.ldc_w is, 3) := by rw [hb]; exact d4
  have hstr' : vk_R own is text sa s' := vk_R.warm hW0 hstr
  obtain ⟨U, hsteps, hrun, hend, hW, hsame, ce, hce, hO⟩ := X₁.ctorThrowS hexec htr (own := own) (cls := cls) (names := names) (ic := ic) hown' hcls hnames h (fun x hx => nomatch hx) hfX hkX hcellA (by rw [hhp, hT]; exact Nat.le_refl _) (msg := .ref sa) rfl
    (g := { method := m, pc := pc + 7, locals := ls, stack := .ref sa :: .ref T.heap.size :: .ref T.heap.size :: rest, locked := none }) rfl hsize rfl rfl (rest := rest) rfl
    (by rw [hb]; exact d7) (by rw [hb]; exact d10) hout hRframes (by simp only [List.map_cons, List.sum_cons, hcat]; omega) hlocks
  obtain ⟨f1, f2⟩ := vx_frame hsame
  rw [hhp] at f1 f2
  have hWs : s.WarmedH U.vm := State.WarmedH.trans hW0 hW
  have hcl : s.vm.findClass cls = some ce.cls := by
    have h9 := hO.cls
    rw [hvm] at h9
    exact h9
  have hall : s.sameButNew ({ U with vm := s.vm } : State) locs mc ms := by
    subst hA
    obtain ⟨e1, e2⟩ := hsame
    rw [State.setFrames_setFrames] at e1
    have h2 : (T.setVm s.vm).sameButNew ({ U with vm := s.vm } : State) [] (0 + 1) (0 + 6) := ⟨e1, e2⟩
    have h3 := X.same.trans h2
    rw [List.append_nil] at h3
    exact h3.mono hc hs
  refine ⟨U, ?_, .threw T.heap.size, hrun, hend, Or.inr ⟨T.heap.size, rfl, cls, ce, locs, hx U hWs.alike f1 (fun q hq => f2 q hq (fun z hz => nomatch hz)), hce, hO.vm, hcl, hWs, hall, hf⟩⟩
  refine st1 _ ?_
  show Steps p.tables e below (T1.setTop { method := m, pc := pc + 3, locals := ls, stack := .ref T.heap.size :: rest, locked := none }) _
  jvm_step X₁.here [X₁.here.top, hexec, d3', Value.category]
  exact X₁.ldcStringW hexec (own := own) (text := text) (index := is) (a := sa) hown' hstr'.1 hstr'.2
    (g := { method := m, pc := pc + 4, locals := ls, stack := .ref T.heap.size :: .ref T.heap.size :: rest, locked := none }) rfl d4' _ hsteps
end Ends
section Bodies
variable {l : Launch}
theorem vx_ofW {y : MethodName} {ws ws' : List Cond} {rm : Room} {Pc : Array Value → State → Prop} {Qc : Array Value → State → Outcome → State → Prop} {XC : String → State → State → Prop} {mc ms : Nat} {free : Addr → Prop} {cc : ByteArray} {maxL : Nat} {ret : Option FieldType}
    (hy : plainName y.cls = true) (hw : ws = Cond.code y cc maxL ret :: ws')
    (body : ∀ p e s m args below meth c s₁, BodyLoose p l y (headSpec ws rm) cc maxL ret e s m args below meth c s₁ → c.maxLocals = maxL → (∀ x ∈ c.exceptionTable.toList, False) → Pc args s →
      W p l e (headSpec ws rm).room s m args below meth c s.heap [] 0 0 (vx_MQ below Qc XC args s mc ms free) (entryFrame m args maxL)) : vx_Met l y ws rm Pc Qc XC mc ms free := by
  refine MetFree.of_bodyS (code := cc) (maxLocals := maxL) (ret := ret) hy ?_ ?_
  · intro args s m h hn
    obtain ⟨meth, c, h1, h2, h3, h4, h5, h6, -, -⟩ := Cond.code_spec hn (atoms_spec (ws := ws) h _ (by rw [hw]; exact List.mem_cons_self))
    exact ⟨meth, c, h1, h2, h3, h4, h5, h6⟩
  · intro p e s m args below meth c s₁ B hml hP _
    have hh0 : s₁.heap = s.heap := by rw [B.state]; rfl
    have ht : ∀ x ∈ c.exceptionTable.toList, False := by
      obtain ⟨meth9, c9, h1, h2, -, -, -, -, h7, -⟩ := Cond.code_spec B.named (atoms_spec (ws := ws) B.pre _ (by rw [hw]; exact List.mem_cons_self))
      cases Option.some.inj (h1.symm.trans B.method)
      cases Option.some.inj (h2.symm.trans (Stand.of_body B).code)
      intro x hx
      rw [Array.isEmpty_iff.mp h7] at hx
      cases hx
    obtain ⟨t, a1, o, b1, b2, b3⟩ := body p e s m args below meth c s₁ B hml ht hP s₁ hh0 (Stand.of_body B)
    exact ⟨t, o, a1, b1, b2, b3⟩
/-- the table of a body with handlers -/
theorem vx_table {p : Program} {x y : MethodName} {S : Spec} {cc bytes : ByteArray} {maxL maxL' : Nat} {ret ret' : Option FieldType} {e : Env} {s s₁ : State} {m : MethodId} {args : Array Value} {below : List Frame} {meth : Method} {c : Code} {hh : List (Nat × Nat × Nat × Nat)}
    (B : BodyLoose p l y S cc maxL ret e s m args below meth c s₁) (h : (Cond.codeWith y bytes maxL' ret' hh).before args s = true) : c.exceptionTable.toList = tableOf hh := by
  obtain ⟨m9, meth9, c9, hn9, h1, h2, -, -, h6, -⟩ := Cond.codeWith_spec h
  cases Option.some.inj (hn9.symm.trans B.named)
  cases Option.some.inj (h1.symm.trans B.method)
  cases Option.some.inj (h2.symm.trans (Stand.of_body B).code)
  rw [← h6, table_eq]
end Bodies
end VXA
/-! ===== END ===== -/
/-! ===== BEGIN a static call of a method with an exception table ===== -/
section VXS
variable {p : Program} {l : Launch} {e : Env} {R : Room} {s : State} {m : MethodId} {args : Array Value} {below : List Frame} {meth : Method} {c : Code} {T : State} {H : Heap} {locs : List Loc} {cells slots : Nat}
abbrev vx_CSW (R : Room) (s : State) (args : Array Value) (own : String) (index : Nat) (y : MethodName) (bytes : ByteArray) (maxL : Nat) (ret : Option FieldType) (hh : List (Nat × Nat × Nat × Nat)) (ws : List Cond) (rm : Room) (mc ms n : Nat) : Prop :=
  (rm.cells = mc ∧ rm.slots = ms ∧ rm.frames + 1 ≤ R.frames ∧ 8 + (maxL + 11) + rm.locals ≤ R.locals ∧ (∀ w ∈ ws, ∀ (a' : Array Value) (U : State), s.WarmedH U.vm → w.before a' U = true) ∧ Cond.codeWith y bytes maxL ret hh ∈ ws) ∧
  (Cond.codeWith y bytes maxL ret hh).before args s = true ∧ (Cond.initialized y.cls).before args s = true ∧ (y.cls ≠ "java/lang/invoke/MethodHandle" ∧ y.cls ≠ "java/lang/invoke/VarHandle") ∧
  (∀ sig, parseMethodDescriptor y.desc = some sig → n = sig.parameters.length) ∧ (Cond.methodLink own index y).before args s = true ∧ (Cond.static y).before args s = true
theorem vx_cwSW {own : String} {index maxL mc ms : Nat} {y : MethodName} {bytes : ByteArray} {ret : Option FieldType} {hh : List (Nat × Nat × Nat × Nat)} {Ts ws ws' : List Cond} {rm : Room} (n : Nat) (ht : ∀ w ∈ Ts, w.before args s = true) (hT : GoodIn Ts (va_wsS own index y ws)) (hw : ws = Cond.codeWith y bytes maxL ret hh :: ws') (hrc : rm.cells = mc) (hrs : rm.slots = ms)
    (hd : y.cls ≠ "java/lang/invoke/MethodHandle" ∧ y.cls ≠ "java/lang/invoke/VarHandle" ∧ (parseMethodDescriptor y.desc).map (fun d => d.parameters.length) = some n) (hR : rm.frames + 1 ≤ R.frames ∧ 8 + (maxL + 11) + rm.locals ≤ R.locals) :
    vx_CSW R s args own index y bytes maxL ret hh ws rm mc ms n := by
  have ok : ∀ w ∈ va_wsS own index y ws, w.before args s = true := fun w h => ht w (hT w h).1
  have hG : GoodIn Ts ws := fun w h => hT w (by unfold va_wsS; exact List.mem_append_right _ h)
  have hc : Cond.codeWith y bytes maxL ret hh ∈ ws := by rw [hw]; exact List.mem_cons_self
  refine ⟨⟨hrc, hrs, hR.1, hR.2, pay_in ht hG, hc⟩, ht _ (hG _ hc).1, ok _ (by simp [va_wsS]), ⟨hd.1, hd.2.1⟩, fun sig h => ?_, ok _ (by simp [va_wsS]), ok _ (by simp [va_wsS])⟩
  have h2 := hd.2.2
  rw [h] at h2
  exact (Option.some.inj h2).symm
theorem vx_callSW (X : Stand p l e R s m args below meth c T locs cells slots) (hexec : p.tables.exec = Jvm.exec) {own : String} {index : Nat} {y : MethodName} {bytes : ByteArray} {maxL : Nat} {ret : Option FieldType} {hh : List (Nat × Nat × Nat × Nat)}
    (hown : s.vm.findClass own = some m.cls) (hlink : (Cond.methodLink own index y).before args s = true) (hstat : (Cond.static y).before args s = true) (hinit : (Cond.initialized y.cls).before args s = true)
    (hcode : (Cond.codeWith y bytes maxL ret hh).before args s = true) (hy : y.cls ≠ "java/lang/invoke/MethodHandle" ∧ y.cls ≠ "java/lang/invoke/VarHandle")
    {W9 : Nat} {Pre : Pt → Array Value → Prop} {Post : Pt → Array Value → Option Value → Pt → Prop} (hK : Back l R p e below s args y 3 W9 Pre Post)
    {g : JFrame} (hg : g.method = m) (hsize : g.locals.size = c.maxLocals) {argsL rest : List Value} (hlen : ∀ sig, parseMethodDescriptor y.desc = some sig → argsL.length = sig.parameters.length)
    (hstack : g.stack = argsL.reverse ++ rest) (hW : 2 * g.monitorRoom + (rest.map fun v => v.category).sum ≤ W9) (hdg : decode c.code g.pc = .ok (.invokestatic index, 3))
    (hpre : ∀ vm₁, s.WarmedH vm₁ → Pre ⟨T.setVm vm₁, locs, cells, slots⟩ argsL.toArray) :
    ∃ (v : Option Value) (vm₁ : Vm) (B : Pt), s.WarmedH vm₁ ∧ Stand p l e R s m args below meth c B.U B.locs B.cells B.slots ∧ Post ⟨T.setVm vm₁, locs, cells, slots⟩ argsL.toArray v B ∧
      ∀ target, Steps p.tables e below (B.U.setTop { g with pc := g.pc + 3, stack := v.toList ++ rest }) target → Steps p.tables e below (T.setTop g) target := by
  obtain ⟨mk, methM, cM, hnamed, hmethM, -, -, -, -, -, -, hsigM⟩ := Cond.codeWith_spec hcode
  have hstatic : methM.isStatic = true := Cond.static_spec hnamed hmethM hstat
  obtain ⟨kP, hkP, -⟩ := className_of_methodNamed hnamed
  have hinitP : kP.init = .initialized := Cond.initialized_spec (findClass_of_methodNamed hnamed) hkP hinit
  obtain ⟨vm₁, X₁, hstep₁⟩ := X.invokestatic hexec hown hlink hnamed hmethM hstatic hkP hinitP hy (g := g) hg (argsL := argsL) (rest := rest) (hlen _ hsigM) hstack hdg
  obtain ⟨v, B, X', hpost, hsteps⟩ := hK m meth c ⟨T.setVm vm₁, locs, cells, slots⟩ { g with stack := rest } (.invokestatic index) mk argsL.toArray X₁ hg hsize hdg hW (X₁.named hnamed) (hpre vm₁ X₁.warmed)
  exact ⟨v, vm₁, B, X₁.warmed, X', hpost, fun target h => hstep₁ _ fun acts => by rw [doInvoke_state]; exact hsteps.trans h⟩
theorem vx_runSW {y : MethodName} {bytes cc : ByteArray} {maxL nL mc ms n index : Nat} {ret : Option FieldType} {hh : List (Nat × Nat × Nat × Nat)} {ws : List Cond} {rm : Room} {Pc : Array Value → State → Prop} {Qc : Array Value → State → Outcome → State → Prop} {free : Addr → Prop} {Ts : List Cond} {own : String} {As rest : List Value} {g : JFrame}
    (S : CallFix p m c cc nL s args Ts own) (hM : Met l y ws rm Pc Qc mc ms free) (cw : vx_CSW R s args own index y bytes maxL ret hh ws rm mc ms n) (hp : PreS s H Pc As)
    (hg : g.method = m) (hn : As.length = n) (hsize : g.locals.size = nL) (hstack : g.stack = As.reverse ++ rest) (hW : 2 * g.monitorRoom + (rest.map fun v => v.category).sum ≤ 8) (hdg : decode cc g.pc = .ok (.invokestatic index, 3)) (hf : cells + mc ≤ R.cells ∧ slots + ms ≤ R.slots) :
    va_Run p l e R s m args below meth c H locs cells slots mc ms g rest (Qc As.toArray) (free) := by
  obtain ⟨⟨hrc, hrs, hfr, hlo, hws, hcw⟩, hcode, hini, hy, hlen, hl, hstt⟩ := cw
  have hK : Back l R p e below s args y 3 8 (PreOf R mc ms Pc) (PostOf Qc mc ms free) := va_backW (hh := hh) (bytes := bytes) (maxL := maxL) (ret := ret) hM hp.1 hrc hrs hfr hlo hws hcw (fun a' U hW => word_at hW (Or.inl (by first | rfl | simp [Cond.onTables, Cond.keeps, Cond.steady])) hini)
  obtain ⟨hx, hb, hml, ho, -⟩ := S
  intro T hT X
  obtain ⟨v, vm₁, ⟨U', l2, c2, s2⟩, hW₁, X', ⟨g', mk, t, L, e1, e2, hq, h1, hL, h2, h3⟩, st⟩ := vx_callSW X hx (hh := hh) (bytes := bytes) (maxL := maxL) (ret := ret) ho hl hstt hini hcode hy hK hg (hsize.trans hml.symm) (argsL := As) (rest := rest) (fun sig h => hn.trans (hlen sig h)) hstack hW (by rw [hb]; exact hdg)
    (fun vm₁ hW₁ => ⟨hf.1, hf.2, hp.2 (T.setVm vm₁) hT hW₁⟩)
  dsimp only [Pt.U, Pt.locs, Pt.cells, Pt.slots] at X' e1 e2 h1 h2 h3 st
  subst h1; subst h2; subst h3
  exact ⟨v, (T.setVm vm₁).calling g' mk As.toArray, t, U', L, hT, X', hL, e1, e2, hq, st⟩
/-- not caught here, past rows that name other classes: it goes on to the caller -/
theorem vx_outP {p : Program} {l : Launch} {e : Env} {R : Room} {s : State} {m : MethodId} {args : Array Value} {below : List Frame} {meth : Method} {c : Code} {H : Heap} {locs : List Loc} {cells slots : Nat} {free : Addr → Prop} {ls : Array Slot} {rest : List Value} {Qc : Array Value → State → Outcome → State → Prop} {XC : String → State → State → Prop}
    {pc : Nat} {own E : String} {ce : Cell} {q : Addr} {mc ms : Nat} (hown : s.vm.findClass own = some m.cls) (hlocks : meth.locks = false)
    (hpass : ∀ z ∈ c.exceptionTable.toList, covers z pc = false ∨ (z.catchType ≠ 0 ∧ ∃ nm : String, (Cond.classLink own z.catchType nm).before args s = true ∧ va_Nc E nm s)) (hcell : H[q]? = some ce) (hv : ce.vm = .none) (hcl : s.vm.findClass E = some ce.cls)
    (hx : ∀ t : State, t.heap = H → s.vm.Alike t.vm → XC E s t) (hf : ∀ z ∈ locs, free z.base) (hc : cells ≤ mc) (hs : slots ≤ ms) :
    vx_W p l e R s m args below meth c H locs cells slots (vx_MQ below Qc XC args s mc ms free) (F0 m pc ls rest) q := by
  intro T hT X
  have hpl : e.platform.magicAccessors = ({} : Platform).magicAccessors := by rw [X.admits.platform]
  obtain ⟨vm', hW', X', st⟩ := X.outThrough hlocks q (g := F0 m pc ls rest) rfl rfl rfl (cell := ce) (by rw [hT]; exact hcell) (by rw [hv]; rfl)
    (by obtain ⟨k9, h9, -⟩ := Vm.findClass_spec hcl; exact ⟨k9, h9⟩) (fun z hz => by
      rcases hpass z hz with h | ⟨hz0, nm, hl1, hn1⟩
      · exact Or.inl h
      · obtain ⟨c6, hc6, hcl6⟩ := Cond.classLink_spec hown hl1 e.platform hpl
        obtain ⟨a8, b8, h1, h2, h3⟩ := hn1
        cases Option.some.inj (h1.symm.trans hcl)
        cases Option.some.inj (h2.symm.trans hc6)
        exact Or.inr ⟨hz0, _, hcl6, h3⟩)
  obtain ⟨g₀, hfr⟩ := X'.frames_eq
  have hcell9 : ((T.setVm vm').setFrames (.throwing q :: below)).heap[q]? = some ce := by
    show T.heap[q]? = some ce
    rw [hT]; exact hcell
  have hend : Ended ((T.setVm vm').setFrames (.throwing q :: below)) below (.threw q) := State.frames_setFrames _ (State.cur_lt_of_frames hfr)
  refine ⟨(T.setVm vm').setFrames (.throwing q :: below), ?_, .threw q, X'.here.running, hend, Or.inr ⟨q, rfl, E, ce, locs, hx _ hT (X'.ends _).1.alike, hcell9, hv, hcl, (X'.ends _).1, (X'.ends _).2.mono hc hs, hf⟩⟩
  rw [X.pushThrowing_eq]
  exact st
/-- a thing of a world lies in the heap -/
theorem vx_lt {D : va_G} {cl : List vw_C} {ws : va_W} {H1 : Heap} (h : va_P D cl ws H1) {k : Nat} {q : Nat × va_E} (hk : ws[k]? = some q) : q.1 < H1.size := (h k q hk).lt
end VXS
/-! ===== END ===== -/
/-! ===== BEGIN methods with a table of their own: called by a name, returning or throwing ===== -/
section VXH
/-! vx_backW, vx_callVX, vx_callSX, vx_callVW, vx_runVW, vx_runVX, vx_runSX, vx_ofWH follow the same proofs as their sisters above (Free/Laws.lean, Shelf42/LK1.lean); vx_outP calls Shelf42/NT130.lean (outThrough). -/
section
variable {l : Launch} {R : Room} {p : Program} {e : Env} {below : List Frame} {s : State} {sargs : Array Value} {y : MethodName} {len W9 : Nat}
theorem vx_backW {ws : List Cond} {rm : Room} {Pc : Array Value → State → Prop} {Qc : Array Value → State → Outcome → State → Prop} {XC : String → State → State → Prop} {mc ms : Nat} {free : Addr → Prop} {bytes : ByteArray} {maxL : Nat} {ret : Option FieldType} {hh : List (Nat × Nat × Nat × Nat)}
    (hM : vx_Met l y ws rm Pc Qc XC mc ms free) (hblind : FrameBlind Pc) (hrc : rm.cells = mc) (hrs : rm.slots = ms)
    (hframes : rm.frames + 1 ≤ R.frames) (hlocals : W9 + (maxL + 11) + rm.locals ≤ R.locals)
    (hws : ∀ w ∈ ws, ∀ a' U, s.WarmedH U.vm → w.before a' U = true) (hcode : Cond.codeWith y bytes maxL ret hh ∈ ws) (hinit : ∀ a' U, s.WarmedH U.vm → (Cond.initialized y.cls).before a' U = true) :
    vx_Back l R p e below s sargs y len W9 (PreOf R mc ms Pc) (PostOf Qc mc ms free) (vx_Post XC mc ms free) := by
  intro m meth c A g ig mk a X hg hsize hdg hW hn hp
  have h1 : (headSpec ws rm).pre.before a A.U = true := atoms_intro fun w hw => hws w hw _ _ X.warmed
  have h2 : (Cond.codeWith y bytes maxL ret hh).before a A.U = true := hws _ hcode _ _ X.warmed
  have h3 : (Cond.initialized y.cls).before a A.U = true := hinit _ _ X.warmed
  have h4 : A.cells + (headSpec ws rm).room.cells ≤ R.cells := by rw [show (headSpec ws rm).room.cells = mc from hrc]; exact hp.1
  have h5 : A.slots + (headSpec ws rm).room.slots ≤ R.slots := by rw [show (headSpec ws rm).room.slots = ms from hrs]; exact hp.2.1
  have hPc : Pc a (A.U.calling g mk a) := hblind _ _ _ _ hp.2.2
  obtain ⟨U, Ls, c0, s0⟩ := A
  dsimp only [Pt.U, Pt.locs, Pt.cells, Pt.slots] at h1 h2 h3 h4 h5 X hn hPc ⊢
  obtain ⟨m9, methY, cY, hn9, hmY, hcY, -, hlY, -⟩ := Cond.codeWith_spec h2
  cases Option.some.inj (hn9.symm.trans hn)
  obtain ⟨kY, hkY, -⟩ := className_of_methodNamed hn
  have hinitY : kY.init = .initialized := Cond.initialized_spec (findClass_of_methodNamed hn) hkY h3
  have h : At U g.method c below := by rw [hg]; exact X.here
  have hlocals9 : W9 + (maxL + 11) + (headSpec ws rm).room.locals ≤ R.locals := hlocals
  have happ : (headSpec ws rm).appliesLoose y e.platform (U.calling g mk a) = true :=
    Spec.appliesLoose_calling (g := g) h hdg hn hkY hinitY
      (X.room_calling (g := g) (R' := (headSpec ws rm).room) hsize hmY hcY hframes (by rw [hlY]; omega) h4 h5) h1
  obtain ⟨mid, hmid⟩ := h.above
  have hfr : (U.setTop g).frames = (.java g :: mid) ++ below := by rw [State.frames_setTop' g h.top, hmid]; rfl
  obtain ⟨o, s₂, hsteps, -, hend, hq⟩ := Steps.callFree hM p X.admits X.cas X.clock (acts := []) hfr happ hPc trivial
  have hq' : vx_Q Qc XC mc ms free a (U.calling g mk a) o s₂ := hq
  rw [State.frames_setTop' g h.top] at hend
  obtain ⟨g₀, hg0⟩ := Option.isSome_iff_exists.mp h.top
  obtain ⟨r, hr⟩ := State.topJava?_eq_some.mp hg0
  have hr' : (({ U with heap := s₂.heap, slotsUsed := s₂.slotsUsed } : State).setVm s₂.vm).frames = .java g₀ :: r := hr
  rcases hq' with ⟨hqc, L, hfe, hL⟩ | ⟨q, rfl, E, ce, L, hx, hce, hcv, hcl, hW₂, hsm, hL⟩
  · obtain ⟨⟨v, rfl⟩, hW₂, e2, q2, q3, q4, q5, q6⟩ := id hfe
    have e3 : s₂ = ({ (U.calling g mk a).setFrames s₂.frames with heap := s₂.heap, slotsUsed := s₂.slotsUsed } : State).setVm s₂.vm := by
      have : s₂ = ({ s₂ with vm := (U.calling g mk a).vm } : State).setVm s₂.vm := rfl
      rw [e2] at this
      exact this
    obtain ⟨c₂, i₂, len₂, hc₂, hd₂, hf₂⟩ := hend
    have hW' : U.WarmedH s₂.vm := hW₂
    have hcc : c₂ = c := by
      have h1 : s₂.code? g.method = U.code? g.method := by
        rw [State.code?_eq, State.code?_eq, hW'.alike.method?]
      exact Option.some.inj (hc₂.symm.trans (h1.trans h.code))
    subst hcc
    have hlen : len₂ = len := by rw [hdg] at hd₂; cases hd₂; rfl
    subst hlen
    have hs₂ : s₂ = (({ U with heap := s₂.heap, slotsUsed := s₂.slotsUsed } : State).setVm s₂.vm).setTop { g with pc := g.pc + len₂, stack := v.toList ++ g.stack } := by
      refine e3.trans ?_
      rw [hf₂, State.calling_eq h.top, State.setFrames_setFrames, State.setTop_of_frames _ hr', hr]
      rfl
    have hsame : U.sameButNew ({ U with heap := s₂.heap, slotsUsed := s₂.slotsUsed } : State) L mc ms := by
      refine ⟨?_, q2, q3, q4, q5, q6⟩
      obtain ⟨t, ht, -⟩ := State.frames_cons hr
      show ({ U with heap := s₂.heap, slotsUsed := s₂.slotsUsed } : State) = { U.setFrames U.frames with heap := s₂.heap, slotsUsed := s₂.slotsUsed }
      rw [State.setFrames_self ht]
    subst hg
    refine Or.inl ⟨v, ⟨(({ U with heap := s₂.heap, slotsUsed := s₂.slotsUsed } : State).setVm s₂.vm), Ls ++ L, c0 + mc, s0 + ms⟩,
      ⟨X.admits, X.cas, X.clock, X.frames, X.room, X.hears, X.method, X.code, (X.here.setHeapUsed s₂.heap s₂.slotsUsed).setVm hW'.alike, X.tail, State.WarmedH.trans X.warmed hW', X.limits, X.bytes, X.same.trans (hsame.setVm s.vm)⟩,
      ⟨g, mk, s₂, L, rfl, rfl, hqc, rfl, hL, rfl, rfl⟩, ?_⟩
    show Steps p.tables e below _ ((({ U with heap := s₂.heap, slotsUsed := s₂.slotsUsed } : State).setVm s₂.vm).setTop { g with pc := g.pc + len₂, stack := v.toList ++ g.stack })
    rw [← hs₂]
    exact hsteps
  · obtain ⟨e2, q2, q3, q4, q5, q6⟩ := id hsm
    have e3 : s₂ = ({ (U.calling g mk a).setFrames s₂.frames with heap := s₂.heap, slotsUsed := s₂.slotsUsed } : State).setVm s₂.vm := by
      have : s₂ = ({ s₂ with vm := (U.calling g mk a).vm } : State).setVm s₂.vm := rfl
      rw [e2] at this
      exact this
    have hf₂ : s₂.frames = .throwing q :: .java g :: U.frames.tail := hend
    have hW' : U.WarmedH s₂.vm := hW₂
    have hs₂ : s₂ = ((({ U with heap := s₂.heap, slotsUsed := s₂.slotsUsed } : State).setVm s₂.vm).setTop g).pushFrame (.throwing q) := by
      refine e3.trans ?_
      rw [hf₂, State.calling_eq h.top, State.setFrames_setFrames, State.pushFrame, State.frames_setTop _ hr', State.setTop_of_frames _ hr', State.setFrames_setFrames, hr]
      rfl
    have hsame : U.sameButNew ({ U with heap := s₂.heap, slotsUsed := s₂.slotsUsed } : State) L mc ms := by
      refine ⟨?_, q2, q3, q4, q5, q6⟩
      obtain ⟨t, ht, -⟩ := State.frames_cons hr
      show ({ U with heap := s₂.heap, slotsUsed := s₂.slotsUsed } : State) = { U.setFrames U.frames with heap := s₂.heap, slotsUsed := s₂.slotsUsed }
      rw [State.setFrames_self ht]
    subst hg
    refine Or.inr ⟨q, ⟨(({ U with heap := s₂.heap, slotsUsed := s₂.slotsUsed } : State).setVm s₂.vm), Ls ++ L, c0 + mc, s0 + ms⟩,
      ⟨X.admits, X.cas, X.clock, X.frames, X.room, X.hears, X.method, X.code, (X.here.setHeapUsed s₂.heap s₂.slotsUsed).setVm hW'.alike, X.tail, State.WarmedH.trans X.warmed hW', X.limits, X.bytes, X.same.trans (hsame.setVm s.vm)⟩,
      ⟨g, mk, s₂, L, E, ce, rfl, rfl, hx, hce, hcv, hcl, rfl, hL, rfl, rfl⟩, ?_⟩
    show Steps p.tables e below _ (((({ U with heap := s₂.heap, slotsUsed := s₂.slotsUsed } : State).setVm s₂.vm).setTop g).pushFrame (.throwing q))
    rw [← hs₂]
    exact hsteps
end
variable {p : Program} {l : Launch} {e : Env} {R : Room} {s : State} {m : MethodId} {args : Array Value} {below : List Frame} {meth : Method} {c : Code} {T : State} {H : Heap} {locs : List Loc} {cells slots : Nat}
theorem vx_callVX (X : Stand p l e R s m args below meth c T locs cells slots) (hexec : p.tables.exec = Jvm.exec) {own C : String} {index : Nat} {y : MethodName} {bytes : ByteArray} {maxL : Nat} {ret : Option FieldType} {hh : List (Nat × Nat × Nat × Nat)}
    (hown : s.vm.findClass own = some m.cls) (hlink : (Cond.methodLink own index y).before args s = true) (hinst : (Cond.instanceMethod y).before args s = true) (hsel : (Cond.selects C y y).before args s = true)
    (hcode : (Cond.codeWith y bytes maxL ret hh).before args s = true) (hy : y.cls ≠ "java/lang/invoke/MethodHandle" ∧ y.cls ≠ "java/lang/invoke/VarHandle")
    {W9 : Nat} {Pre : Pt → Array Value → Prop} {Post : Pt → Array Value → Option Value → Pt → Prop} {PostX : Pt → Array Value → Addr → Pt → Prop} (hK : vx_Back l R p e below s args y 3 W9 Pre Post PostX)
    {b : Addr} {cellB : Cell} (hcell : T.heap[b]? = some cellB) (hobj : cellB.vm.isStatics = false) (hcls : s.vm.findClass C = some cellB.cls)
    {g : JFrame} (hg : g.method = m) (hsize : g.locals.size = c.maxLocals) {argsL rest : List Value} (hlen : ∀ sig, parseMethodDescriptor y.desc = some sig → argsL.length = sig.parameters.length)
    (hstack : g.stack = argsL.reverse ++ .ref b :: rest) (hW : 2 * g.monitorRoom + (rest.map fun v => v.category).sum ≤ W9) (hdg : decode c.code g.pc = .ok (.invokevirtual index, 3))
    (hpre : ∀ vm₁, s.WarmedH vm₁ → Pre ⟨T.setVm vm₁, locs, cells, slots⟩ (Value.ref b :: argsL).toArray) :
    (∃ (v : Option Value) (vm₁ : Vm) (B : Pt), s.WarmedH vm₁ ∧ Stand p l e R s m args below meth c B.U B.locs B.cells B.slots ∧ Post ⟨T.setVm vm₁, locs, cells, slots⟩ (Value.ref b :: argsL).toArray v B ∧
      ∀ target, Steps p.tables e below (B.U.setTop { g with pc := g.pc + 3, stack := v.toList ++ rest }) target → Steps p.tables e below (T.setTop g) target) ∨
    (∃ (q : Addr) (vm₁ : Vm) (B : Pt), s.WarmedH vm₁ ∧ Stand p l e R s m args below meth c B.U B.locs B.cells B.slots ∧ PostX ⟨T.setVm vm₁, locs, cells, slots⟩ (Value.ref b :: argsL).toArray q B ∧
      Steps p.tables e below (T.setTop g) ((B.U.setTop { g with stack := rest }).pushFrame (.throwing q))) := by
  obtain ⟨mk, methM, hnamed, hmethM, hstM, habM⟩ := Cond.instanceMethod_spec hinst
  obtain ⟨m8, methM', cM, hn8, hmethM', -, -, -, -, -, -, hsigM⟩ := Cond.codeWith_spec hcode
  cases Option.some.inj (hn8.symm.trans hnamed)
  cases hmethM.symm.trans hmethM'
  obtain ⟨c2, r2, m2, q1, q2, q3, q4, kP, hkP, hkPi⟩ := Cond.selects_spec hsel
  cases hcls.symm.trans q1
  cases (State.methodFound?_of_named hnamed hy).symm.trans q2
  cases hnamed.symm.trans q3
  have hselP : selectMethod e.platform s.vm cellB.cls mk = .method mk := by rw [Launch.admits_selectMethod X.admits]; exact q4
  obtain ⟨vm₁, X₁, hstep₁⟩ := X.invokevirtual hexec hown hlink hnamed hmethM hstM hkP hkPi hy (a := b) (cell := cellB) hcell
    (fun z h => by rw [h] at hobj; cases hobj) hselP hmethM habM hkP hkPi (g := g) hg (argsL := argsL) (rest := rest) (hlen _ hsigM) hstack hdg
  rcases hK m meth c ⟨T.setVm vm₁, locs, cells, slots⟩ { g with stack := rest } (.invokevirtual index) mk (Value.ref b :: argsL).toArray X₁ hg hsize hdg hW (X₁.named hnamed) (hpre vm₁ X₁.warmed) with ⟨v, B, X', hpost, hsteps⟩ | ⟨q, B, X', hpost, hsteps⟩
  · exact Or.inl ⟨v, vm₁, B, X₁.warmed, X', hpost, fun target h => hstep₁ _ fun acts => by rw [doInvoke_state]; exact hsteps.trans h⟩
  · exact Or.inr ⟨q, vm₁, B, X₁.warmed, X', hpost, hstep₁ _ fun acts => by rw [doInvoke_state]; exact hsteps⟩
theorem vx_callSX (X : Stand p l e R s m args below meth c T locs cells slots) (hexec : p.tables.exec = Jvm.exec) {own : String} {index : Nat} {y : MethodName} {bytes : ByteArray} {maxL : Nat} {ret : Option FieldType} {hh : List (Nat × Nat × Nat × Nat)}
    (hown : s.vm.findClass own = some m.cls) (hlink : (Cond.methodLink own index y).before args s = true) (hstat : (Cond.static y).before args s = true) (hinit : (Cond.initialized y.cls).before args s = true)
    (hcode : (Cond.codeWith y bytes maxL ret hh).before args s = true) (hy : y.cls ≠ "java/lang/invoke/MethodHandle" ∧ y.cls ≠ "java/lang/invoke/VarHandle")
    {W9 : Nat} {Pre : Pt → Array Value → Prop} {Post : Pt → Array Value → Option Value → Pt → Prop} {PostX : Pt → Array Value → Addr → Pt → Prop} (hK : vx_Back l R p e below s args y 3 W9 Pre Post PostX)
    {g : JFrame} (hg : g.method = m) (hsize : g.locals.size = c.maxLocals) {argsL rest : List Value} (hlen : ∀ sig, parseMethodDescriptor y.desc = some sig → argsL.length = sig.parameters.length)
    (hstack : g.stack = argsL.reverse ++ rest) (hW : 2 * g.monitorRoom + (rest.map fun v => v.category).sum ≤ W9) (hdg : decode c.code g.pc = .ok (.invokestatic index, 3))
    (hpre : ∀ vm₁, s.WarmedH vm₁ → Pre ⟨T.setVm vm₁, locs, cells, slots⟩ argsL.toArray) :
    (∃ (v : Option Value) (vm₁ : Vm) (B : Pt), s.WarmedH vm₁ ∧ Stand p l e R s m args below meth c B.U B.locs B.cells B.slots ∧ Post ⟨T.setVm vm₁, locs, cells, slots⟩ argsL.toArray v B ∧
      ∀ target, Steps p.tables e below (B.U.setTop { g with pc := g.pc + 3, stack := v.toList ++ rest }) target → Steps p.tables e below (T.setTop g) target) ∨
    (∃ (q : Addr) (vm₁ : Vm) (B : Pt), s.WarmedH vm₁ ∧ Stand p l e R s m args below meth c B.U B.locs B.cells B.slots ∧ PostX ⟨T.setVm vm₁, locs, cells, slots⟩ argsL.toArray q B ∧
      Steps p.tables e below (T.setTop g) ((B.U.setTop { g with stack := rest }).pushFrame (.throwing q))) := by
  obtain ⟨mk, methM, cM, hnamed, hmethM, -, -, -, -, -, -, hsigM⟩ := Cond.codeWith_spec hcode
  have hstatic : methM.isStatic = true := Cond.static_spec hnamed hmethM hstat
  obtain ⟨kP, hkP, -⟩ := className_of_methodNamed hnamed
  have hinitP : kP.init = .initialized := Cond.initialized_spec (findClass_of_methodNamed hnamed) hkP hinit
  obtain ⟨vm₁, X₁, hstep₁⟩ := X.invokestatic hexec hown hlink hnamed hmethM hstatic hkP hinitP hy (g := g) hg (argsL := argsL) (rest := rest) (hlen _ hsigM) hstack hdg
  rcases hK m meth c ⟨T.setVm vm₁, locs, cells, slots⟩ { g with stack := rest } (.invokestatic index) mk argsL.toArray X₁ hg hsize hdg hW (X₁.named hnamed) (hpre vm₁ X₁.warmed) with ⟨v, B, X', hpost, hsteps⟩ | ⟨q, B, X', hpost, hsteps⟩
  · exact Or.inl ⟨v, vm₁, B, X₁.warmed, X', hpost, fun target h => hstep₁ _ fun acts => by rw [doInvoke_state]; exact hsteps.trans h⟩
  · exact Or.inr ⟨q, vm₁, B, X₁.warmed, X', hpost, hstep₁ _ fun acts => by rw [doInvoke_state]; exact hsteps⟩
theorem vx_callVW (X : Stand p l e R s m args below meth c T locs cells slots) (hexec : p.tables.exec = Jvm.exec) {own C : String} {index : Nat} {y : MethodName} {bytes : ByteArray} {maxL : Nat} {ret : Option FieldType} {hh : List (Nat × Nat × Nat × Nat)}
    (hown : s.vm.findClass own = some m.cls) (hlink : (Cond.methodLink own index y).before args s = true) (hinst : (Cond.instanceMethod y).before args s = true) (hsel : (Cond.selects C y y).before args s = true)
    (hcode : (Cond.codeWith y bytes maxL ret hh).before args s = true) (hy : y.cls ≠ "java/lang/invoke/MethodHandle" ∧ y.cls ≠ "java/lang/invoke/VarHandle")
    {W9 : Nat} {Pre : Pt → Array Value → Prop} {Post : Pt → Array Value → Option Value → Pt → Prop} (hK : Back l R p e below s args y 3 W9 Pre Post)
    {b : Addr} {cellB : Cell} (hcell : T.heap[b]? = some cellB) (hobj : cellB.vm.isStatics = false) (hcls : s.vm.findClass C = some cellB.cls)
    {g : JFrame} (hg : g.method = m) (hsize : g.locals.size = c.maxLocals) {argsL rest : List Value} (hlen : ∀ sig, parseMethodDescriptor y.desc = some sig → argsL.length = sig.parameters.length)
    (hstack : g.stack = argsL.reverse ++ .ref b :: rest) (hW : 2 * g.monitorRoom + (rest.map fun v => v.category).sum ≤ W9) (hdg : decode c.code g.pc = .ok (.invokevirtual index, 3))
    (hpre : ∀ vm₁, s.WarmedH vm₁ → Pre ⟨T.setVm vm₁, locs, cells, slots⟩ (Value.ref b :: argsL).toArray) :
    ∃ (v : Option Value) (vm₁ : Vm) (B : Pt), s.WarmedH vm₁ ∧ Stand p l e R s m args below meth c B.U B.locs B.cells B.slots ∧ Post ⟨T.setVm vm₁, locs, cells, slots⟩ (Value.ref b :: argsL).toArray v B ∧
      ∀ target, Steps p.tables e below (B.U.setTop { g with pc := g.pc + 3, stack := v.toList ++ rest }) target → Steps p.tables e below (T.setTop g) target := by
  obtain ⟨mk, methM, hnamed, hmethM, hstM, habM⟩ := Cond.instanceMethod_spec hinst
  obtain ⟨m8, methM', cM, hn8, hmethM', -, -, -, -, -, -, hsigM⟩ := Cond.codeWith_spec hcode
  cases Option.some.inj (hn8.symm.trans hnamed)
  cases hmethM.symm.trans hmethM'
  obtain ⟨c2, r2, m2, q1, q2, q3, q4, kP, hkP, hkPi⟩ := Cond.selects_spec hsel
  cases hcls.symm.trans q1
  cases (State.methodFound?_of_named hnamed hy).symm.trans q2
  cases hnamed.symm.trans q3
  have hselP : selectMethod e.platform s.vm cellB.cls mk = .method mk := by rw [Launch.admits_selectMethod X.admits]; exact q4
  obtain ⟨vm₁, X₁, hstep₁⟩ := X.invokevirtual hexec hown hlink hnamed hmethM hstM hkP hkPi hy (a := b) (cell := cellB) hcell
    (fun z h => by rw [h] at hobj; cases hobj) hselP hmethM habM hkP hkPi (g := g) hg (argsL := argsL) (rest := rest) (hlen _ hsigM) hstack hdg
  obtain ⟨v, B, X', hpost, hsteps⟩ := hK m meth c ⟨T.setVm vm₁, locs, cells, slots⟩ { g with stack := rest } (.invokevirtual index) mk (Value.ref b :: argsL).toArray X₁ hg hsize hdg hW (X₁.named hnamed) (hpre vm₁ X₁.warmed)
  exact ⟨v, vm₁, B, X₁.warmed, X', hpost, fun target h => hstep₁ _ fun acts => by rw [doInvoke_state]; exact hsteps.trans h⟩
abbrev vx_CVW (R : Room) (s : State) (args : Array Value) (own C : String) (index : Nat) (y : MethodName) (bytes : ByteArray) (maxL : Nat) (ret : Option FieldType) (hh : List (Nat × Nat × Nat × Nat)) (ws : List Cond) (rm : Room) (mc ms n : Nat) : Prop :=
  (rm.cells = mc ∧ rm.slots = ms ∧ rm.frames + 1 ≤ R.frames ∧ 8 + (maxL + 11) + rm.locals ≤ R.locals ∧ (∀ w ∈ ws, ∀ (a' : Array Value) (U : State), s.WarmedH U.vm → w.before a' U = true) ∧ Cond.codeWith y bytes maxL ret hh ∈ ws) ∧
  (Cond.codeWith y bytes maxL ret hh).before args s = true ∧ (Cond.initialized y.cls).before args s = true ∧ (y.cls ≠ "java/lang/invoke/MethodHandle" ∧ y.cls ≠ "java/lang/invoke/VarHandle") ∧
  (∀ sig, parseMethodDescriptor y.desc = some sig → n = sig.parameters.length) ∧ (Cond.methodLink own index y).before args s = true ∧ (Cond.instanceMethod y).before args s = true ∧ (Cond.selects C y y).before args s = true
theorem vx_cwVW {own C : String} {index maxL mc ms : Nat} {y : MethodName} {bytes : ByteArray} {ret : Option FieldType} {hh : List (Nat × Nat × Nat × Nat)} {Ts ws ws' : List Cond} {rm : Room} (n : Nat) (ht : ∀ w ∈ Ts, w.before args s = true) (hT : GoodIn Ts (wsV own index C y ws)) (hw : ws = Cond.codeWith y bytes maxL ret hh :: ws') (hrc : rm.cells = mc) (hrs : rm.slots = ms)
    (hd : y.cls = C ∧ y.cls ≠ "java/lang/invoke/MethodHandle" ∧ y.cls ≠ "java/lang/invoke/VarHandle" ∧ (parseMethodDescriptor y.desc).map (fun d => d.parameters.length) = some n) (hR : rm.frames + 1 ≤ R.frames ∧ 8 + (maxL + 11) + rm.locals ≤ R.locals) :
    vx_CVW R s args own C index y bytes maxL ret hh ws rm mc ms n := by
  obtain ⟨hC, hd⟩ := hd
  subst hC
  have ok : ∀ w ∈ wsV own index y.cls y ws, w.before args s = true := fun w h => ht w (hT w h).1
  have hG : GoodIn Ts ws := fun w h => hT w (by unfold wsV; exact List.mem_append_right _ h)
  have hc : Cond.codeWith y bytes maxL ret hh ∈ ws := by rw [hw]; exact List.mem_cons_self
  refine ⟨⟨hrc, hrs, hR.1, hR.2, pay_in ht hG, hc⟩, ht _ (hG _ hc).1, ok _ (by simp [wsV]), ⟨hd.1, hd.2.1⟩, fun sig h => ?_, ok _ (by simp [wsV]), ok _ (by simp [wsV]), ok _ (by simp [wsV])⟩
  have h2 := hd.2.2
  rw [h] at h2
  exact (Option.some.inj h2).symm
theorem vx_runVW {y : MethodName} {bytes cc : ByteArray} {maxL nL mc ms n index : Nat} {ret : Option FieldType} {hh : List (Nat × Nat × Nat × Nat)} {ws : List Cond} {rm : Room} {Pc : Array Value → State → Prop} {Qc : Array Value → State → Outcome → State → Prop} {free : Addr → Prop} {Ts : List Cond} {own C : String} {b : Addr} {As rest : List Value} {g : JFrame}
    (S : CallFix p m c cc nL s args Ts own) (hM : Met l y ws rm Pc Qc mc ms free) (cw : vx_CVW R s args own C index y bytes maxL ret hh ws rm mc ms n) (hp : PreV s H C b Pc As)
    (hg : g.method = m) (hn : As.length = n) (hsize : g.locals.size = nL) (hstack : g.stack = As.reverse ++ .ref b :: rest) (hW : 2 * g.monitorRoom + (rest.map fun v => v.category).sum ≤ 8) (hdg : decode cc g.pc = .ok (.invokevirtual index, 3)) (hf : cells + mc ≤ R.cells ∧ slots + ms ≤ R.slots) :
    va_Run p l e R s m args below meth c H locs cells slots mc ms g rest (Qc (Value.ref b :: As).toArray) free := by
  obtain ⟨⟨hrc, hrs, hfr, hlo, hws, hcw⟩, hcode, hini, hy, hlen, hl, hin, hse⟩ := cw
  have hK : Back l R p e below s args y 3 8 (PreOf R mc ms Pc) (PostOf Qc mc ms free) := va_backW (hh := hh) (bytes := bytes) (maxL := maxL) (ret := ret) hM hp.1 hrc hrs hfr hlo hws hcw (fun a' U hW => word_at hW (Or.inl (by first | rfl | simp [Cond.onTables, Cond.keeps, Cond.steady])) hini)
  obtain ⟨hx, hb, hml, ho, -⟩ := S
  obtain ⟨-, ⟨cellB, hcB, hoB, hclB⟩, hPc⟩ := hp
  intro T hT X
  obtain ⟨v, vm₁, ⟨U', l2, c2, s2⟩, hW₁, X', ⟨g', mk, t, L, e1, e2, hq, h1, hL, h2, h3⟩, st⟩ := vx_callVW X hx (C := C) (hh := hh) (bytes := bytes) (maxL := maxL) (ret := ret) ho hl hin hse hcode hy hK (by rw [hT]; exact hcB) hoB hclB hg (hsize.trans hml.symm) (argsL := As) (rest := rest) (fun sig h => hn.trans (hlen sig h)) hstack hW (by rw [hb]; exact hdg)
    (fun vm₁ hW₁ => ⟨hf.1, hf.2, hPc (T.setVm vm₁) hT hW₁⟩)
  dsimp only [Pt.U, Pt.locs, Pt.cells, Pt.slots] at X' e1 e2 h1 h2 h3 st
  subst h1; subst h2; subst h3
  exact ⟨v, (T.setVm vm₁).calling g' mk (Value.ref b :: As).toArray, t, U', L, hT, X', hL, e1, e2, hq, st⟩
section
variable {y : MethodName} {bytes cc : ByteArray} {maxL nL mc ms n index : Nat} {ret : Option FieldType} {ws : List Cond} {rm : Room} {Pc : Array Value → State → Prop} {Qc : Array Value → State → Outcome → State → Prop} {XC : String → State → State → Prop} {free : Addr → Prop} {Ts : List Cond} {own C : String} {b : Addr} {As rest : List Value} {g : JFrame}
theorem vx_runVX {hh : List (Nat × Nat × Nat × Nat)} (S : CallFix p m c cc nL s args Ts own) (hM : vx_Met l y ws rm Pc Qc XC mc ms free) (cw : vx_CVW R s args own C index y bytes maxL ret hh ws rm mc ms n) (hp : PreV s H C b Pc As)
    (hg : g.method = m) (hn : As.length = n) (hsize : g.locals.size = nL) (hstack : g.stack = As.reverse ++ .ref b :: rest) (hW : 2 * g.monitorRoom + (rest.map fun v => v.category).sum ≤ 8) (hdg : decode cc g.pc = .ok (.invokevirtual index, 3)) (hf : cells + mc ≤ R.cells ∧ slots + ms ≤ R.slots) :
    vx_Run p l e R s m args below meth c H locs cells slots mc ms g rest (Qc (Value.ref b :: As).toArray) XC free := by
  obtain ⟨⟨hrc, hrs, hfr, hlo, hws, hcw⟩, hcode, hini, hy, hlen, hl, hin, hse⟩ := cw
  have hK : vx_Back l R p e below s args y 3 8 (PreOf R mc ms Pc) (PostOf Qc mc ms free) (vx_Post XC mc ms free) := vx_backW (hh := hh) (bytes := bytes) (maxL := maxL) (ret := ret) hM hp.1 hrc hrs hfr hlo hws hcw (fun a' U hW => word_at hW (Or.inl (by first | rfl | simp [Cond.onTables, Cond.keeps, Cond.steady])) hini)
  obtain ⟨hx, hb, hml, ho, -⟩ := S
  obtain ⟨-, ⟨cellB, hcB, hoB, hclB⟩, hPc⟩ := hp
  intro T hT X
  rcases vx_callVX X hx (C := C) (hh := hh) (bytes := bytes) (maxL := maxL) (ret := ret) ho hl hin hse hcode hy hK (by rw [hT]; exact hcB) hoB hclB hg (hsize.trans hml.symm) (argsL := As) (rest := rest) (fun sig h => hn.trans (hlen sig h)) hstack hW (by rw [hb]; exact hdg)
    (fun vm₁ hW₁ => ⟨hf.1, hf.2, hPc (T.setVm vm₁) hT hW₁⟩) with ⟨v, vm₁, ⟨U', l2, c2, s2⟩, hW₁, X', ⟨g', mk, t, L, e1, e2, hq, h1, hL, h2, h3⟩, st⟩ | ⟨q, vm₁, ⟨U', l2, c2, s2⟩, hW₁, X', ⟨g', mk, t, L, E, ce, e1, e2, hq, hce, hcv, hcl, h1, hL, h2, h3⟩, st⟩
  · dsimp only [Pt.U, Pt.locs, Pt.cells, Pt.slots] at X' e1 e2 h1 h2 h3 st
    subst h1; subst h2; subst h3
    exact Or.inl ⟨v, (T.setVm vm₁).calling g' mk (Value.ref b :: As).toArray, t, U', L, hT, X', hL, e1, e2, hq, st⟩
  · dsimp only [Pt.U, Pt.locs, Pt.cells, Pt.slots] at X' e1 e2 h1 h2 h3 st hcl
    subst h1; subst h2; subst h3
    exact Or.inr ⟨q, (T.setVm vm₁).calling g' mk (Value.ref b :: As).toArray, t, U', L, E, ce, hT, X', hL, e1, e2, hq, hce, hcv, vx_cls hW₁ hcl, st⟩
theorem vx_runSX {hh : List (Nat × Nat × Nat × Nat)} (S : CallFix p m c cc nL s args Ts own) (hM : vx_Met l y ws rm Pc Qc XC mc ms free) (cw : vx_CSW R s args own index y bytes maxL ret hh ws rm mc ms n) (hp : PreS s H Pc As)
    (hg : g.method = m) (hn : As.length = n) (hsize : g.locals.size = nL) (hstack : g.stack = As.reverse ++ rest) (hW : 2 * g.monitorRoom + (rest.map fun v => v.category).sum ≤ 8) (hdg : decode cc g.pc = .ok (.invokestatic index, 3)) (hf : cells + mc ≤ R.cells ∧ slots + ms ≤ R.slots) :
    vx_Run p l e R s m args below meth c H locs cells slots mc ms g rest (Qc As.toArray) XC free := by
  obtain ⟨⟨hrc, hrs, hfr, hlo, hws, hcw⟩, hcode, hini, hy, hlen, hl, hstt⟩ := cw
  have hK : vx_Back l R p e below s args y 3 8 (PreOf R mc ms Pc) (PostOf Qc mc ms free) (vx_Post XC mc ms free) := vx_backW (hh := hh) (bytes := bytes) (maxL := maxL) (ret := ret) hM hp.1 hrc hrs hfr hlo hws hcw (fun a' U hW => word_at hW (Or.inl (by first | rfl | simp [Cond.onTables, Cond.keeps, Cond.steady])) hini)
  obtain ⟨hx, hb, hml, ho, -⟩ := S
  intro T hT X
  rcases vx_callSX X hx (hh := hh) (bytes := bytes) (maxL := maxL) (ret := ret) ho hl hstt hini hcode hy hK hg (hsize.trans hml.symm) (argsL := As) (rest := rest) (fun sig h => hn.trans (hlen sig h)) hstack hW (by rw [hb]; exact hdg)
    (fun vm₁ hW₁ => ⟨hf.1, hf.2, hp.2 (T.setVm vm₁) hT hW₁⟩) with ⟨v, vm₁, ⟨U', l2, c2, s2⟩, hW₁, X', ⟨g', mk, t, L, e1, e2, hq, h1, hL, h2, h3⟩, st⟩ | ⟨q, vm₁, ⟨U', l2, c2, s2⟩, hW₁, X', ⟨g', mk, t, L, E, ce, e1, e2, hq, hce, hcv, hcl, h1, hL, h2, h3⟩, st⟩
  · dsimp only [Pt.U, Pt.locs, Pt.cells, Pt.slots] at X' e1 e2 h1 h2 h3 st
    subst h1; subst h2; subst h3
    exact Or.inl ⟨v, (T.setVm vm₁).calling g' mk As.toArray, t, U', L, hT, X', hL, e1, e2, hq, st⟩
  · dsimp only [Pt.U, Pt.locs, Pt.cells, Pt.slots] at X' e1 e2 h1 h2 h3 st hcl
    subst h1; subst h2; subst h3
    exact Or.inr ⟨q, (T.setVm vm₁).calling g' mk As.toArray, t, U', L, E, ce, hT, X', hL, e1, e2, hq, hce, hcv, vx_cls hW₁ hcl, st⟩
end
end VXH
theorem vx_ofWH {l : Launch} {y : MethodName} {ws ws' : List Cond} {rm : Room} {Pc : Array Value → State → Prop} {Qc : Array Value → State → Outcome → State → Prop} {XC : String → State → State → Prop} {mc ms : Nat} {free : Addr → Prop} {cc : ByteArray} {maxL : Nat} {ret : Option FieldType} {hh : List (Nat × Nat × Nat × Nat)}
    (hy : plainName y.cls = true) (hw : ws = Cond.codeWith y cc maxL ret hh :: ws')
    (body : ∀ p e s m args below meth c s₁, BodyLoose p l y (headSpec ws rm) cc maxL ret e s m args below meth c s₁ → c.maxLocals = maxL → Pc args s →
      W p l e (headSpec ws rm).room s m args below meth c s.heap [] 0 0 (vx_MQ below Qc XC args s mc ms free) (entryFrame m args maxL)) : vx_Met l y ws rm Pc Qc XC mc ms free := by
  refine MetFree.of_bodyS (code := cc) (maxLocals := maxL) (ret := ret) hy ?_ ?_
  · intro args s m h hn
    obtain ⟨m9, meth, c, hn9, h1, h2, h3, h4, -, h5, h6, -⟩ := Cond.codeWith_spec (atoms_spec (ws := ws) h _ (by rw [hw]; exact List.mem_cons_self))
    cases hn.symm.trans hn9
    exact ⟨meth, c, h1, h2, h3, h4, h5, h6⟩
  · intro p e s m args below meth c s₁ B hml hP _
    have hh0 : s₁.heap = s.heap := by rw [B.state]; rfl
    obtain ⟨t, a1, o, b1, b2, b3⟩ := body p e s m args below meth c s₁ B hml hP s₁ hh0 (Stand.of_body B)
    exact ⟨t, o, a1, b1, b2, b3⟩
/-! ===== END ===== -/
end
section
/-! ===== BEGIN printed: names, fields, word lists, decode rows ===== -/
def RX0 : String := "RestrictedFunds$Commitment"
def TX0 : u_T := fun k => match k with
  | 0 => ("RestrictedFunds$Pot", "money", "I", false)
  | 1 => ("RestrictedFunds$Commitment", "fund", "LRestrictedFunds$Fund;", true)
  | 2 => ("RestrictedFunds$Commitment", "category", "I", true)
  | _ => ("RestrictedFunds$Commitment", "until", "I", true)
def tyX0 : Nat → FieldType := fun k => match k with
  | 0 => .int
  | 1 => .object "RestrictedFunds$Fund"
  | 2 => .int
  | _ => .int
abbrev wsX00 : List Cond := u_ws RX0 TX0 4
theorem nmX0 : ∀ a, a < 4 → ∀ b, b < 4 → a ≠ b → (TX0 a).2.1 ≠ (TX0 b).2.1 := by decide +kernel
theorem tyX0_ok : ∀ k, k < 4 → parseFieldDescriptor (TX0 k).2.2.1 = some (tyX0 k) := by decide +kernel
abbrev cX0_init : ByteArray := prog_2_method_1_code
def yX0_init : MethodName := ⟨RX0, "<init>", "(LRestrictedFunds$Fund;III)V"⟩
abbrev cX0_owner : ByteArray := prog_2_method_2_code
def yX0_owner : MethodName := ⟨RX0, "owner", "()LRestrictedFunds$Fund;"⟩
abbrev cX0_expiry : ByteArray := prog_2_method_3_code
def yX0_expiry : MethodName := ⟨RX0, "expiry", "()I"⟩
abbrev cX0_mayPay : ByteArray := prog_2_method_4_code
def yX0_mayPay : MethodName := ⟨RX0, "mayPay", "(LRestrictedFunds$Cost;)Z"⟩
def RX1 : String := "RestrictedFunds$Cost"
def TX1 : u_T := fun k => match k with
  | 0 => ("RestrictedFunds$Cost", "category", "I", true)
  | 1 => ("RestrictedFunds$Cost", "day", "I", true)
  | 2 => ("RestrictedFunds$Cost", "unpaid", "I", false)
  | _ => ("RestrictedFunds$Cost", "shares", "[I", true)
def tyX1 : Nat → FieldType := fun k => match k with
  | 0 => .int
  | 1 => .int
  | 2 => .int
  | _ => .array .int
abbrev wsX10 : List Cond := u_ws RX1 TX1 4
theorem nmX1 : ∀ a, a < 4 → ∀ b, b < 4 → a ≠ b → (TX1 a).2.1 ≠ (TX1 b).2.1 := by decide +kernel
theorem tyX1_ok : ∀ k, k < 4 → parseFieldDescriptor (TX1 k).2.2.1 = some (tyX1 k) := by decide +kernel
abbrev cX1_init : ByteArray := prog_3_method_1_code
def yX1_init : MethodName := ⟨RX1, "<init>", "(III)V"⟩
abbrev cX1_shareOf : ByteArray := prog_3_method_2_code
def yX1_shareOf : MethodName := ⟨RX1, "shareOf", "(LRestrictedFunds$Fund;)I"⟩
abbrev cX1_pay : ByteArray := prog_3_method_3_code
def yX1_pay : MethodName := ⟨RX1, "pay", "(LRestrictedFunds$Fund;I)V"⟩
def RX2 : String := "RestrictedFunds$Fund"
def TX2 : u_T := fun k => match k with
  | 0 => ("RestrictedFunds$Pot", "money", "I", false)
  | 1 => ("RestrictedFunds$Fund", "number", "I", true)
  | 2 => ("RestrictedFunds$Fund", "allowed", "I", true)
  | 3 => ("RestrictedFunds$Fund", "lastDay", "I", true)
  | 4 => ("RestrictedFunds$Fund", "ceiling", "I", true)
  | 5 => ("RestrictedFunds$Fund", "direct", "I", false)
  | _ => ("RestrictedFunds$Fund", "overhead", "I", false)
def tyX2 : Nat → FieldType := fun k => match k with
  | 0 => .int
  | 1 => .int
  | 2 => .int
  | 3 => .int
  | 4 => .int
  | 5 => .int
  | _ => .int
abbrev wsX20 : List Cond := u_ws RX2 TX2 7
theorem nmX2 : ∀ a, a < 7 → ∀ b, b < 7 → a ≠ b → (TX2 a).2.1 ≠ (TX2 b).2.1 := by decide +kernel
theorem tyX2_ok : ∀ k, k < 7 → parseFieldDescriptor (TX2 k).2.2.1 = some (tyX2 k) := by decide +kernel
abbrev cX2_init : ByteArray := prog_4_method_1_code
def yX2_init : MethodName := ⟨RX2, "<init>", "(IIIII)V"⟩
abbrev cX2_owner : ByteArray := prog_4_method_2_code
def yX2_owner : MethodName := ⟨RX2, "owner", "()LRestrictedFunds$Fund;"⟩
abbrev cX2_expiry : ByteArray := prog_4_method_3_code
def yX2_expiry : MethodName := ⟨RX2, "expiry", "()I"⟩
abbrev cX2_mayPay : ByteArray := prog_4_method_4_code
def yX2_mayPay : MethodName := ⟨RX2, "mayPay", "(LRestrictedFunds$Cost;)Z"⟩
abbrev cX2_allows : ByteArray := prog_4_method_5_code
def yX2_allows : MethodName := ⟨RX2, "allows", "(I)Z"⟩
abbrev cX2_suits : ByteArray := prog_4_method_6_code
def yX2_suits : MethodName := ⟨RX2, "suits", "(LRestrictedFunds$Cost;)Z"⟩
abbrev cX2_room : ByteArray := prog_4_method_7_code
def yX2_room : MethodName := ⟨RX2, "room", "()I"⟩
abbrev cX2_takeOverhead : ByteArray := prog_4_method_8_code
def yX2_takeOverhead : MethodName := ⟨RX2, "takeOverhead", "(I)V"⟩
def RX3 : String := "RestrictedFunds$Plan"
def TX3 : u_T := fun k => match k with
  | 0 => ("RestrictedFunds$Plan", "pots", "I", false)
  | 1 => ("RestrictedFunds$Plan", "costs", "I", false)
  | 2 => ("RestrictedFunds$Plan", "potLeft", "[I", true)
  | 3 => ("RestrictedFunds$Plan", "costLeft", "[I", true)
  | 4 => ("RestrictedFunds$Plan", "planned", "[I", true)
  | 5 => ("RestrictedFunds$Plan", "shares", "[[I", true)
  | 6 => ("RestrictedFunds$Plan", "reach", "[I", true)
  | 7 => ("RestrictedFunds$Plan", "paying", "[I", true)
  | 8 => ("RestrictedFunds$Plan", "queue", "[I", true)
  | 9 => ("RestrictedFunds$Plan", "ahead", "[I", true)
  | _ => ("RestrictedFunds$Plan", "via", "[I", true)
def tyX3 : Nat → FieldType := fun k => match k with
  | 0 => .int
  | 1 => .int
  | 2 => .array .int
  | 3 => .array .int
  | 4 => .array .int
  | 5 => .array (.array .int)
  | 6 => .array .int
  | 7 => .array .int
  | 8 => .array .int
  | 9 => .array .int
  | _ => .array .int
abbrev wsX30 : List Cond := u_ws RX3 TX3 11
theorem nmX3 : ∀ a, a < 11 → ∀ b, b < 11 → a ≠ b → (TX3 a).2.1 ≠ (TX3 b).2.1 := by decide +kernel
theorem tyX3_ok : ∀ k, k < 11 → parseFieldDescriptor (TX3 k).2.2.1 = some (tyX3 k) := by decide +kernel
abbrev cX3_init : ByteArray := prog_5_method_1_code
def yX3_init : MethodName := ⟨RX3, "<init>", "()V"⟩
abbrev cX3_begin : ByteArray := prog_5_method_2_code
def yX3_begin : MethodName := ⟨RX3, "begin", "(II)V"⟩
abbrev cX3_setCost : ByteArray := prog_5_method_3_code
def yX3_setCost : MethodName := ⟨RX3, "setCost", "(II)V"⟩
abbrev cX3_setPot : ByteArray := prog_5_method_4_code
def yX3_setPot : MethodName := ⟨RX3, "setPot", "(III)V"⟩
abbrev cX3_leftOfCost : ByteArray := prog_5_method_5_code
def yX3_leftOfCost : MethodName := ⟨RX3, "leftOfCost", "(I)I"⟩
abbrev cX3_leftOfPot : ByteArray := prog_5_method_6_code
def yX3_leftOfPot : MethodName := ⟨RX3, "leftOfPot", "(I)I"⟩
abbrev cX3_share : ByteArray := prog_5_method_7_code
def yX3_share : MethodName := ⟨RX3, "share", "(II)I"⟩
abbrev cX3_paidInAll : ByteArray := prog_5_method_8_code
def yX3_paidInAll : MethodName := ⟨RX3, "paidInAll", "()I"⟩
abbrev cX3_payCosts : ByteArray := prog_5_method_9_code
def yX3_payCosts : MethodName := ⟨RX3, "payCosts", "()V"⟩
abbrev cX3_drawOnPots : ByteArray := prog_5_method_10_code
def yX3_drawOnPots : MethodName := ⟨RX3, "drawOnPots", "()V"⟩
abbrev cX3_spreadCosts : ByteArray := prog_5_method_11_code
def yX3_spreadCosts : MethodName := ⟨RX3, "spreadCosts", "()V"⟩
abbrev cX3_payMoreOf : ByteArray := prog_5_method_12_code
def yX3_payMoreOf : MethodName := ⟨RX3, "payMoreOf", "(I)Z"⟩
abbrev cX3_drawMoreOn : ByteArray := prog_5_method_13_code
def yX3_drawMoreOn : MethodName := ⟨RX3, "drawMoreOn", "(I)Z"⟩
abbrev cX3_payMoreFrom : ByteArray := prog_5_method_14_code
def yX3_payMoreFrom : MethodName := ⟨RX3, "payMoreFrom", "(II)Z"⟩
abbrev cX3_findChain : ByteArray := prog_5_method_15_code
def yX3_findChain : MethodName := ⟨RX3, "findChain", "(III)I"⟩
abbrev cX3_costBetween : ByteArray := prog_5_method_16_code
def yX3_costBetween : MethodName := ⟨RX3, "costBetween", "(III)I"⟩
abbrev cX3_hasAhead : ByteArray := prog_5_method_17_code
def yX3_hasAhead : MethodName := ⟨RX3, "hasAhead", "(I)Z"⟩
abbrev cX3_firstOfChain : ByteArray := prog_5_method_18_code
def yX3_firstOfChain : MethodName := ⟨RX3, "firstOfChain", "(I)I"⟩
abbrev cX3_narrowest : ByteArray := prog_5_method_19_code
def yX3_narrowest : MethodName := ⟨RX3, "narrowest", "(II)I"⟩
abbrev cX3_shiftAlongChain : ByteArray := prog_5_method_20_code
def yX3_shiftAlongChain : MethodName := ⟨RX3, "shiftAlongChain", "(II)V"⟩
abbrev cX3_isPot : ByteArray := prog_5_method_21_code
def yX3_isPot : MethodName := ⟨RX3, "isPot", "(I)Z"⟩
abbrev cX3_isCost : ByteArray := prog_5_method_22_code
def yX3_isCost : MethodName := ⟨RX3, "isCost", "(I)Z"⟩
abbrev cX3_addShare : ByteArray := prog_5_method_23_code
def yX3_addShare : MethodName := ⟨RX3, "addShare", "(III)V"⟩
abbrev cX3_addToPot : ByteArray := prog_5_method_24_code
def yX3_addToPot : MethodName := ⟨RX3, "addToPot", "(II)V"⟩
abbrev cX3_planCost : ByteArray := prog_5_method_25_code
def yX3_planCost : MethodName := ⟨RX3, "planCost", "(II)V"⟩
abbrev cX3_potsWithMoney : ByteArray := prog_5_method_26_code
def yX3_potsWithMoney : MethodName := ⟨RX3, "potsWithMoney", "()I"⟩
abbrev cX3_potsWith : ByteArray := prog_5_method_27_code
def yX3_potsWith : MethodName := ⟨RX3, "potsWith", "([II)I"⟩
abbrev cX3_potsAfter : ByteArray := prog_5_method_28_code
def yX3_potsAfter : MethodName := ⟨RX3, "potsAfter", "(I)I"⟩
def RX4 : String := "RestrictedFunds$Pot"
def TX4 : u_T := fun k => match k with
  | _ => ("", "", "", false)
def tyX4 : Nat → FieldType := fun k => match k with
  | _ => .int
abbrev wsX40 : List Cond := u_ws RX4 TX4 0
theorem nmX4 : ∀ a, a < 0 → ∀ b, b < 0 → a ≠ b → (TX4 a).2.1 ≠ (TX4 b).2.1 := by decide +kernel
theorem tyX4_ok : ∀ k, k < 0 → parseFieldDescriptor (TX4 k).2.2.1 = some (tyX4 k) := by decide +kernel
abbrev cX4_init : ByteArray := prog_6_method_1_code
def yX4_init : MethodName := ⟨RX4, "<init>", "(I)V"⟩
def RX5 : String := "RestrictedFunds"
def TX5 : u_T := fun k => match k with
  | 0 => ("RestrictedFunds", "funds", "Ljava/util/ArrayList;", true)
  | 1 => ("RestrictedFunds", "commitments", "Ljava/util/ArrayList;", true)
  | 2 => ("RestrictedFunds", "costs", "Ljava/util/ArrayList;", true)
  | 3 => ("RestrictedFunds", "pots", "Ljava/util/ArrayList;", true)
  | 4 => ("RestrictedFunds", "plan", "LRestrictedFunds$Plan;", true)
  | _ => ("RestrictedFunds", "today", "I", false)
def tyX5 : Nat → FieldType := fun k => match k with
  | 0 => .object "java/util/ArrayList"
  | 1 => .object "java/util/ArrayList"
  | 2 => .object "java/util/ArrayList"
  | 3 => .object "java/util/ArrayList"
  | 4 => .object "RestrictedFunds$Plan"
  | _ => .int
abbrev wsX50 : List Cond := u_ws RX5 TX5 6
theorem nmX5 : ∀ a, a < 6 → ∀ b, b < 6 → a ≠ b → (TX5 a).2.1 ≠ (TX5 b).2.1 := by decide +kernel
theorem tyX5_ok : ∀ k, k < 6 → parseFieldDescriptor (TX5 k).2.2.1 = some (tyX5 k) := by decide +kernel
abbrev cX5_init : ByteArray := prog_1_method_1_code
def yX5_init : MethodName := ⟨RX5, "<init>", "()V"⟩
abbrev cX5_addFund : ByteArray := prog_1_method_2_code
def yX5_addFund : MethodName := ⟨RX5, "addFund", "(IIII)I"⟩
abbrev cX5_deposit : ByteArray := prog_1_method_3_code
def yX5_deposit : MethodName := ⟨RX5, "deposit", "(II)I"⟩
abbrev cX5_commit : ByteArray := prog_1_method_4_code
def yX5_commit : MethodName := ⟨RX5, "commit", "(IIII)I"⟩
abbrev cX5_cancel : ByteArray := prog_1_method_5_code
def yX5_cancel : MethodName := ⟨RX5, "cancel", "(I)I"⟩
abbrev cX5_advance : ByteArray := prog_1_method_6_code
def yX5_advance : MethodName := ⟨RX5, "advance", "(I)I"⟩
abbrev cX5_addCost : ByteArray := prog_1_method_7_code
def yX5_addCost : MethodName := ⟨RX5, "addCost", "(III)I"⟩
abbrev cX5_charge : ByteArray := prog_1_method_8_code
def yX5_charge : MethodName := ⟨RX5, "charge", "()I"⟩
abbrev cX5_chargeOverhead : ByteArray := prog_1_method_9_code
def yX5_chargeOverhead : MethodName := ⟨RX5, "chargeOverhead", "(I)I"⟩
abbrev cX5_today : ByteArray := prog_1_method_10_code
def yX5_today : MethodName := ⟨RX5, "today", "()I"⟩
abbrev cX5_funds : ByteArray := prog_1_method_11_code
def yX5_funds : MethodName := ⟨RX5, "funds", "()I"⟩
abbrev cX5_freeOf : ByteArray := prog_1_method_12_code
def yX5_freeOf : MethodName := ⟨RX5, "freeOf", "(I)I"⟩
abbrev cX5_committedOf : ByteArray := prog_1_method_13_code
def yX5_committedOf : MethodName := ⟨RX5, "committedOf", "(I)I"⟩
abbrev cX5_directOf : ByteArray := prog_1_method_14_code
def yX5_directOf : MethodName := ⟨RX5, "directOf", "(I)I"⟩
abbrev cX5_overheadOf : ByteArray := prog_1_method_15_code
def yX5_overheadOf : MethodName := ⟨RX5, "overheadOf", "(I)I"⟩
abbrev cX5_roomOf : ByteArray := prog_1_method_16_code
def yX5_roomOf : MethodName := ⟨RX5, "roomOf", "(I)I"⟩
abbrev cX5_commitments : ByteArray := prog_1_method_17_code
def yX5_commitments : MethodName := ⟨RX5, "commitments", "()I"⟩
abbrev cX5_fundOf : ByteArray := prog_1_method_18_code
def yX5_fundOf : MethodName := ⟨RX5, "fundOf", "(I)I"⟩
abbrev cX5_leftOf : ByteArray := prog_1_method_19_code
def yX5_leftOf : MethodName := ⟨RX5, "leftOf", "(I)I"⟩
abbrev cX5_untilOf : ByteArray := prog_1_method_20_code
def yX5_untilOf : MethodName := ⟨RX5, "untilOf", "(I)I"⟩
abbrev cX5_costs : ByteArray := prog_1_method_21_code
def yX5_costs : MethodName := ⟨RX5, "costs", "()I"⟩
abbrev cX5_unpaidOf : ByteArray := prog_1_method_22_code
def yX5_unpaidOf : MethodName := ⟨RX5, "unpaidOf", "(I)I"⟩
abbrev cX5_paidBy : ByteArray := prog_1_method_23_code
def yX5_paidBy : MethodName := ⟨RX5, "paidBy", "(II)I"⟩
abbrev cX5_payable : ByteArray := prog_1_method_24_code
def yX5_payable : MethodName := ⟨RX5, "payable", "()I"⟩
abbrev cX5_wouldPay : ByteArray := prog_1_method_25_code
def yX5_wouldPay : MethodName := ⟨RX5, "wouldPay", "(I)I"⟩
abbrev cX5_wouldTake : ByteArray := prog_1_method_26_code
def yX5_wouldTake : MethodName := ⟨RX5, "wouldTake", "(I)I"⟩
abbrev cX5_reason : ByteArray := prog_1_method_27_code
def yX5_reason : MethodName := ⟨RX5, "reason", "(I)I"⟩
abbrev cX5_requireRange : ByteArray := prog_1_method_28_code
def yX5_requireRange : MethodName := ⟨RX5, "requireRange", "(III)V"⟩
abbrev cX5_requireState : ByteArray := prog_1_method_29_code
def yX5_requireState : MethodName := ⟨RX5, "requireState", "(Z)V"⟩
abbrev cX5_fundAt : ByteArray := prog_1_method_30_code
def yX5_fundAt : MethodName := ⟨RX5, "fundAt", "(I)LRestrictedFunds$Fund;"⟩
abbrev cX5_commitmentAt : ByteArray := prog_1_method_31_code
def yX5_commitmentAt : MethodName := ⟨RX5, "commitmentAt", "(I)LRestrictedFunds$Commitment;"⟩
abbrev cX5_costAt : ByteArray := prog_1_method_32_code
def yX5_costAt : MethodName := ⟨RX5, "costAt", "(I)LRestrictedFunds$Cost;"⟩
abbrev cX5_endCommitment : ByteArray := prog_1_method_33_code
def yX5_endCommitment : MethodName := ⟨RX5, "endCommitment", "(I)V"⟩
abbrev cX5_lapseCommitments : ByteArray := prog_1_method_34_code
def yX5_lapseCommitments : MethodName := ⟨RX5, "lapseCommitments", "()I"⟩
abbrev cX5_endEmptyCommitments : ByteArray := prog_1_method_35_code
def yX5_endEmptyCommitments : MethodName := ⟨RX5, "endEmptyCommitments", "()V"⟩
abbrev cX5_preparePlan : ByteArray := prog_1_method_36_code
def yX5_preparePlan : MethodName := ⟨RX5, "preparePlan", "()V"⟩
abbrev cX5_lineUpPots : ByteArray := prog_1_method_37_code
def yX5_lineUpPots : MethodName := ⟨RX5, "lineUpPots", "()V"⟩
abbrev cX5_lineUp : ByteArray := prog_1_method_38_code
def yX5_lineUp : MethodName := ⟨RX5, "lineUp", "(LRestrictedFunds$Pot;)V"⟩
abbrev cX5_costsThatMayBePaidBy : ByteArray := prog_1_method_39_code
def yX5_costsThatMayBePaidBy : MethodName := ⟨RX5, "costsThatMayBePaidBy", "(LRestrictedFunds$Pot;)I"⟩
abbrev cX5_bookPlan : ByteArray := prog_1_method_40_code
def yX5_bookPlan : MethodName := ⟨RX5, "bookPlan", "()V"⟩
abbrev cX5_book : ByteArray := prog_1_method_41_code
def yX5_book : MethodName := ⟨RX5, "book", "(LRestrictedFunds$Pot;LRestrictedFunds$Cost;I)V"⟩
abbrev cX5_shareByDirectCosts : ByteArray := prog_1_method_42_code
def yX5_shareByDirectCosts : MethodName := ⟨RX5, "shareByDirectCosts", "(I)I"⟩
abbrev cX5_directCostsWithRoom : ByteArray := prog_1_method_43_code
def yX5_directCostsWithRoom : MethodName := ⟨RX5, "directCostsWithRoom", "()J"⟩
abbrev cX5_shareOnes : ByteArray := prog_1_method_44_code
def yX5_shareOnes : MethodName := ⟨RX5, "shareOnes", "(I)I"⟩
abbrev cX5_isAllowedBySomeFund : ByteArray := prog_1_method_45_code
def yX5_isAllowedBySomeFund : MethodName := ⟨RX5, "isAllowedBySomeFund", "(LRestrictedFunds$Cost;)Z"⟩
abbrev cX5_isSuitedBySomeFund : ByteArray := prog_1_method_46_code
def yX5_isSuitedBySomeFund : MethodName := ⟨RX5, "isSuitedBySomeFund", "(LRestrictedFunds$Cost;)Z"⟩
abbrev cX5_isPayableFromSomePot : ByteArray := prog_1_method_47_code
def yX5_isPayableFromSomePot : MethodName := ⟨RX5, "isPayableFromSomePot", "(LRestrictedFunds$Cost;)Z"⟩
abbrev cX5_isHeldInCommitment : ByteArray := prog_1_method_48_code
def yX5_isHeldInCommitment : MethodName := ⟨RX5, "isHeldInCommitment", "(LRestrictedFunds$Cost;)Z"⟩
abbrev cX5_has : ByteArray := prog_1_method_49_code
def yX5_has : MethodName := ⟨RX5, "has", "(II)Z"⟩
def RX6 : String := "RestrictedFundsModel"
def TX6 : u_T := fun k => match k with
  | 0 => ("RestrictedFundsModel", "today", "I", false)
  | 1 => ("RestrictedFundsModel", "funds", "I", false)
  | 2 => ("RestrictedFundsModel", "free", "[I", true)
  | 3 => ("RestrictedFundsModel", "allowed", "[I", true)
  | 4 => ("RestrictedFundsModel", "lastDay", "[I", true)
  | 5 => ("RestrictedFundsModel", "ceiling", "[I", true)
  | 6 => ("RestrictedFundsModel", "direct", "[I", true)
  | 7 => ("RestrictedFundsModel", "overhead", "[I", true)
  | 8 => ("RestrictedFundsModel", "commitments", "I", false)
  | 9 => ("RestrictedFundsModel", "fundOf", "[I", true)
  | 10 => ("RestrictedFundsModel", "categoryOf", "[I", true)
  | 11 => ("RestrictedFundsModel", "leftOf", "[I", true)
  | 12 => ("RestrictedFundsModel", "untilOf", "[I", true)
  | 13 => ("RestrictedFundsModel", "costs", "I", false)
  | 14 => ("RestrictedFundsModel", "category", "[I", true)
  | 15 => ("RestrictedFundsModel", "day", "[I", true)
  | 16 => ("RestrictedFundsModel", "unpaid", "[I", true)
  | 17 => ("RestrictedFundsModel", "paid", "[I", true)
  | 18 => ("RestrictedFundsModel", "pots", "I", false)
  | 19 => ("RestrictedFundsModel", "potFund", "[I", true)
  | 20 => ("RestrictedFundsModel", "potCommitment", "[I", true)
  | 21 => ("RestrictedFundsModel", "potMoney", "[I", true)
  | 22 => ("RestrictedFundsModel", "potCosts", "[I", true)
  | 23 => ("RestrictedFundsModel", "costPaid", "[I", true)
  | 24 => ("RestrictedFundsModel", "potPays", "[I", true)
  | 25 => ("RestrictedFundsModel", "shares", "[I", true)
  | 26 => ("RestrictedFundsModel", "moneyOf", "[I", true)
  | 27 => ("RestrictedFundsModel", "costsOf", "[I", true)
  | 28 => ("RestrictedFundsModel", "rooms", "[I", true)
  | _ => ("RestrictedFundsModel", "thrown", "I", false)
def tyX6 : Nat → FieldType := fun k => match k with
  | 0 => .int
  | 1 => .int
  | 2 => .array .int
  | 3 => .array .int
  | 4 => .array .int
  | 5 => .array .int
  | 6 => .array .int
  | 7 => .array .int
  | 8 => .int
  | 9 => .array .int
  | 10 => .array .int
  | 11 => .array .int
  | 12 => .array .int
  | 13 => .int
  | 14 => .array .int
  | 15 => .array .int
  | 16 => .array .int
  | 17 => .array .int
  | 18 => .int
  | 19 => .array .int
  | 20 => .array .int
  | 21 => .array .int
  | 22 => .array .int
  | 23 => .array .int
  | 24 => .array .int
  | 25 => .array .int
  | 26 => .array .int
  | 27 => .array .int
  | 28 => .array .int
  | _ => .int
abbrev wsX60 : List Cond := u_ws RX6 TX6 30
theorem nmX6 : ∀ a, a < 30 → ∀ b, b < 30 → a ≠ b → (TX6 a).2.1 ≠ (TX6 b).2.1 := by decide +kernel
theorem tyX6_ok : ∀ k, k < 30 → parseFieldDescriptor (TX6 k).2.2.1 = some (tyX6 k) := by decide +kernel
abbrev cX6_init : ByteArray := prog_8_method_1_code
def yX6_init : MethodName := ⟨RX6, "<init>", "()V"⟩
abbrev cX6_thrown : ByteArray := prog_8_method_2_code
def yX6_thrown : MethodName := ⟨RX6, "thrown", "()I"⟩
abbrev cX6_fails : ByteArray := prog_8_method_3_code
def yX6_fails : MethodName := ⟨RX6, "fails", "(I)I"⟩
abbrev cX6_in : ByteArray := prog_8_method_4_code
def yX6_in : MethodName := ⟨RX6, "in", "(JJJ)Z"⟩
abbrev cX6_isFund : ByteArray := prog_8_method_5_code
def yX6_isFund : MethodName := ⟨RX6, "isFund", "(I)Z"⟩
abbrev cX6_isCommitment : ByteArray := prog_8_method_6_code
def yX6_isCommitment : MethodName := ⟨RX6, "isCommitment", "(I)Z"⟩
abbrev cX6_isCost : ByteArray := prog_8_method_7_code
def yX6_isCost : MethodName := ⟨RX6, "isCost", "(I)Z"⟩
abbrev cX6_allows : ByteArray := prog_8_method_8_code
def yX6_allows : MethodName := ⟨RX6, "allows", "(II)Z"⟩
abbrev cX6_suits : ByteArray := prog_8_method_9_code
def yX6_suits : MethodName := ⟨RX6, "suits", "(II)Z"⟩
abbrev cX6_addFund : ByteArray := prog_8_method_10_code
def yX6_addFund : MethodName := ⟨RX6, "addFund", "(IIII)I"⟩
abbrev cX6_deposit : ByteArray := prog_8_method_11_code
def yX6_deposit : MethodName := ⟨RX6, "deposit", "(II)I"⟩
abbrev cX6_commit : ByteArray := prog_8_method_12_code
def yX6_commit : MethodName := ⟨RX6, "commit", "(IIII)I"⟩
abbrev cX6_ends : ByteArray := prog_8_method_13_code
def yX6_ends : MethodName := ⟨RX6, "ends", "(I)V"⟩
abbrev cX6_cancel : ByteArray := prog_8_method_14_code
def yX6_cancel : MethodName := ⟨RX6, "cancel", "(I)I"⟩
abbrev cX6_advance : ByteArray := prog_8_method_15_code
def yX6_advance : MethodName := ⟨RX6, "advance", "(I)I"⟩
abbrev cX6_addCost : ByteArray := prog_8_method_16_code
def yX6_addCost : MethodName := ⟨RX6, "addCost", "(III)I"⟩
abbrev cX6_rank : ByteArray := prog_8_method_17_code
def yX6_rank : MethodName := ⟨RX6, "rank", "(II)I"⟩
abbrev cX6_addPot : ByteArray := prog_8_method_18_code
def yX6_addPot : MethodName := ⟨RX6, "addPot", "(II)V"⟩
abbrev cX6_laysPots : ByteArray := prog_8_method_19_code
def yX6_laysPots : MethodName := ⟨RX6, "laysPots", "()V"⟩
abbrev cX6_laysSets : ByteArray := prog_8_method_20_code
def yX6_laysSets : MethodName := ⟨RX6, "laysSets", "([I)V"⟩
abbrev cX6_sum : ByteArray := prog_8_method_21_code
def yX6_sum : MethodName := ⟨RX6, "sum", "(I[I)I"⟩
abbrev cX6_most : ByteArray := prog_8_method_22_code
def yX6_most : MethodName := ⟨RX6, "most", "(II[I)I"⟩
abbrev cX6_plans : ByteArray := prog_8_method_23_code
def yX6_plans : MethodName := ⟨RX6, "plans", "()V"⟩
abbrev cX6_parts : ByteArray := prog_8_method_24_code
def yX6_parts : MethodName := ⟨RX6, "parts", "()V"⟩
abbrev cX6_charge : ByteArray := prog_8_method_25_code
def yX6_charge : MethodName := ⟨RX6, "charge", "()I"⟩
abbrev cX6_room : ByteArray := prog_8_method_26_code
def yX6_room : MethodName := ⟨RX6, "room", "(I)I"⟩
abbrev cX6_gets : ByteArray := prog_8_method_27_code
def yX6_gets : MethodName := ⟨RX6, "gets", "(II)V"⟩
abbrev cX6_round : ByteArray := prog_8_method_28_code
def yX6_round : MethodName := ⟨RX6, "round", "(I)I"⟩
abbrev cX6_ones : ByteArray := prog_8_method_29_code
def yX6_ones : MethodName := ⟨RX6, "ones", "(I)I"⟩
abbrev cX6_chargeOverhead : ByteArray := prog_8_method_30_code
def yX6_chargeOverhead : MethodName := ⟨RX6, "chargeOverhead", "(I)I"⟩
abbrev cX6_today : ByteArray := prog_8_method_31_code
def yX6_today : MethodName := ⟨RX6, "today", "()I"⟩
abbrev cX6_funds : ByteArray := prog_8_method_32_code
def yX6_funds : MethodName := ⟨RX6, "funds", "()I"⟩
abbrev cX6_freeOf : ByteArray := prog_8_method_33_code
def yX6_freeOf : MethodName := ⟨RX6, "freeOf", "(I)I"⟩
abbrev cX6_committed : ByteArray := prog_8_method_34_code
def yX6_committed : MethodName := ⟨RX6, "committed", "(I)I"⟩
abbrev cX6_committedOf : ByteArray := prog_8_method_35_code
def yX6_committedOf : MethodName := ⟨RX6, "committedOf", "(I)I"⟩
abbrev cX6_directOf : ByteArray := prog_8_method_36_code
def yX6_directOf : MethodName := ⟨RX6, "directOf", "(I)I"⟩
abbrev cX6_overheadOf : ByteArray := prog_8_method_37_code
def yX6_overheadOf : MethodName := ⟨RX6, "overheadOf", "(I)I"⟩
abbrev cX6_roomOf : ByteArray := prog_8_method_38_code
def yX6_roomOf : MethodName := ⟨RX6, "roomOf", "(I)I"⟩
abbrev cX6_commitments : ByteArray := prog_8_method_39_code
def yX6_commitments : MethodName := ⟨RX6, "commitments", "()I"⟩
abbrev cX6_fundOf : ByteArray := prog_8_method_40_code
def yX6_fundOf : MethodName := ⟨RX6, "fundOf", "(I)I"⟩
abbrev cX6_leftOf : ByteArray := prog_8_method_41_code
def yX6_leftOf : MethodName := ⟨RX6, "leftOf", "(I)I"⟩
abbrev cX6_untilOf : ByteArray := prog_8_method_42_code
def yX6_untilOf : MethodName := ⟨RX6, "untilOf", "(I)I"⟩
abbrev cX6_costs : ByteArray := prog_8_method_43_code
def yX6_costs : MethodName := ⟨RX6, "costs", "()I"⟩
abbrev cX6_unpaidOf : ByteArray := prog_8_method_44_code
def yX6_unpaidOf : MethodName := ⟨RX6, "unpaidOf", "(I)I"⟩
abbrev cX6_paidBy : ByteArray := prog_8_method_45_code
def yX6_paidBy : MethodName := ⟨RX6, "paidBy", "(II)I"⟩
abbrev cX6_payable : ByteArray := prog_8_method_46_code
def yX6_payable : MethodName := ⟨RX6, "payable", "()I"⟩
abbrev cX6_wouldPay : ByteArray := prog_8_method_47_code
def yX6_wouldPay : MethodName := ⟨RX6, "wouldPay", "(I)I"⟩
abbrev cX6_wouldTake : ByteArray := prog_8_method_48_code
def yX6_wouldTake : MethodName := ⟨RX6, "wouldTake", "(I)I"⟩
abbrev cX6_reason : ByteArray := prog_8_method_49_code
def yX6_reason : MethodName := ⟨RX6, "reason", "(I)I"⟩
def RJx145de : String := "java/io/Serializable"
def TJx145de : u_T := fun k => match k with
  | _ => ("", "", "", false)
def tyJx145de : Nat → FieldType := fun k => match k with
  | _ => .int
abbrev wsJx145de0 : List Cond := u_ws RJx145de TJx145de 0
theorem nmJx145de : ∀ a, a < 0 → ∀ b, b < 0 → a ≠ b → (TJx145de a).2.1 ≠ (TJx145de b).2.1 := by decide +kernel
theorem tyJx145de_ok : ∀ k, k < 0 → parseFieldDescriptor (TJx145de k).2.2.1 = some (tyJx145de k) := by decide +kernel
def RJ5 : String := "java/lang/AbstractStringBuilder"
def TJ5 : u_T := fun k => match k with
  | _ => ("", "", "", false)
def tyJ5 : Nat → FieldType := fun k => match k with
  | _ => .int
abbrev wsJ50 : List Cond := u_ws RJ5 TJ5 0
theorem nmJ5 : ∀ a, a < 0 → ∀ b, b < 0 → a ≠ b → (TJ5 a).2.1 ≠ (TJ5 b).2.1 := by decide +kernel
theorem tyJ5_ok : ∀ k, k < 0 → parseFieldDescriptor (TJ5 k).2.2.1 = some (tyJ5 k) := by decide +kernel
abbrev cJ5_init_d00df : ByteArray := prog_10_method_2_code
def yJ5_init_d00df : MethodName := ⟨RJ5, "<init>", "(I)V"⟩
abbrev cJ5_length_8abf5 : ByteArray := prog_10_method_6_code
def yJ5_length_8abf5 : MethodName := ⟨RJ5, "length", "()I"⟩
abbrev cJ5_ensureCapacityInternal_d00df : ByteArray := prog_10_method_9_code
def yJ5_ensureCapacityInternal_d00df : MethodName := ⟨RJ5, "ensureCapacityInternal", "(I)V"⟩
abbrev cJ5_newCapacity_0f7a4 : ByteArray := prog_10_method_10_code
def yJ5_newCapacity_0f7a4 : MethodName := ⟨RJ5, "newCapacity", "(I)I"⟩
abbrev cJ5_inflate_da8c8 : ByteArray := prog_10_method_11_code
def yJ5_inflate_da8c8 : MethodName := ⟨RJ5, "inflate", "()V"⟩
abbrev cJ5_append_cf1ce : ByteArray := prog_10_method_22_code
def yJ5_append_cf1ce : MethodName := ⟨RJ5, "append", "(Ljava/lang/String;)Ljava/lang/AbstractStringBuilder;"⟩
abbrev cJ5_appendNull_278bc : ByteArray := prog_10_method_26_code
def yJ5_appendNull_278bc : MethodName := ⟨RJ5, "appendNull", "()Ljava/lang/AbstractStringBuilder;"⟩
abbrev cJ5_append_c97b9 : ByteArray := prog_10_method_32_code
def yJ5_append_c97b9 : MethodName := ⟨RJ5, "append", "(I)Ljava/lang/AbstractStringBuilder;"⟩
abbrev cJ5_getValue_6d5f1 : ByteArray := prog_10_method_64_code
def yJ5_getValue_6d5f1 : MethodName := ⟨RJ5, "getValue", "()[B"⟩
abbrev cJ5_isLatin1_aae02 : ByteArray := prog_10_method_68_code
def yJ5_isLatin1_aae02 : MethodName := ⟨RJ5, "isLatin1", "()Z"⟩
abbrev cJ5_inflateIfNeededFor_a7421 : ByteArray := prog_10_method_71_code
def yJ5_inflateIfNeededFor_a7421 : MethodName := ⟨RJ5, "inflateIfNeededFor", "(Ljava/lang/String;)V"⟩
abbrev cJ5_putStringAt_47b60 : ByteArray := prog_10_method_73_code
def yJ5_putStringAt_47b60 : MethodName := ⟨RJ5, "putStringAt", "(ILjava/lang/String;)V"⟩
def RJx2cfe8 : String := "java/lang/Appendable"
def TJx2cfe8 : u_T := fun k => match k with
  | _ => ("", "", "", false)
def tyJx2cfe8 : Nat → FieldType := fun k => match k with
  | _ => .int
abbrev wsJx2cfe80 : List Cond := u_ws RJx2cfe8 TJx2cfe8 0
theorem nmJx2cfe8 : ∀ a, a < 0 → ∀ b, b < 0 → a ≠ b → (TJx2cfe8 a).2.1 ≠ (TJx2cfe8 b).2.1 := by decide +kernel
theorem tyJx2cfe8_ok : ∀ k, k < 0 → parseFieldDescriptor (TJx2cfe8 k).2.2.1 = some (tyJx2cfe8 k) := by decide +kernel
def RJx9f9b0 : String := "java/lang/CharSequence"
def TJx9f9b0 : u_T := fun k => match k with
  | _ => ("", "", "", false)
def tyJx9f9b0 : Nat → FieldType := fun k => match k with
  | _ => .int
abbrev wsJx9f9b00 : List Cond := u_ws RJx9f9b0 TJx9f9b0 0
theorem nmJx9f9b0 : ∀ a, a < 0 → ∀ b, b < 0 → a ≠ b → (TJx9f9b0 a).2.1 ≠ (TJx9f9b0 b).2.1 := by decide +kernel
theorem tyJx9f9b0_ok : ∀ k, k < 0 → parseFieldDescriptor (TJx9f9b0 k).2.2.1 = some (tyJx9f9b0 k) := by decide +kernel
def RJx8e188 : String := "java/lang/Cloneable"
def TJx8e188 : u_T := fun k => match k with
  | _ => ("", "", "", false)
def tyJx8e188 : Nat → FieldType := fun k => match k with
  | _ => .int
abbrev wsJx8e1880 : List Cond := u_ws RJx8e188 TJx8e188 0
theorem nmJx8e188 : ∀ a, a < 0 → ∀ b, b < 0 → a ≠ b → (TJx8e188 a).2.1 ≠ (TJx8e188 b).2.1 := by decide +kernel
theorem tyJx8e188_ok : ∀ k, k < 0 → parseFieldDescriptor (TJx8e188 k).2.2.1 = some (tyJx8e188 k) := by decide +kernel
def RJxb160c : String := "java/lang/Comparable"
def TJxb160c : u_T := fun k => match k with
  | _ => ("", "", "", false)
def tyJxb160c : Nat → FieldType := fun k => match k with
  | _ => .int
abbrev wsJxb160c0 : List Cond := u_ws RJxb160c TJxb160c 0
theorem nmJxb160c : ∀ a, a < 0 → ∀ b, b < 0 → a ≠ b → (TJxb160c a).2.1 ≠ (TJxb160c b).2.1 := by decide +kernel
theorem tyJxb160c_ok : ∀ k, k < 0 → parseFieldDescriptor (TJxb160c k).2.2.1 = some (tyJxb160c k) := by decide +kernel
def RJ6 : String := "java/lang/Integer"
def TJ6 : u_T := fun k => match k with
  | _ => ("", "", "", false)
def tyJ6 : Nat → FieldType := fun k => match k with
  | _ => .int
abbrev wsJ60 : List Cond := u_ws RJ6 TJ6 0
theorem nmJ6 : ∀ a, a < 0 → ∀ b, b < 0 → a ≠ b → (TJ6 a).2.1 ≠ (TJ6 b).2.1 := by decide +kernel
theorem tyJ6_ok : ∀ k, k < 0 → parseFieldDescriptor (TJ6 k).2.2.1 = some (tyJ6 k) := by decide +kernel
abbrev cJ6_getChars_ba4f3 : ByteArray := prog_19_method_12_code
def yJ6_getChars_ba4f3 : MethodName := ⟨RJ6, "getChars", "(II[B)I"⟩
abbrev cJ6_stringSize_0f7a4 : ByteArray := prog_19_method_13_code
def yJ6_stringSize_0f7a4 : MethodName := ⟨RJ6, "stringSize", "(I)I"⟩
def RJxab1ab : String := "java/lang/Iterable"
def TJxab1ab : u_T := fun k => match k with
  | _ => ("", "", "", false)
def tyJxab1ab : Nat → FieldType := fun k => match k with
  | _ => .int
abbrev wsJxab1ab0 : List Cond := u_ws RJxab1ab TJxab1ab 0
theorem nmJxab1ab : ∀ a, a < 0 → ∀ b, b < 0 → a ≠ b → (TJxab1ab a).2.1 ≠ (TJxab1ab b).2.1 := by decide +kernel
theorem tyJxab1ab_ok : ∀ k, k < 0 → parseFieldDescriptor (TJxab1ab k).2.2.1 = some (tyJxab1ab k) := by decide +kernel
def RJ9 : String := "java/lang/Math"
def TJ9 : u_T := fun k => match k with
  | _ => ("", "", "", false)
def tyJ9 : Nat → FieldType := fun k => match k with
  | _ => .int
abbrev wsJ90 : List Cond := u_ws RJ9 TJ9 0
theorem nmJ9 : ∀ a, a < 0 → ∀ b, b < 0 → a ≠ b → (TJ9 a).2.1 ≠ (TJ9 b).2.1 := by decide +kernel
theorem tyJ9_ok : ∀ k, k < 0 → parseFieldDescriptor (TJ9 k).2.2.1 = some (tyJ9 k) := by decide +kernel
abbrev cJ9_max_7cf53 : ByteArray := prog_21_method_65_code
def yJ9_max_7cf53 : MethodName := ⟨RJ9, "max", "(II)I"⟩
abbrev cJ9_min_7cf53 : ByteArray := prog_21_method_69_code
def yJ9_min_7cf53 : MethodName := ⟨RJ9, "min", "(II)I"⟩
abbrev cJ9_min_f86c9 : ByteArray := prog_21_method_70_code
def yJ9_min_f86c9 : MethodName := ⟨RJ9, "min", "(JJ)J"⟩
def RJxd2413 : String := "java/lang/Number"
def TJxd2413 : u_T := fun k => match k with
  | _ => ("", "", "", false)
def tyJxd2413 : Nat → FieldType := fun k => match k with
  | _ => .int
abbrev wsJxd24130 : List Cond := u_ws RJxd2413 TJxd2413 0
theorem nmJxd2413 : ∀ a, a < 0 → ∀ b, b < 0 → a ≠ b → (TJxd2413 a).2.1 ≠ (TJxd2413 b).2.1 := by decide +kernel
theorem tyJxd2413_ok : ∀ k, k < 0 → parseFieldDescriptor (TJxd2413 k).2.2.1 = some (tyJxd2413 k) := by decide +kernel
def RJ0 : String := "java/lang/String"
def TJ0 : u_T := fun k => match k with
  | 0 => ("java/lang/String", "value", "[B", true)
  | 1 => ("java/lang/String", "coder", "B", true)
  | 2 => ("java/lang/String", "hash", "I", false)
  | _ => ("java/lang/String", "hashIsZero", "Z", false)
def tyJ0 : Nat → FieldType := fun k => match k with
  | 0 => .array .byte
  | 1 => .byte
  | 2 => .int
  | _ => .boolean
abbrev wsJ00 : List Cond := u_ws RJ0 TJ0 4
theorem nmJ0 : ∀ a, a < 4 → ∀ b, b < 4 → a ≠ b → (TJ0 a).2.1 ≠ (TJ0 b).2.1 := by decide +kernel
theorem tyJ0_ok : ∀ k, k < 4 → parseFieldDescriptor (TJ0 k).2.2.1 = some (tyJ0 k) := by decide +kernel
abbrev cJ0_init_81219 : ByteArray := prog_24_method_53_code
def yJ0_init_81219 : MethodName := ⟨RJ0, "<init>", "(Ljava/lang/StringBuilder;)V"⟩
abbrev cJ0_length_8abf5 : ByteArray := prog_24_method_54_code
def yJ0_length_8abf5 : MethodName := ⟨RJ0, "length", "()I"⟩
abbrev cJ0_getBytes_840e7 : ByteArray := prog_24_method_147_code
def yJ0_getBytes_840e7 : MethodName := ⟨RJ0, "getBytes", "([BIB)V"⟩
abbrev cJ0_init_db425 : ByteArray := prog_24_method_150_code
def yJ0_init_db425 : MethodName := ⟨RJ0, "<init>", "(Ljava/lang/AbstractStringBuilder;Ljava/lang/Void;)V"⟩
abbrev cJ0_coder_7d493 : ByteArray := prog_24_method_152_code
def yJ0_coder_7d493 : MethodName := ⟨RJ0, "coder", "()B"⟩
abbrev cJ0_checkBoundsOffCount_cabcc : ByteArray := prog_24_method_157_code
def yJ0_checkBoundsOffCount_cabcc : MethodName := ⟨RJ0, "checkBoundsOffCount", "(III)I"⟩
abbrev cJ0_checkBoundsBeginEnd_23922 : ByteArray := prog_24_method_158_code
def yJ0_checkBoundsBeginEnd_23922 : MethodName := ⟨RJ0, "checkBoundsBeginEnd", "(III)V"⟩
def RJ4 : String := "java/lang/StringBuilder"
def TJ4 : u_T := fun k => match k with
  | 0 => ("java/lang/AbstractStringBuilder", "value", "[B", false)
  | 1 => ("java/lang/AbstractStringBuilder", "coder", "B", false)
  | 2 => ("java/lang/AbstractStringBuilder", "maybeLatin1", "Z", false)
  | _ => ("java/lang/AbstractStringBuilder", "count", "I", false)
def tyJ4 : Nat → FieldType := fun k => match k with
  | 0 => .array .byte
  | 1 => .byte
  | 2 => .boolean
  | _ => .int
abbrev wsJ40 : List Cond := u_ws RJ4 TJ4 4
theorem nmJ4 : ∀ a, a < 4 → ∀ b, b < 4 → a ≠ b → (TJ4 a).2.1 ≠ (TJ4 b).2.1 := by decide +kernel
theorem tyJ4_ok : ∀ k, k < 4 → parseFieldDescriptor (TJ4 k).2.2.1 = some (tyJ4 k) := by decide +kernel
abbrev cJ4_init_da8c8 : ByteArray := prog_25_method_1_code
def yJ4_init_da8c8 : MethodName := ⟨RJ4, "<init>", "()V"⟩
abbrev cJ4_append_15ec4 : ByteArray := prog_25_method_7_code
def yJ4_append_15ec4 : MethodName := ⟨RJ4, "append", "(Ljava/lang/String;)Ljava/lang/StringBuilder;"⟩
abbrev cJ4_append_bf812 : ByteArray := prog_25_method_15_code
def yJ4_append_bf812 : MethodName := ⟨RJ4, "append", "(I)Ljava/lang/StringBuilder;"⟩
abbrev cJ4_toString_0e30d : ByteArray := prog_25_method_42_code
def yJ4_toString_0e30d : MethodName := ⟨RJ4, "toString", "()Ljava/lang/String;"⟩
abbrev cJ4_length_8abf5 : ByteArray := prog_25_method_93_code
def yJ4_length_8abf5 : MethodName := ⟨RJ4, "length", "()I"⟩
def RJ1 : String := "java/lang/StringLatin1"
def TJ1 : u_T := fun k => match k with
  | _ => ("", "", "", false)
def tyJ1 : Nat → FieldType := fun k => match k with
  | _ => .int
abbrev wsJ10 : List Cond := u_ws RJ1 TJ1 0
theorem nmJ1 : ∀ a, a < 0 → ∀ b, b < 0 → a ≠ b → (TJ1 a).2.1 ≠ (TJ1 b).2.1 := by decide +kernel
theorem tyJ1_ok : ∀ k, k < 0 → parseFieldDescriptor (TJ1 k).2.2.1 = some (tyJ1 k) := by decide +kernel
abbrev cJ1_inflate_0e8fd : ByteArray := prog_26_method_50_code
def yJ1_inflate_0e8fd : MethodName := ⟨RJ1, "inflate", "([BI[BII)V"⟩
def RJ2 : String := "java/lang/StringUTF16"
def TJ2 : u_T := fun k => match k with
  | _ => ("", "", "", false)
def tyJ2 : Nat → FieldType := fun k => match k with
  | _ => .int
abbrev wsJ20 : List Cond := u_ws RJ2 TJ2 0
theorem nmJ2 : ∀ a, a < 0 → ∀ b, b < 0 → a ≠ b → (TJ2 a).2.1 ≠ (TJ2 b).2.1 := by decide +kernel
theorem tyJ2_ok : ∀ k, k < 0 → parseFieldDescriptor (TJ2 k).2.2.1 = some (tyJ2 k) := by decide +kernel
abbrev cJ2_newBytesFor_77867 : ByteArray := prog_27_method_2_code
def yJ2_newBytesFor_77867 : MethodName := ⟨RJ2, "newBytesFor", "(I)[B"⟩
abbrev cJ2_newBytesLength_0f7a4 : ByteArray := prog_27_method_3_code
def yJ2_newBytesLength_0f7a4 : MethodName := ⟨RJ2, "newBytesLength", "(I)I"⟩
abbrev cJ2_putChar_b72d1 : ByteArray := prog_27_method_4_code
def yJ2_putChar_b72d1 : MethodName := ⟨RJ2, "putChar", "([BII)V"⟩
abbrev cJ2_getChar_3b067 : ByteArray := prog_27_method_5_code
def yJ2_getChar_3b067 : MethodName := ⟨RJ2, "getChar", "([BI)C"⟩
abbrev cJ2_length_9d52b : ByteArray := prog_27_method_6_code
def yJ2_length_9d52b : MethodName := ⟨RJ2, "length", "([B)I"⟩
abbrev cJ2_coderFromArrayLen_85cad : ByteArray := prog_27_method_15_code
def yJ2_coderFromArrayLen_85cad : MethodName := ⟨RJ2, "coderFromArrayLen", "([BI)B"⟩
abbrev cJ2_compress_39247 : ByteArray := prog_27_method_17_code
def yJ2_compress_39247 : MethodName := ⟨RJ2, "compress", "([BII)[B"⟩
abbrev cJ2_compress_5af95 : ByteArray := prog_27_method_22_code
def yJ2_compress_5af95 : MethodName := ⟨RJ2, "compress", "([BI[BII)I"⟩
abbrev cJ2_getChars_46870 : ByteArray := prog_27_method_77_code
def yJ2_getChars_46870 : MethodName := ⟨RJ2, "getChars", "(III[B)I"⟩
abbrev cJ2_putCharsAt_cd4e5 : ByteArray := prog_27_method_81_code
def yJ2_putCharsAt_cd4e5 : MethodName := ⟨RJ2, "putCharsAt", "([BICCCC)I"⟩
abbrev cJ2_inflate_0e8fd : ByteArray := prog_27_method_86_code
def yJ2_inflate_0e8fd : MethodName := ⟨RJ2, "inflate", "([BI[BII)V"⟩
abbrev cJ2_getChars_ba4f3 : ByteArray := prog_27_method_89_code
def yJ2_getChars_ba4f3 : MethodName := ⟨RJ2, "getChars", "(II[B)I"⟩
abbrev cJ2_checkBoundsBeginEnd_d044e : ByteArray := prog_27_method_93_code
def yJ2_checkBoundsBeginEnd_d044e : MethodName := ⟨RJ2, "checkBoundsBeginEnd", "(II[B)V"⟩
abbrev cJ2_checkBoundsOffCount_d044e : ByteArray := prog_27_method_94_code
def yJ2_checkBoundsOffCount_d044e : MethodName := ⟨RJ2, "checkBoundsOffCount", "(II[B)V"⟩
def RJ10 : String := "java/lang/System"
def TJ10 : u_T := fun k => match k with
  | _ => ("", "", "", false)
def tyJ10 : Nat → FieldType := fun k => match k with
  | _ => .int
abbrev wsJ100 : List Cond := u_ws RJ10 TJ10 0
theorem nmJ10 : ∀ a, a < 0 → ∀ b, b < 0 → a ≠ b → (TJ10 a).2.1 ≠ (TJ10 b).2.1 := by decide +kernel
theorem tyJ10_ok : ∀ k, k < 0 → parseFieldDescriptor (TJ10 k).2.2.1 = some (tyJ10 k) := by decide +kernel
def RJxfd54e : String := "java/lang/constant/Constable"
def TJxfd54e : u_T := fun k => match k with
  | _ => ("", "", "", false)
def tyJxfd54e : Nat → FieldType := fun k => match k with
  | _ => .int
abbrev wsJxfd54e0 : List Cond := u_ws RJxfd54e TJxfd54e 0
theorem nmJxfd54e : ∀ a, a < 0 → ∀ b, b < 0 → a ≠ b → (TJxfd54e a).2.1 ≠ (TJxfd54e b).2.1 := by decide +kernel
theorem tyJxfd54e_ok : ∀ k, k < 0 → parseFieldDescriptor (TJxfd54e k).2.2.1 = some (tyJxfd54e k) := by decide +kernel
def RJx3cf43 : String := "java/lang/constant/ConstantDesc"
def TJx3cf43 : u_T := fun k => match k with
  | _ => ("", "", "", false)
def tyJx3cf43 : Nat → FieldType := fun k => match k with
  | _ => .int
abbrev wsJx3cf430 : List Cond := u_ws RJx3cf43 TJx3cf43 0
theorem nmJx3cf43 : ∀ a, a < 0 → ∀ b, b < 0 → a ≠ b → (TJx3cf43 a).2.1 ≠ (TJx3cf43 b).2.1 := by decide +kernel
theorem tyJx3cf43_ok : ∀ k, k < 0 → parseFieldDescriptor (TJx3cf43 k).2.2.1 = some (tyJx3cf43 k) := by decide +kernel
def RJxa1e45 : String := "java/util/AbstractCollection"
def TJxa1e45 : u_T := fun k => match k with
  | _ => ("", "", "", false)
def tyJxa1e45 : Nat → FieldType := fun k => match k with
  | _ => .int
abbrev wsJxa1e450 : List Cond := u_ws RJxa1e45 TJxa1e45 0
theorem nmJxa1e45 : ∀ a, a < 0 → ∀ b, b < 0 → a ≠ b → (TJxa1e45 a).2.1 ≠ (TJxa1e45 b).2.1 := by decide +kernel
theorem tyJxa1e45_ok : ∀ k, k < 0 → parseFieldDescriptor (TJxa1e45 k).2.2.1 = some (tyJxa1e45 k) := by decide +kernel
abbrev cJxa1e45_init_da8c8 : ByteArray := prog_32_method_1_code
def yJxa1e45_init_da8c8 : MethodName := ⟨RJxa1e45, "<init>", "()V"⟩
def RJxc12de : String := "java/util/AbstractList"
def TJxc12de : u_T := fun k => match k with
  | _ => ("", "", "", false)
def tyJxc12de : Nat → FieldType := fun k => match k with
  | _ => .int
abbrev wsJxc12de0 : List Cond := u_ws RJxc12de TJxc12de 0
theorem nmJxc12de : ∀ a, a < 0 → ∀ b, b < 0 → a ≠ b → (TJxc12de a).2.1 ≠ (TJxc12de b).2.1 := by decide +kernel
theorem tyJxc12de_ok : ∀ k, k < 0 → parseFieldDescriptor (TJxc12de k).2.2.1 = some (tyJxc12de k) := by decide +kernel
abbrev cJxc12de_init_da8c8 : ByteArray := prog_33_method_1_code
def yJxc12de_init_da8c8 : MethodName := ⟨RJxc12de, "<init>", "()V"⟩
def RJx4a65c : String := "java/util/ArrayList"
def TJx4a65c : u_T := fun k => match k with
  | 0 => ("java/util/AbstractList", "modCount", "I", false)
  | 1 => ("java/util/ArrayList", "elementData", "[Ljava/lang/Object;", false)
  | _ => ("java/util/ArrayList", "size", "I", false)
def tyJx4a65c : Nat → FieldType := fun k => match k with
  | 0 => .int
  | 1 => .array (.object "java/lang/Object")
  | _ => .int
abbrev wsJx4a65c0 : List Cond := u_ws RJx4a65c TJx4a65c 3
theorem nmJx4a65c : ∀ a, a < 3 → ∀ b, b < 3 → a ≠ b → (TJx4a65c a).2.1 ≠ (TJx4a65c b).2.1 := by decide +kernel
theorem tyJx4a65c_ok : ∀ k, k < 3 → parseFieldDescriptor (TJx4a65c k).2.2.1 = some (tyJx4a65c k) := by decide +kernel
abbrev cJx4a65c_init_da8c8 : ByteArray := prog_34_method_2_code
def yJx4a65c_init_da8c8 : MethodName := ⟨RJx4a65c, "<init>", "()V"⟩
abbrev cJx4a65c_grow_92f84 : ByteArray := prog_34_method_6_code
def yJx4a65c_grow_92f84 : MethodName := ⟨RJx4a65c, "grow", "(I)[Ljava/lang/Object;"⟩
abbrev cJx4a65c_grow_d5877 : ByteArray := prog_34_method_7_code
def yJx4a65c_grow_d5877 : MethodName := ⟨RJx4a65c, "grow", "()[Ljava/lang/Object;"⟩
abbrev cJx4a65c_size_8abf5 : ByteArray := prog_34_method_8_code
def yJx4a65c_size_8abf5 : MethodName := ⟨RJx4a65c, "size", "()I"⟩
abbrev cJx4a65c_elementData_915e3 : ByteArray := prog_34_method_18_code
def yJx4a65c_elementData_915e3 : MethodName := ⟨RJx4a65c, "elementData", "(I)Ljava/lang/Object;"⟩
abbrev cJx4a65c_get_915e3 : ByteArray := prog_34_method_20_code
def yJx4a65c_get_915e3 : MethodName := ⟨RJx4a65c, "get", "(I)Ljava/lang/Object;"⟩
abbrev cJx4a65c_add_72be8 : ByteArray := prog_34_method_24_code
def yJx4a65c_add_72be8 : MethodName := ⟨RJx4a65c, "add", "(Ljava/lang/Object;[Ljava/lang/Object;I)V"⟩
abbrev cJx4a65c_add_9ea2d : ByteArray := prog_34_method_25_code
def yJx4a65c_add_9ea2d : MethodName := ⟨RJx4a65c, "add", "(Ljava/lang/Object;)Z"⟩
abbrev cJx4a65c_add_7a177 : ByteArray := prog_34_method_26_code
def yJx4a65c_add_7a177 : MethodName := ⟨RJx4a65c, "add", "(ILjava/lang/Object;)V"⟩
abbrev cJx4a65c_remove_915e3 : ByteArray := prog_34_method_29_code
def yJx4a65c_remove_915e3 : MethodName := ⟨RJx4a65c, "remove", "(I)Ljava/lang/Object;"⟩
abbrev cJx4a65c_fastRemove_b59b0 : ByteArray := prog_34_method_39_code
def yJx4a65c_fastRemove_b59b0 : MethodName := ⟨RJx4a65c, "fastRemove", "([Ljava/lang/Object;I)V"⟩
abbrev cJx4a65c_clear_da8c8 : ByteArray := prog_34_method_40_code
def yJx4a65c_clear_da8c8 : MethodName := ⟨RJx4a65c, "clear", "()V"⟩
abbrev cJx4a65c_rangeCheckForAdd_d00df : ByteArray := prog_34_method_45_code
def yJx4a65c_rangeCheckForAdd_d00df : MethodName := ⟨RJx4a65c, "rangeCheckForAdd", "(I)V"⟩
abbrev cJx4a65c_outOfBoundsMsg_b52d3 : ByteArray := prog_34_method_46_code
def yJx4a65c_outOfBoundsMsg_b52d3 : MethodName := ⟨RJx4a65c, "outOfBoundsMsg", "(I)Ljava/lang/String;"⟩
def RJ7 : String := "java/util/Arrays"
def TJ7 : u_T := fun k => match k with
  | _ => ("", "", "", false)
def tyJ7 : Nat → FieldType := fun k => match k with
  | _ => .int
abbrev wsJ70 : List Cond := u_ws RJ7 TJ7 0
theorem nmJ7 : ∀ a, a < 0 → ∀ b, b < 0 → a ≠ b → (TJ7 a).2.1 ≠ (TJ7 b).2.1 := by decide +kernel
theorem tyJ7_ok : ∀ k, k < 0 → parseFieldDescriptor (TJ7 k).2.2.1 = some (tyJ7 k) := by decide +kernel
abbrev cJ7_copyOf_1904c : ByteArray := prog_35_method_119_code
def yJ7_copyOf_1904c : MethodName := ⟨RJ7, "copyOf", "([Ljava/lang/Object;I)[Ljava/lang/Object;"⟩
abbrev cJ7_copyOf_6403c : ByteArray := prog_35_method_120_code
def yJ7_copyOf_6403c : MethodName := ⟨RJ7, "copyOf", "([Ljava/lang/Object;ILjava/lang/Class;)[Ljava/lang/Object;"⟩
abbrev cJ7_copyOf_9075b : ByteArray := prog_35_method_121_code
def yJ7_copyOf_9075b : MethodName := ⟨RJ7, "copyOf", "([BI)[B"⟩
abbrev cJ7_checkLength_df160 : ByteArray := prog_35_method_131_code
def yJ7_checkLength_df160 : MethodName := ⟨RJ7, "checkLength", "(II)V"⟩
abbrev cJ7_copyOfRange_39247 : ByteArray := prog_35_method_132_code
def yJ7_copyOfRange_39247 : MethodName := ⟨RJ7, "copyOfRange", "([BII)[B"⟩
abbrev cJ7_copyOfRangeByte_39247 : ByteArray := prog_35_method_133_code
def yJ7_copyOfRangeByte_39247 : MethodName := ⟨RJ7, "copyOfRangeByte", "([BII)[B"⟩
def RJx5ef63 : String := "java/util/Collection"
def TJx5ef63 : u_T := fun k => match k with
  | _ => ("", "", "", false)
def tyJx5ef63 : Nat → FieldType := fun k => match k with
  | _ => .int
abbrev wsJx5ef630 : List Cond := u_ws RJx5ef63 TJx5ef63 0
theorem nmJx5ef63 : ∀ a, a < 0 → ∀ b, b < 0 → a ≠ b → (TJx5ef63 a).2.1 ≠ (TJx5ef63 b).2.1 := by decide +kernel
theorem tyJx5ef63_ok : ∀ k, k < 0 → parseFieldDescriptor (TJx5ef63 k).2.2.1 = some (tyJx5ef63 k) := by decide +kernel
def RJxbd725 : String := "java/util/List"
def TJxbd725 : u_T := fun k => match k with
  | _ => ("", "", "", false)
def tyJxbd725 : Nat → FieldType := fun k => match k with
  | _ => .int
abbrev wsJxbd7250 : List Cond := u_ws RJxbd725 TJxbd725 0
theorem nmJxbd725 : ∀ a, a < 0 → ∀ b, b < 0 → a ≠ b → (TJxbd725 a).2.1 ≠ (TJxbd725 b).2.1 := by decide +kernel
theorem tyJxbd725_ok : ∀ k, k < 0 → parseFieldDescriptor (TJxbd725 k).2.2.1 = some (tyJxbd725 k) := by decide +kernel
def RJ15 : String := "java/util/Objects"
def TJ15 : u_T := fun k => match k with
  | _ => ("", "", "", false)
def tyJ15 : Nat → FieldType := fun k => match k with
  | _ => .int
abbrev wsJ150 : List Cond := u_ws RJ15 TJ15 0
theorem nmJ15 : ∀ a, a < 0 → ∀ b, b < 0 → a ≠ b → (TJ15 a).2.1 ≠ (TJ15 b).2.1 := by decide +kernel
theorem tyJ15_ok : ∀ k, k < 0 → parseFieldDescriptor (TJ15 k).2.2.1 = some (tyJ15 k) := by decide +kernel
abbrev cJ15_checkIndex_7cf53 : ByteArray := prog_38_method_17_code
def yJ15_checkIndex_7cf53 : MethodName := ⟨RJ15, "checkIndex", "(II)I"⟩
def RJxf0a74 : String := "java/util/RandomAccess"
def TJxf0a74 : u_T := fun k => match k with
  | _ => ("", "", "", false)
def tyJxf0a74 : Nat → FieldType := fun k => match k with
  | _ => .int
abbrev wsJxf0a740 : List Cond := u_ws RJxf0a74 TJxf0a74 0
theorem nmJxf0a74 : ∀ a, a < 0 → ∀ b, b < 0 → a ≠ b → (TJxf0a74 a).2.1 ≠ (TJxf0a74 b).2.1 := by decide +kernel
theorem tyJxf0a74_ok : ∀ k, k < 0 → parseFieldDescriptor (TJxf0a74 k).2.2.1 = some (tyJxf0a74 k) := by decide +kernel
def RJxa66e6 : String := "java/util/SequencedCollection"
def TJxa66e6 : u_T := fun k => match k with
  | _ => ("", "", "", false)
def tyJxa66e6 : Nat → FieldType := fun k => match k with
  | _ => .int
abbrev wsJxa66e60 : List Cond := u_ws RJxa66e6 TJxa66e6 0
theorem nmJxa66e6 : ∀ a, a < 0 → ∀ b, b < 0 → a ≠ b → (TJxa66e6 a).2.1 ≠ (TJxa66e6 b).2.1 := by decide +kernel
theorem tyJxa66e6_ok : ∀ k, k < 0 → parseFieldDescriptor (TJxa66e6 k).2.2.1 = some (tyJxa66e6 k) := by decide +kernel
def RJ8 : String := "jdk/internal/util/ArraysSupport"
def TJ8 : u_T := fun k => match k with
  | _ => ("", "", "", false)
def tyJ8 : Nat → FieldType := fun k => match k with
  | _ => .int
abbrev wsJ80 : List Cond := u_ws RJ8 TJ8 0
theorem nmJ8 : ∀ a, a < 0 → ∀ b, b < 0 → a ≠ b → (TJ8 a).2.1 ≠ (TJ8 b).2.1 := by decide +kernel
theorem tyJ8_ok : ∀ k, k < 0 → parseFieldDescriptor (TJ8 k).2.2.1 = some (tyJ8 k) := by decide +kernel
abbrev cJ8_newLength_cabcc : ByteArray := prog_41_method_27_code
def yJ8_newLength_cabcc : MethodName := ⟨RJ8, "newLength", "(III)I"⟩
abbrev cJ8_hugeLength_7cf53 : ByteArray := prog_41_method_28_code
def yJ8_hugeLength_7cf53 : MethodName := ⟨RJ8, "hugeLength", "(II)I"⟩
def RJ3 : String := "jdk/internal/util/Preconditions"
def TJ3 : u_T := fun k => match k with
  | _ => ("", "", "", false)
def tyJ3 : Nat → FieldType := fun k => match k with
  | _ => .int
abbrev wsJ30 : List Cond := u_ws RJ3 TJ3 0
theorem nmJ3 : ∀ a, a < 0 → ∀ b, b < 0 → a ≠ b → (TJ3 a).2.1 ≠ (TJ3 b).2.1 := by decide +kernel
theorem tyJ3_ok : ∀ k, k < 0 → parseFieldDescriptor (TJ3 k).2.2.1 = some (tyJ3 k) := by decide +kernel
abbrev cJ3_checkIndex_8e157 : ByteArray := prog_42_method_11_code
def yJ3_checkIndex_8e157 : MethodName := ⟨RJ3, "checkIndex", "(IILjava/util/function/BiFunction;)I"⟩
abbrev cJ3_checkFromToIndex_8c36e : ByteArray := prog_42_method_12_code
def yJ3_checkFromToIndex_8c36e : MethodName := ⟨RJ3, "checkFromToIndex", "(IIILjava/util/function/BiFunction;)I"⟩
abbrev cJ3_checkFromIndexSize_8c36e : ByteArray := prog_42_method_13_code
def yJ3_checkFromIndexSize_8c36e : MethodName := ⟨RJ3, "checkFromIndexSize", "(IIILjava/util/function/BiFunction;)I"⟩
def RL : String := "RestrictedFundsLaw"
abbrev cL_addFund : ByteArray := method_3_code
def yL_addFund : MethodName := ⟨RL, "addFund", "(LRestrictedFunds;IIII[J)I"⟩
abbrev cL_deposit : ByteArray := method_4_code
def yL_deposit : MethodName := ⟨RL, "deposit", "(LRestrictedFunds;II[J)I"⟩
abbrev cL_commit : ByteArray := method_5_code
def yL_commit : MethodName := ⟨RL, "commit", "(LRestrictedFunds;IIII[J)I"⟩
abbrev cL_cancel : ByteArray := method_6_code
def yL_cancel : MethodName := ⟨RL, "cancel", "(LRestrictedFunds;I[J)I"⟩
abbrev cL_advance : ByteArray := method_7_code
def yL_advance : MethodName := ⟨RL, "advance", "(LRestrictedFunds;I[J)I"⟩
abbrev cL_addCost : ByteArray := method_8_code
def yL_addCost : MethodName := ⟨RL, "addCost", "(LRestrictedFunds;III[J)I"⟩
abbrev cL_chargeOverhead : ByteArray := method_9_code
def yL_chargeOverhead : MethodName := ⟨RL, "chargeOverhead", "(LRestrictedFunds;I[J)I"⟩
abbrev cL_freeOf : ByteArray := method_10_code
def yL_freeOf : MethodName := ⟨RL, "freeOf", "(LRestrictedFunds;I[J)I"⟩
abbrev cL_committedOf : ByteArray := method_11_code
def yL_committedOf : MethodName := ⟨RL, "committedOf", "(LRestrictedFunds;I[J)I"⟩
abbrev cL_directOf : ByteArray := method_12_code
def yL_directOf : MethodName := ⟨RL, "directOf", "(LRestrictedFunds;I[J)I"⟩
abbrev cL_overheadOf : ByteArray := method_13_code
def yL_overheadOf : MethodName := ⟨RL, "overheadOf", "(LRestrictedFunds;I[J)I"⟩
abbrev cL_roomOf : ByteArray := method_14_code
def yL_roomOf : MethodName := ⟨RL, "roomOf", "(LRestrictedFunds;I[J)I"⟩
abbrev cL_fundOf : ByteArray := method_15_code
def yL_fundOf : MethodName := ⟨RL, "fundOf", "(LRestrictedFunds;I[J)I"⟩
abbrev cL_leftOf : ByteArray := method_16_code
def yL_leftOf : MethodName := ⟨RL, "leftOf", "(LRestrictedFunds;I[J)I"⟩
abbrev cL_untilOf : ByteArray := method_17_code
def yL_untilOf : MethodName := ⟨RL, "untilOf", "(LRestrictedFunds;I[J)I"⟩
abbrev cL_unpaidOf : ByteArray := method_18_code
def yL_unpaidOf : MethodName := ⟨RL, "unpaidOf", "(LRestrictedFunds;I[J)I"⟩
abbrev cL_paidBy : ByteArray := method_19_code
def yL_paidBy : MethodName := ⟨RL, "paidBy", "(LRestrictedFunds;II[J)I"⟩
abbrev cL_wouldPay : ByteArray := method_20_code
def yL_wouldPay : MethodName := ⟨RL, "wouldPay", "(LRestrictedFunds;I[J)I"⟩
abbrev cL_wouldTake : ByteArray := method_21_code
def yL_wouldTake : MethodName := ⟨RL, "wouldTake", "(LRestrictedFunds;I[J)I"⟩
abbrev cL_reason : ByteArray := method_22_code
def yL_reason : MethodName := ⟨RL, "reason", "(LRestrictedFunds;I[J)I"⟩
abbrev cL_law : ByteArray := code
def yL_law : MethodName := ⟨RL, "law", "([I)Z"⟩
abbrev vwCl : List vw_C := [(RJ0, TJ0, 4), (RJ4, TJ4, 4), (RJx4a65c, TJx4a65c, 3), (RX0, TX0, 4), (RX1, TX1, 4), (RX2, TX2, 7), (RX3, TX3, 11), (RX5, TX5, 6), (RX6, TX6, 30)]
end
section
theorem dX0_init_0 : decode cX0_init 0 = .ok (.aload_n 0, 1) := by decide +kernel
theorem dX0_init_1 : decode cX0_init 1 = .ok (.iload_n 3, 1) := by decide +kernel
theorem dX0_init_2 : decode cX0_init 2 = .ok (.invokespecial 1, 3) := by decide +kernel
theorem dX0_init_5 : decode cX0_init 5 = .ok (.aload_n 0, 1) := by decide +kernel
theorem dX0_init_6 : decode cX0_init 6 = .ok (.aload_n 1, 1) := by decide +kernel
theorem dX0_init_7 : decode cX0_init 7 = .ok (.putfield 7, 3) := by decide +kernel
theorem dX0_init_10 : decode cX0_init 10 = .ok (.aload_n 0, 1) := by decide +kernel
theorem dX0_init_11 : decode cX0_init 11 = .ok (.iload_n 2, 1) := by decide +kernel
theorem dX0_init_12 : decode cX0_init 12 = .ok (.putfield 13, 3) := by decide +kernel
theorem dX0_init_15 : decode cX0_init 15 = .ok (.aload_n 0, 1) := by decide +kernel
theorem dX0_init_16 : decode cX0_init 16 = .ok (.iload 4, 2) := by decide +kernel
theorem dX0_init_18 : decode cX0_init 18 = .ok (.putfield 17, 3) := by decide +kernel
theorem dX0_init_21 : decode cX0_init 21 = .ok (.return_, 1) := by decide +kernel
theorem dX0_owner_0 : decode cX0_owner 0 = .ok (.aload_n 0, 1) := by decide +kernel
theorem dX0_owner_1 : decode cX0_owner 1 = .ok (.getfield 7, 3) := by decide +kernel
theorem dX0_owner_4 : decode cX0_owner 4 = .ok (.areturn, 1) := by decide +kernel
theorem dX0_expiry_0 : decode cX0_expiry 0 = .ok (.aload_n 0, 1) := by decide +kernel
theorem dX0_expiry_1 : decode cX0_expiry 1 = .ok (.getfield 17, 3) := by decide +kernel
theorem dX0_expiry_4 : decode cX0_expiry 4 = .ok (.ireturn, 1) := by decide +kernel
theorem dX0_mayPay_0 : decode cX0_mayPay 0 = .ok (.aload_n 1, 1) := by decide +kernel
theorem dX0_mayPay_1 : decode cX0_mayPay 1 = .ok (.getfield 20, 3) := by decide +kernel
theorem dX0_mayPay_4 : decode cX0_mayPay 4 = .ok (.aload_n 0, 1) := by decide +kernel
theorem dX0_mayPay_5 : decode cX0_mayPay 5 = .ok (.getfield 13, 3) := by decide +kernel
theorem dX0_mayPay_8 : decode cX0_mayPay 8 = .ok (.if_icmp .ne 18, 3) := by decide +kernel
theorem dX0_mayPay_11 : decode cX0_mayPay 11 = .ok (.aload_n 0, 1) := by decide +kernel
theorem dX0_mayPay_12 : decode cX0_mayPay 12 = .ok (.getfield 7, 3) := by decide +kernel
theorem dX0_mayPay_15 : decode cX0_mayPay 15 = .ok (.aload_n 1, 1) := by decide +kernel
theorem dX0_mayPay_16 : decode cX0_mayPay 16 = .ok (.invokevirtual 23, 3) := by decide +kernel
theorem dX0_mayPay_19 : decode cX0_mayPay 19 = .ok (.ifCond .eq 7, 3) := by decide +kernel
theorem dX0_mayPay_22 : decode cX0_mayPay 22 = .ok (.iconst 1, 1) := by decide +kernel
theorem dX0_mayPay_23 : decode cX0_mayPay 23 = .ok (.goto 4, 3) := by decide +kernel
theorem dX0_mayPay_26 : decode cX0_mayPay 26 = .ok (.iconst 0, 1) := by decide +kernel
theorem dX0_mayPay_27 : decode cX0_mayPay 27 = .ok (.ireturn, 1) := by decide +kernel
theorem dX1_init_0 : decode cX1_init 0 = .ok (.aload_n 0, 1) := by decide +kernel
theorem dX1_init_1 : decode cX1_init 1 = .ok (.invokespecial 3, 3) := by decide +kernel
theorem dX1_init_4 : decode cX1_init 4 = .ok (.aload_n 0, 1) := by decide +kernel
theorem dX1_init_5 : decode cX1_init 5 = .ok (.bipush 6, 2) := by decide +kernel
theorem dX1_init_7 : decode cX1_init 7 = .ok (.newarray .int, 2) := by decide +kernel
theorem dX1_init_9 : decode cX1_init 9 = .ok (.putfield 9, 3) := by decide +kernel
theorem dX1_init_12 : decode cX1_init 12 = .ok (.aload_n 0, 1) := by decide +kernel
theorem dX1_init_13 : decode cX1_init 13 = .ok (.iload_n 1, 1) := by decide +kernel
theorem dX1_init_14 : decode cX1_init 14 = .ok (.putfield 15, 3) := by decide +kernel
theorem dX1_init_17 : decode cX1_init 17 = .ok (.aload_n 0, 1) := by decide +kernel
theorem dX1_init_18 : decode cX1_init 18 = .ok (.iload_n 2, 1) := by decide +kernel
theorem dX1_init_19 : decode cX1_init 19 = .ok (.putfield 19, 3) := by decide +kernel
theorem dX1_init_22 : decode cX1_init 22 = .ok (.aload_n 0, 1) := by decide +kernel
theorem dX1_init_23 : decode cX1_init 23 = .ok (.iload_n 3, 1) := by decide +kernel
theorem dX1_init_24 : decode cX1_init 24 = .ok (.putfield 22, 3) := by decide +kernel
theorem dX1_init_27 : decode cX1_init 27 = .ok (.return_, 1) := by decide +kernel
theorem dX1_shareOf_0 : decode cX1_shareOf 0 = .ok (.aload_n 1, 1) := by decide +kernel
theorem dX1_shareOf_1 : decode cX1_shareOf 1 = .ok (.getfield 25, 3) := by decide +kernel
theorem dX1_shareOf_4 : decode cX1_shareOf 4 = .ok (.istore_n 2, 1) := by decide +kernel
theorem dX1_shareOf_5 : decode cX1_shareOf 5 = .ok (.iload_n 2, 1) := by decide +kernel
theorem dX1_shareOf_6 : decode cX1_shareOf 6 = .ok (.ifCond .lt 18, 3) := by decide +kernel
theorem dX1_shareOf_9 : decode cX1_shareOf 9 = .ok (.iload_n 2, 1) := by decide +kernel
theorem dX1_shareOf_10 : decode cX1_shareOf 10 = .ok (.bipush 6, 2) := by decide +kernel
theorem dX1_shareOf_12 : decode cX1_shareOf 12 = .ok (.if_icmp .ge 12, 3) := by decide +kernel
theorem dX1_shareOf_15 : decode cX1_shareOf 15 = .ok (.aload_n 0, 1) := by decide +kernel
theorem dX1_shareOf_16 : decode cX1_shareOf 16 = .ok (.getfield 9, 3) := by decide +kernel
theorem dX1_shareOf_19 : decode cX1_shareOf 19 = .ok (.iload_n 2, 1) := by decide +kernel
theorem dX1_shareOf_20 : decode cX1_shareOf 20 = .ok (.iaload, 1) := by decide +kernel
theorem dX1_shareOf_21 : decode cX1_shareOf 21 = .ok (.goto 4, 3) := by decide +kernel
theorem dX1_shareOf_24 : decode cX1_shareOf 24 = .ok (.iconst 0, 1) := by decide +kernel
theorem dX1_shareOf_25 : decode cX1_shareOf 25 = .ok (.ireturn, 1) := by decide +kernel
theorem dX1_pay_0 : decode cX1_pay 0 = .ok (.aload_n 1, 1) := by decide +kernel
theorem dX1_pay_1 : decode cX1_pay 1 = .ok (.getfield 25, 3) := by decide +kernel
theorem dX1_pay_4 : decode cX1_pay 4 = .ok (.istore_n 3, 1) := by decide +kernel
theorem dX1_pay_5 : decode cX1_pay 5 = .ok (.iload_n 3, 1) := by decide +kernel
theorem dX1_pay_6 : decode cX1_pay 6 = .ok (.ifCond .lt 29, 3) := by decide +kernel
theorem dX1_pay_9 : decode cX1_pay 9 = .ok (.iload_n 3, 1) := by decide +kernel
theorem dX1_pay_10 : decode cX1_pay 10 = .ok (.bipush 6, 2) := by decide +kernel
theorem dX1_pay_12 : decode cX1_pay 12 = .ok (.if_icmp .ge 23, 3) := by decide +kernel
theorem dX1_pay_15 : decode cX1_pay 15 = .ok (.aload_n 0, 1) := by decide +kernel
theorem dX1_pay_16 : decode cX1_pay 16 = .ok (.getfield 9, 3) := by decide +kernel
theorem dX1_pay_19 : decode cX1_pay 19 = .ok (.iload_n 3, 1) := by decide +kernel
theorem dX1_pay_20 : decode cX1_pay 20 = .ok (.dup2, 1) := by decide +kernel
theorem dX1_pay_21 : decode cX1_pay 21 = .ok (.iaload, 1) := by decide +kernel
theorem dX1_pay_22 : decode cX1_pay 22 = .ok (.iload_n 2, 1) := by decide +kernel
theorem dX1_pay_23 : decode cX1_pay 23 = .ok (.iadd, 1) := by decide +kernel
theorem dX1_pay_24 : decode cX1_pay 24 = .ok (.iastore, 1) := by decide +kernel
theorem dX1_pay_25 : decode cX1_pay 25 = .ok (.aload_n 0, 1) := by decide +kernel
theorem dX1_pay_26 : decode cX1_pay 26 = .ok (.dup, 1) := by decide +kernel
theorem dX1_pay_27 : decode cX1_pay 27 = .ok (.getfield 22, 3) := by decide +kernel
theorem dX1_pay_30 : decode cX1_pay 30 = .ok (.iload_n 2, 1) := by decide +kernel
theorem dX1_pay_31 : decode cX1_pay 31 = .ok (.isub, 1) := by decide +kernel
theorem dX1_pay_32 : decode cX1_pay 32 = .ok (.putfield 22, 3) := by decide +kernel
theorem dX1_pay_35 : decode cX1_pay 35 = .ok (.return_, 1) := by decide +kernel
theorem dX2_init_0 : decode cX2_init 0 = .ok (.aload_n 0, 1) := by decide +kernel
theorem dX2_init_1 : decode cX2_init 1 = .ok (.iload_n 2, 1) := by decide +kernel
theorem dX2_init_2 : decode cX2_init 2 = .ok (.invokespecial 3, 3) := by decide +kernel
theorem dX2_init_5 : decode cX2_init 5 = .ok (.aload_n 0, 1) := by decide +kernel
theorem dX2_init_6 : decode cX2_init 6 = .ok (.iload_n 1, 1) := by decide +kernel
theorem dX2_init_7 : decode cX2_init 7 = .ok (.putfield 9, 3) := by decide +kernel
theorem dX2_init_10 : decode cX2_init 10 = .ok (.aload_n 0, 1) := by decide +kernel
theorem dX2_init_11 : decode cX2_init 11 = .ok (.iload_n 3, 1) := by decide +kernel
theorem dX2_init_12 : decode cX2_init 12 = .ok (.putfield 15, 3) := by decide +kernel
theorem dX2_init_15 : decode cX2_init 15 = .ok (.aload_n 0, 1) := by decide +kernel
theorem dX2_init_16 : decode cX2_init 16 = .ok (.iload 4, 2) := by decide +kernel
theorem dX2_init_18 : decode cX2_init 18 = .ok (.putfield 18, 3) := by decide +kernel
theorem dX2_init_21 : decode cX2_init 21 = .ok (.aload_n 0, 1) := by decide +kernel
theorem dX2_init_22 : decode cX2_init 22 = .ok (.iload 5, 2) := by decide +kernel
theorem dX2_init_24 : decode cX2_init 24 = .ok (.putfield 21, 3) := by decide +kernel
theorem dX2_init_27 : decode cX2_init 27 = .ok (.return_, 1) := by decide +kernel
theorem dX2_owner_0 : decode cX2_owner 0 = .ok (.aload_n 0, 1) := by decide +kernel
theorem dX2_owner_1 : decode cX2_owner 1 = .ok (.areturn, 1) := by decide +kernel
theorem dX2_expiry_0 : decode cX2_expiry 0 = .ok (.aload_n 0, 1) := by decide +kernel
theorem dX2_expiry_1 : decode cX2_expiry 1 = .ok (.getfield 18, 3) := by decide +kernel
theorem dX2_expiry_4 : decode cX2_expiry 4 = .ok (.ireturn, 1) := by decide +kernel
theorem dX2_mayPay_0 : decode cX2_mayPay 0 = .ok (.aload_n 0, 1) := by decide +kernel
theorem dX2_mayPay_1 : decode cX2_mayPay 1 = .ok (.aload_n 1, 1) := by decide +kernel
theorem dX2_mayPay_2 : decode cX2_mayPay 2 = .ok (.invokevirtual 24, 3) := by decide +kernel
theorem dX2_mayPay_5 : decode cX2_mayPay 5 = .ok (.ireturn, 1) := by decide +kernel
theorem dX2_allows_0 : decode cX2_allows 0 = .ok (.aload_n 0, 1) := by decide +kernel
theorem dX2_allows_1 : decode cX2_allows 1 = .ok (.getfield 15, 3) := by decide +kernel
theorem dX2_allows_4 : decode cX2_allows 4 = .ok (.iload_n 1, 1) := by decide +kernel
theorem dX2_allows_5 : decode cX2_allows 5 = .ok (.invokestatic 28, 3) := by decide +kernel
theorem dX2_allows_8 : decode cX2_allows 8 = .ok (.ireturn, 1) := by decide +kernel
theorem dX2_suits_0 : decode cX2_suits 0 = .ok (.aload_n 0, 1) := by decide +kernel
theorem dX2_suits_1 : decode cX2_suits 1 = .ok (.aload_n 1, 1) := by decide +kernel
theorem dX2_suits_2 : decode cX2_suits 2 = .ok (.getfield 32, 3) := by decide +kernel
theorem dX2_suits_5 : decode cX2_suits 5 = .ok (.invokevirtual 37, 3) := by decide +kernel
theorem dX2_suits_8 : decode cX2_suits 8 = .ok (.ifCond .eq 18, 3) := by decide +kernel
theorem dX2_suits_11 : decode cX2_suits 11 = .ok (.aload_n 1, 1) := by decide +kernel
theorem dX2_suits_12 : decode cX2_suits 12 = .ok (.getfield 41, 3) := by decide +kernel
theorem dX2_suits_15 : decode cX2_suits 15 = .ok (.aload_n 0, 1) := by decide +kernel
theorem dX2_suits_16 : decode cX2_suits 16 = .ok (.getfield 18, 3) := by decide +kernel
theorem dX2_suits_19 : decode cX2_suits 19 = .ok (.if_icmp .gt 7, 3) := by decide +kernel
theorem dX2_suits_22 : decode cX2_suits 22 = .ok (.iconst 1, 1) := by decide +kernel
theorem dX2_suits_23 : decode cX2_suits 23 = .ok (.goto 4, 3) := by decide +kernel
theorem dX2_suits_26 : decode cX2_suits 26 = .ok (.iconst 0, 1) := by decide +kernel
theorem dX2_suits_27 : decode cX2_suits 27 = .ok (.ireturn, 1) := by decide +kernel
theorem dX2_room_0 : decode cX2_room 0 = .ok (.aload_n 0, 1) := by decide +kernel
theorem dX2_room_1 : decode cX2_room 1 = .ok (.getfield 44, 3) := by decide +kernel
theorem dX2_room_4 : decode cX2_room 4 = .ok (.aload_n 0, 1) := by decide +kernel
theorem dX2_room_5 : decode cX2_room 5 = .ok (.getfield 21, 3) := by decide +kernel
theorem dX2_room_8 : decode cX2_room 8 = .ok (.imul, 1) := by decide +kernel
theorem dX2_room_9 : decode cX2_room 9 = .ok (.bipush 100, 2) := by decide +kernel
theorem dX2_room_11 : decode cX2_room 11 = .ok (.idiv, 1) := by decide +kernel
theorem dX2_room_12 : decode cX2_room 12 = .ok (.aload_n 0, 1) := by decide +kernel
theorem dX2_room_13 : decode cX2_room 13 = .ok (.getfield 47, 3) := by decide +kernel
theorem dX2_room_16 : decode cX2_room 16 = .ok (.isub, 1) := by decide +kernel
theorem dX2_room_17 : decode cX2_room 17 = .ok (.istore_n 1, 1) := by decide +kernel
theorem dX2_room_18 : decode cX2_room 18 = .ok (.iconst 0, 1) := by decide +kernel
theorem dX2_room_19 : decode cX2_room 19 = .ok (.iload_n 1, 1) := by decide +kernel
theorem dX2_room_20 : decode cX2_room 20 = .ok (.aload_n 0, 1) := by decide +kernel
theorem dX2_room_21 : decode cX2_room 21 = .ok (.getfield 50, 3) := by decide +kernel
theorem dX2_room_24 : decode cX2_room 24 = .ok (.invokestatic 53, 3) := by decide +kernel
theorem dX2_room_27 : decode cX2_room 27 = .ok (.invokestatic 59, 3) := by decide +kernel
theorem dX2_room_30 : decode cX2_room 30 = .ok (.ireturn, 1) := by decide +kernel
theorem dX2_takeOverhead_0 : decode cX2_takeOverhead 0 = .ok (.aload_n 0, 1) := by decide +kernel
theorem dX2_takeOverhead_1 : decode cX2_takeOverhead 1 = .ok (.dup, 1) := by decide +kernel
theorem dX2_takeOverhead_2 : decode cX2_takeOverhead 2 = .ok (.getfield 50, 3) := by decide +kernel
theorem dX2_takeOverhead_5 : decode cX2_takeOverhead 5 = .ok (.iload_n 1, 1) := by decide +kernel
theorem dX2_takeOverhead_6 : decode cX2_takeOverhead 6 = .ok (.isub, 1) := by decide +kernel
theorem dX2_takeOverhead_7 : decode cX2_takeOverhead 7 = .ok (.putfield 50, 3) := by decide +kernel
theorem dX2_takeOverhead_10 : decode cX2_takeOverhead 10 = .ok (.aload_n 0, 1) := by decide +kernel
theorem dX2_takeOverhead_11 : decode cX2_takeOverhead 11 = .ok (.dup, 1) := by decide +kernel
theorem dX2_takeOverhead_12 : decode cX2_takeOverhead 12 = .ok (.getfield 47, 3) := by decide +kernel
theorem dX2_takeOverhead_15 : decode cX2_takeOverhead 15 = .ok (.iload_n 1, 1) := by decide +kernel
theorem dX2_takeOverhead_16 : decode cX2_takeOverhead 16 = .ok (.iadd, 1) := by decide +kernel
theorem dX2_takeOverhead_17 : decode cX2_takeOverhead 17 = .ok (.putfield 47, 3) := by decide +kernel
theorem dX2_takeOverhead_20 : decode cX2_takeOverhead 20 = .ok (.return_, 1) := by decide +kernel
theorem dX3_init_0 : decode cX3_init 0 = .ok (.aload_n 0, 1) := by decide +kernel
theorem dX3_init_1 : decode cX3_init 1 = .ok (.invokespecial 3, 3) := by decide +kernel
theorem dX3_init_4 : decode cX3_init 4 = .ok (.aload_n 0, 1) := by decide +kernel
theorem dX3_init_5 : decode cX3_init 5 = .ok (.bipush 12, 2) := by decide +kernel
theorem dX3_init_7 : decode cX3_init 7 = .ok (.newarray .int, 2) := by decide +kernel
theorem dX3_init_9 : decode cX3_init 9 = .ok (.putfield 9, 3) := by decide +kernel
theorem dX3_init_12 : decode cX3_init 12 = .ok (.aload_n 0, 1) := by decide +kernel
theorem dX3_init_13 : decode cX3_init 13 = .ok (.bipush 16, 2) := by decide +kernel
theorem dX3_init_15 : decode cX3_init 15 = .ok (.newarray .int, 2) := by decide +kernel
theorem dX3_init_17 : decode cX3_init 17 = .ok (.putfield 15, 3) := by decide +kernel
theorem dX3_init_20 : decode cX3_init 20 = .ok (.aload_n 0, 1) := by decide +kernel
theorem dX3_init_21 : decode cX3_init 21 = .ok (.bipush 16, 2) := by decide +kernel
theorem dX3_init_23 : decode cX3_init 23 = .ok (.newarray .int, 2) := by decide +kernel
theorem dX3_init_25 : decode cX3_init 25 = .ok (.putfield 18, 3) := by decide +kernel
theorem dX3_init_28 : decode cX3_init 28 = .ok (.aload_n 0, 1) := by decide +kernel
theorem dX3_init_29 : decode cX3_init 29 = .ok (.bipush 12, 2) := by decide +kernel
theorem dX3_init_31 : decode cX3_init 31 = .ok (.bipush 16, 2) := by decide +kernel
theorem dX3_init_33 : decode cX3_init 33 = .ok (.multianewarray 21 2, 4) := by decide +kernel
theorem dX3_init_37 : decode cX3_init 37 = .ok (.putfield 23, 3) := by decide +kernel
theorem dX3_init_40 : decode cX3_init 40 = .ok (.aload_n 0, 1) := by decide +kernel
theorem dX3_init_41 : decode cX3_init 41 = .ok (.bipush 12, 2) := by decide +kernel
theorem dX3_init_43 : decode cX3_init 43 = .ok (.newarray .int, 2) := by decide +kernel
theorem dX3_init_45 : decode cX3_init 45 = .ok (.putfield 26, 3) := by decide +kernel
theorem dX3_init_48 : decode cX3_init 48 = .ok (.aload_n 0, 1) := by decide +kernel
theorem dX3_init_49 : decode cX3_init 49 = .ok (.bipush 12, 2) := by decide +kernel
theorem dX3_init_51 : decode cX3_init 51 = .ok (.newarray .int, 2) := by decide +kernel
theorem dX3_init_53 : decode cX3_init 53 = .ok (.putfield 29, 3) := by decide +kernel
theorem dX3_init_56 : decode cX3_init 56 = .ok (.aload_n 0, 1) := by decide +kernel
theorem dX3_init_57 : decode cX3_init 57 = .ok (.bipush 12, 2) := by decide +kernel
theorem dX3_init_59 : decode cX3_init 59 = .ok (.newarray .int, 2) := by decide +kernel
theorem dX3_init_61 : decode cX3_init 61 = .ok (.putfield 32, 3) := by decide +kernel
theorem dX3_init_64 : decode cX3_init 64 = .ok (.aload_n 0, 1) := by decide +kernel
theorem dX3_init_65 : decode cX3_init 65 = .ok (.bipush 12, 2) := by decide +kernel
theorem dX3_init_67 : decode cX3_init 67 = .ok (.newarray .int, 2) := by decide +kernel
theorem dX3_init_69 : decode cX3_init 69 = .ok (.putfield 35, 3) := by decide +kernel
theorem dX3_init_72 : decode cX3_init 72 = .ok (.aload_n 0, 1) := by decide +kernel
theorem dX3_init_73 : decode cX3_init 73 = .ok (.bipush 12, 2) := by decide +kernel
theorem dX3_init_75 : decode cX3_init 75 = .ok (.newarray .int, 2) := by decide +kernel
theorem dX3_init_77 : decode cX3_init 77 = .ok (.putfield 38, 3) := by decide +kernel
theorem dX3_init_80 : decode cX3_init 80 = .ok (.return_, 1) := by decide +kernel
theorem dX3_begin_0 : decode cX3_begin 0 = .ok (.aload_n 0, 1) := by decide +kernel
theorem dX3_begin_1 : decode cX3_begin 1 = .ok (.iconst 0, 1) := by decide +kernel
theorem dX3_begin_2 : decode cX3_begin 2 = .ok (.iload_n 1, 1) := by decide +kernel
theorem dX3_begin_3 : decode cX3_begin 3 = .ok (.bipush 12, 2) := by decide +kernel
theorem dX3_begin_5 : decode cX3_begin 5 = .ok (.invokestatic 41, 3) := by decide +kernel
theorem dX3_begin_8 : decode cX3_begin 8 = .ok (.invokestatic 47, 3) := by decide +kernel
theorem dX3_begin_11 : decode cX3_begin 11 = .ok (.putfield 50, 3) := by decide +kernel
theorem dX3_begin_14 : decode cX3_begin 14 = .ok (.aload_n 0, 1) := by decide +kernel
theorem dX3_begin_15 : decode cX3_begin 15 = .ok (.iconst 0, 1) := by decide +kernel
theorem dX3_begin_16 : decode cX3_begin 16 = .ok (.iload_n 2, 1) := by decide +kernel
theorem dX3_begin_17 : decode cX3_begin 17 = .ok (.bipush 16, 2) := by decide +kernel
theorem dX3_begin_19 : decode cX3_begin 19 = .ok (.invokestatic 41, 3) := by decide +kernel
theorem dX3_begin_22 : decode cX3_begin 22 = .ok (.invokestatic 47, 3) := by decide +kernel
theorem dX3_begin_25 : decode cX3_begin 25 = .ok (.putfield 54, 3) := by decide +kernel
theorem dX3_begin_28 : decode cX3_begin 28 = .ok (.iconst 0, 1) := by decide +kernel
theorem dX3_begin_29 : decode cX3_begin 29 = .ok (.istore_n 3, 1) := by decide +kernel
theorem dX3_begin_30 : decode cX3_begin 30 = .ok (.iload_n 3, 1) := by decide +kernel
theorem dX3_begin_31 : decode cX3_begin 31 = .ok (.aload_n 0, 1) := by decide +kernel
theorem dX3_begin_32 : decode cX3_begin 32 = .ok (.getfield 50, 3) := by decide +kernel
theorem dX3_begin_35 : decode cX3_begin 35 = .ok (.if_icmp .ge 44, 3) := by decide +kernel
theorem dX3_begin_38 : decode cX3_begin 38 = .ok (.aload_n 0, 1) := by decide +kernel
theorem dX3_begin_39 : decode cX3_begin 39 = .ok (.getfield 29, 3) := by decide +kernel
theorem dX3_begin_42 : decode cX3_begin 42 = .ok (.iload_n 3, 1) := by decide +kernel
theorem dX3_begin_43 : decode cX3_begin 43 = .ok (.iconst 0, 1) := by decide +kernel
theorem dX3_begin_44 : decode cX3_begin 44 = .ok (.iastore, 1) := by decide +kernel
theorem dX3_begin_45 : decode cX3_begin 45 = .ok (.iconst 0, 1) := by decide +kernel
theorem dX3_begin_46 : decode cX3_begin 46 = .ok (.istore 4, 2) := by decide +kernel
theorem dX3_begin_48 : decode cX3_begin 48 = .ok (.iload 4, 2) := by decide +kernel
theorem dX3_begin_50 : decode cX3_begin 50 = .ok (.aload_n 0, 1) := by decide +kernel
theorem dX3_begin_51 : decode cX3_begin 51 = .ok (.getfield 54, 3) := by decide +kernel
theorem dX3_begin_54 : decode cX3_begin 54 = .ok (.if_icmp .ge 19, 3) := by decide +kernel
theorem dX3_begin_57 : decode cX3_begin 57 = .ok (.aload_n 0, 1) := by decide +kernel
theorem dX3_begin_58 : decode cX3_begin 58 = .ok (.getfield 23, 3) := by decide +kernel
theorem dX3_begin_61 : decode cX3_begin 61 = .ok (.iload_n 3, 1) := by decide +kernel
theorem dX3_begin_62 : decode cX3_begin 62 = .ok (.aaload, 1) := by decide +kernel
theorem dX3_begin_63 : decode cX3_begin 63 = .ok (.iload 4, 2) := by decide +kernel
theorem dX3_begin_65 : decode cX3_begin 65 = .ok (.iconst 0, 1) := by decide +kernel
theorem dX3_begin_66 : decode cX3_begin 66 = .ok (.iastore, 1) := by decide +kernel
theorem dX3_begin_67 : decode cX3_begin 67 = .ok (.iinc 4 1, 3) := by decide +kernel
theorem dX3_begin_70 : decode cX3_begin 70 = .ok (.goto (-22), 3) := by decide +kernel
theorem dX3_begin_73 : decode cX3_begin 73 = .ok (.iinc 3 1, 3) := by decide +kernel
theorem dX3_begin_76 : decode cX3_begin 76 = .ok (.goto (-46), 3) := by decide +kernel
theorem dX3_begin_79 : decode cX3_begin 79 = .ok (.return_, 1) := by decide +kernel
theorem dX3_setCost_0 : decode cX3_setCost 0 = .ok (.aload_n 0, 1) := by decide +kernel
theorem dX3_setCost_1 : decode cX3_setCost 1 = .ok (.iload_n 1, 1) := by decide +kernel
theorem dX3_setCost_2 : decode cX3_setCost 2 = .ok (.invokevirtual 57, 3) := by decide +kernel
theorem dX3_setCost_5 : decode cX3_setCost 5 = .ok (.ifCond .eq 17, 3) := by decide +kernel
theorem dX3_setCost_8 : decode cX3_setCost 8 = .ok (.aload_n 0, 1) := by decide +kernel
theorem dX3_setCost_9 : decode cX3_setCost 9 = .ok (.getfield 15, 3) := by decide +kernel
theorem dX3_setCost_12 : decode cX3_setCost 12 = .ok (.iload_n 1, 1) := by decide +kernel
theorem dX3_setCost_13 : decode cX3_setCost 13 = .ok (.iload_n 2, 1) := by decide +kernel
theorem dX3_setCost_14 : decode cX3_setCost 14 = .ok (.iastore, 1) := by decide +kernel
theorem dX3_setCost_15 : decode cX3_setCost 15 = .ok (.aload_n 0, 1) := by decide +kernel
theorem dX3_setCost_16 : decode cX3_setCost 16 = .ok (.getfield 18, 3) := by decide +kernel
theorem dX3_setCost_19 : decode cX3_setCost 19 = .ok (.iload_n 1, 1) := by decide +kernel
theorem dX3_setCost_20 : decode cX3_setCost 20 = .ok (.iconst 0, 1) := by decide +kernel
theorem dX3_setCost_21 : decode cX3_setCost 21 = .ok (.iastore, 1) := by decide +kernel
theorem dX3_setCost_22 : decode cX3_setCost 22 = .ok (.return_, 1) := by decide +kernel
theorem dX3_setPot_0 : decode cX3_setPot 0 = .ok (.aload_n 0, 1) := by decide +kernel
theorem dX3_setPot_1 : decode cX3_setPot 1 = .ok (.iload_n 1, 1) := by decide +kernel
theorem dX3_setPot_2 : decode cX3_setPot 2 = .ok (.invokevirtual 61, 3) := by decide +kernel
theorem dX3_setPot_5 : decode cX3_setPot 5 = .ok (.ifCond .eq 17, 3) := by decide +kernel
theorem dX3_setPot_8 : decode cX3_setPot 8 = .ok (.aload_n 0, 1) := by decide +kernel
theorem dX3_setPot_9 : decode cX3_setPot 9 = .ok (.getfield 9, 3) := by decide +kernel
theorem dX3_setPot_12 : decode cX3_setPot 12 = .ok (.iload_n 1, 1) := by decide +kernel
theorem dX3_setPot_13 : decode cX3_setPot 13 = .ok (.iload_n 2, 1) := by decide +kernel
theorem dX3_setPot_14 : decode cX3_setPot 14 = .ok (.iastore, 1) := by decide +kernel
theorem dX3_setPot_15 : decode cX3_setPot 15 = .ok (.aload_n 0, 1) := by decide +kernel
theorem dX3_setPot_16 : decode cX3_setPot 16 = .ok (.getfield 26, 3) := by decide +kernel
theorem dX3_setPot_19 : decode cX3_setPot 19 = .ok (.iload_n 1, 1) := by decide +kernel
theorem dX3_setPot_20 : decode cX3_setPot 20 = .ok (.iload_n 3, 1) := by decide +kernel
theorem dX3_setPot_21 : decode cX3_setPot 21 = .ok (.iastore, 1) := by decide +kernel
theorem dX3_setPot_22 : decode cX3_setPot 22 = .ok (.return_, 1) := by decide +kernel
theorem dX3_leftOfCost_0 : decode cX3_leftOfCost 0 = .ok (.aload_n 0, 1) := by decide +kernel
theorem dX3_leftOfCost_1 : decode cX3_leftOfCost 1 = .ok (.iload_n 1, 1) := by decide +kernel
theorem dX3_leftOfCost_2 : decode cX3_leftOfCost 2 = .ok (.invokevirtual 57, 3) := by decide +kernel
theorem dX3_leftOfCost_5 : decode cX3_leftOfCost 5 = .ok (.ifCond .eq 12, 3) := by decide +kernel
theorem dX3_leftOfCost_8 : decode cX3_leftOfCost 8 = .ok (.aload_n 0, 1) := by decide +kernel
theorem dX3_leftOfCost_9 : decode cX3_leftOfCost 9 = .ok (.getfield 15, 3) := by decide +kernel
theorem dX3_leftOfCost_12 : decode cX3_leftOfCost 12 = .ok (.iload_n 1, 1) := by decide +kernel
theorem dX3_leftOfCost_13 : decode cX3_leftOfCost 13 = .ok (.iaload, 1) := by decide +kernel
theorem dX3_leftOfCost_14 : decode cX3_leftOfCost 14 = .ok (.goto 4, 3) := by decide +kernel
theorem dX3_leftOfCost_17 : decode cX3_leftOfCost 17 = .ok (.iconst 0, 1) := by decide +kernel
theorem dX3_leftOfCost_18 : decode cX3_leftOfCost 18 = .ok (.ireturn, 1) := by decide +kernel
theorem dX3_leftOfPot_0 : decode cX3_leftOfPot 0 = .ok (.aload_n 0, 1) := by decide +kernel
theorem dX3_leftOfPot_1 : decode cX3_leftOfPot 1 = .ok (.iload_n 1, 1) := by decide +kernel
theorem dX3_leftOfPot_2 : decode cX3_leftOfPot 2 = .ok (.invokevirtual 61, 3) := by decide +kernel
theorem dX3_leftOfPot_5 : decode cX3_leftOfPot 5 = .ok (.ifCond .eq 12, 3) := by decide +kernel
theorem dX3_leftOfPot_8 : decode cX3_leftOfPot 8 = .ok (.aload_n 0, 1) := by decide +kernel
theorem dX3_leftOfPot_9 : decode cX3_leftOfPot 9 = .ok (.getfield 9, 3) := by decide +kernel
theorem dX3_leftOfPot_12 : decode cX3_leftOfPot 12 = .ok (.iload_n 1, 1) := by decide +kernel
theorem dX3_leftOfPot_13 : decode cX3_leftOfPot 13 = .ok (.iaload, 1) := by decide +kernel
theorem dX3_leftOfPot_14 : decode cX3_leftOfPot 14 = .ok (.goto 4, 3) := by decide +kernel
theorem dX3_leftOfPot_17 : decode cX3_leftOfPot 17 = .ok (.iconst 0, 1) := by decide +kernel
theorem dX3_leftOfPot_18 : decode cX3_leftOfPot 18 = .ok (.ireturn, 1) := by decide +kernel
theorem dX3_share_0 : decode cX3_share 0 = .ok (.aload_n 0, 1) := by decide +kernel
theorem dX3_share_1 : decode cX3_share 1 = .ok (.iload_n 1, 1) := by decide +kernel
theorem dX3_share_2 : decode cX3_share 2 = .ok (.invokevirtual 61, 3) := by decide +kernel
theorem dX3_share_5 : decode cX3_share 5 = .ok (.ifCond .eq 22, 3) := by decide +kernel
theorem dX3_share_8 : decode cX3_share 8 = .ok (.aload_n 0, 1) := by decide +kernel
theorem dX3_share_9 : decode cX3_share 9 = .ok (.iload_n 2, 1) := by decide +kernel
theorem dX3_share_10 : decode cX3_share 10 = .ok (.invokevirtual 57, 3) := by decide +kernel
theorem dX3_share_13 : decode cX3_share 13 = .ok (.ifCond .eq 14, 3) := by decide +kernel
theorem dX3_share_16 : decode cX3_share 16 = .ok (.aload_n 0, 1) := by decide +kernel
theorem dX3_share_17 : decode cX3_share 17 = .ok (.getfield 23, 3) := by decide +kernel
theorem dX3_share_20 : decode cX3_share 20 = .ok (.iload_n 1, 1) := by decide +kernel
theorem dX3_share_21 : decode cX3_share 21 = .ok (.aaload, 1) := by decide +kernel
theorem dX3_share_22 : decode cX3_share 22 = .ok (.iload_n 2, 1) := by decide +kernel
theorem dX3_share_23 : decode cX3_share 23 = .ok (.iaload, 1) := by decide +kernel
theorem dX3_share_24 : decode cX3_share 24 = .ok (.goto 4, 3) := by decide +kernel
theorem dX3_share_27 : decode cX3_share 27 = .ok (.iconst 0, 1) := by decide +kernel
theorem dX3_share_28 : decode cX3_share 28 = .ok (.ireturn, 1) := by decide +kernel
theorem dX3_paidInAll_0 : decode cX3_paidInAll 0 = .ok (.iconst 0, 1) := by decide +kernel
theorem dX3_paidInAll_1 : decode cX3_paidInAll 1 = .ok (.istore_n 1, 1) := by decide +kernel
theorem dX3_paidInAll_2 : decode cX3_paidInAll 2 = .ok (.iconst 0, 1) := by decide +kernel
theorem dX3_paidInAll_3 : decode cX3_paidInAll 3 = .ok (.istore_n 2, 1) := by decide +kernel
theorem dX3_paidInAll_4 : decode cX3_paidInAll 4 = .ok (.iload_n 2, 1) := by decide +kernel
theorem dX3_paidInAll_5 : decode cX3_paidInAll 5 = .ok (.aload_n 0, 1) := by decide +kernel
theorem dX3_paidInAll_6 : decode cX3_paidInAll 6 = .ok (.getfield 54, 3) := by decide +kernel
theorem dX3_paidInAll_9 : decode cX3_paidInAll 9 = .ok (.if_icmp .ge 18, 3) := by decide +kernel
theorem dX3_paidInAll_12 : decode cX3_paidInAll 12 = .ok (.iload_n 1, 1) := by decide +kernel
theorem dX3_paidInAll_13 : decode cX3_paidInAll 13 = .ok (.aload_n 0, 1) := by decide +kernel
theorem dX3_paidInAll_14 : decode cX3_paidInAll 14 = .ok (.getfield 18, 3) := by decide +kernel
theorem dX3_paidInAll_17 : decode cX3_paidInAll 17 = .ok (.iload_n 2, 1) := by decide +kernel
theorem dX3_paidInAll_18 : decode cX3_paidInAll 18 = .ok (.iaload, 1) := by decide +kernel
theorem dX3_paidInAll_19 : decode cX3_paidInAll 19 = .ok (.iadd, 1) := by decide +kernel
theorem dX3_paidInAll_20 : decode cX3_paidInAll 20 = .ok (.istore_n 1, 1) := by decide +kernel
theorem dX3_paidInAll_21 : decode cX3_paidInAll 21 = .ok (.iinc 2 1, 3) := by decide +kernel
theorem dX3_paidInAll_24 : decode cX3_paidInAll 24 = .ok (.goto (-20), 3) := by decide +kernel
theorem dX3_paidInAll_27 : decode cX3_paidInAll 27 = .ok (.iload_n 1, 1) := by decide +kernel
theorem dX3_paidInAll_28 : decode cX3_paidInAll 28 = .ok (.ireturn, 1) := by decide +kernel
theorem dX3_payCosts_0 : decode cX3_payCosts 0 = .ok (.iconst 0, 1) := by decide +kernel
theorem dX3_payCosts_1 : decode cX3_payCosts 1 = .ok (.istore_n 1, 1) := by decide +kernel
theorem dX3_payCosts_2 : decode cX3_payCosts 2 = .ok (.iload_n 1, 1) := by decide +kernel
theorem dX3_payCosts_3 : decode cX3_payCosts 3 = .ok (.aload_n 0, 1) := by decide +kernel
theorem dX3_payCosts_4 : decode cX3_payCosts 4 = .ok (.getfield 54, 3) := by decide +kernel
theorem dX3_payCosts_7 : decode cX3_payCosts 7 = .ok (.if_icmp .ge 35, 3) := by decide +kernel
theorem dX3_payCosts_10 : decode cX3_payCosts 10 = .ok (.iconst 1, 1) := by decide +kernel
theorem dX3_payCosts_11 : decode cX3_payCosts 11 = .ok (.istore_n 2, 1) := by decide +kernel
theorem dX3_payCosts_12 : decode cX3_payCosts 12 = .ok (.iconst 0, 1) := by decide +kernel
theorem dX3_payCosts_13 : decode cX3_payCosts 13 = .ok (.istore_n 3, 1) := by decide +kernel
theorem dX3_payCosts_14 : decode cX3_payCosts 14 = .ok (.iload_n 3, 1) := by decide +kernel
theorem dX3_payCosts_15 : decode cX3_payCosts 15 = .ok (.ldc 64, 2) := by decide +kernel
theorem dX3_payCosts_17 : decode cX3_payCosts 17 = .ok (.if_icmp .ge 19, 3) := by decide +kernel
theorem dX3_payCosts_20 : decode cX3_payCosts 20 = .ok (.iload_n 2, 1) := by decide +kernel
theorem dX3_payCosts_21 : decode cX3_payCosts 21 = .ok (.ifCond .eq 15, 3) := by decide +kernel
theorem dX3_payCosts_24 : decode cX3_payCosts 24 = .ok (.aload_n 0, 1) := by decide +kernel
theorem dX3_payCosts_25 : decode cX3_payCosts 25 = .ok (.iload_n 1, 1) := by decide +kernel
theorem dX3_payCosts_26 : decode cX3_payCosts 26 = .ok (.invokevirtual 65, 3) := by decide +kernel
theorem dX3_payCosts_29 : decode cX3_payCosts 29 = .ok (.istore_n 2, 1) := by decide +kernel
theorem dX3_payCosts_30 : decode cX3_payCosts 30 = .ok (.iinc 3 1, 3) := by decide +kernel
theorem dX3_payCosts_33 : decode cX3_payCosts 33 = .ok (.goto (-19), 3) := by decide +kernel
theorem dX3_payCosts_36 : decode cX3_payCosts 36 = .ok (.iinc 1 1, 3) := by decide +kernel
theorem dX3_payCosts_39 : decode cX3_payCosts 39 = .ok (.goto (-37), 3) := by decide +kernel
theorem dX3_payCosts_42 : decode cX3_payCosts 42 = .ok (.return_, 1) := by decide +kernel
theorem dX3_drawOnPots_0 : decode cX3_drawOnPots 0 = .ok (.iconst 0, 1) := by decide +kernel
theorem dX3_drawOnPots_1 : decode cX3_drawOnPots 1 = .ok (.istore_n 1, 1) := by decide +kernel
theorem dX3_drawOnPots_2 : decode cX3_drawOnPots 2 = .ok (.iload_n 1, 1) := by decide +kernel
theorem dX3_drawOnPots_3 : decode cX3_drawOnPots 3 = .ok (.aload_n 0, 1) := by decide +kernel
theorem dX3_drawOnPots_4 : decode cX3_drawOnPots 4 = .ok (.getfield 50, 3) := by decide +kernel
theorem dX3_drawOnPots_7 : decode cX3_drawOnPots 7 = .ok (.if_icmp .ge 35, 3) := by decide +kernel
theorem dX3_drawOnPots_10 : decode cX3_drawOnPots 10 = .ok (.iconst 1, 1) := by decide +kernel
theorem dX3_drawOnPots_11 : decode cX3_drawOnPots 11 = .ok (.istore_n 2, 1) := by decide +kernel
theorem dX3_drawOnPots_12 : decode cX3_drawOnPots 12 = .ok (.iconst 0, 1) := by decide +kernel
theorem dX3_drawOnPots_13 : decode cX3_drawOnPots 13 = .ok (.istore_n 3, 1) := by decide +kernel
theorem dX3_drawOnPots_14 : decode cX3_drawOnPots 14 = .ok (.iload_n 3, 1) := by decide +kernel
theorem dX3_drawOnPots_15 : decode cX3_drawOnPots 15 = .ok (.ldc 64, 2) := by decide +kernel
theorem dX3_drawOnPots_17 : decode cX3_drawOnPots 17 = .ok (.if_icmp .ge 19, 3) := by decide +kernel
theorem dX3_drawOnPots_20 : decode cX3_drawOnPots 20 = .ok (.iload_n 2, 1) := by decide +kernel
theorem dX3_drawOnPots_21 : decode cX3_drawOnPots 21 = .ok (.ifCond .eq 15, 3) := by decide +kernel
theorem dX3_drawOnPots_24 : decode cX3_drawOnPots 24 = .ok (.aload_n 0, 1) := by decide +kernel
theorem dX3_drawOnPots_25 : decode cX3_drawOnPots 25 = .ok (.iload_n 1, 1) := by decide +kernel
theorem dX3_drawOnPots_26 : decode cX3_drawOnPots 26 = .ok (.invokevirtual 68, 3) := by decide +kernel
theorem dX3_drawOnPots_29 : decode cX3_drawOnPots 29 = .ok (.istore_n 2, 1) := by decide +kernel
theorem dX3_drawOnPots_30 : decode cX3_drawOnPots 30 = .ok (.iinc 3 1, 3) := by decide +kernel
theorem dX3_drawOnPots_33 : decode cX3_drawOnPots 33 = .ok (.goto (-19), 3) := by decide +kernel
theorem dX3_drawOnPots_36 : decode cX3_drawOnPots 36 = .ok (.iinc 1 1, 3) := by decide +kernel
theorem dX3_drawOnPots_39 : decode cX3_drawOnPots 39 = .ok (.goto (-37), 3) := by decide +kernel
theorem dX3_drawOnPots_42 : decode cX3_drawOnPots 42 = .ok (.return_, 1) := by decide +kernel
theorem dX3_spreadCosts_0 : decode cX3_spreadCosts 0 = .ok (.iconst 0, 1) := by decide +kernel
theorem dX3_spreadCosts_1 : decode cX3_spreadCosts 1 = .ok (.istore_n 1, 1) := by decide +kernel
theorem dX3_spreadCosts_2 : decode cX3_spreadCosts 2 = .ok (.iload_n 1, 1) := by decide +kernel
theorem dX3_spreadCosts_3 : decode cX3_spreadCosts 3 = .ok (.aload_n 0, 1) := by decide +kernel
theorem dX3_spreadCosts_4 : decode cX3_spreadCosts 4 = .ok (.getfield 54, 3) := by decide +kernel
theorem dX3_spreadCosts_7 : decode cX3_spreadCosts 7 = .ok (.if_icmp .ge 63, 3) := by decide +kernel
theorem dX3_spreadCosts_10 : decode cX3_spreadCosts 10 = .ok (.iconst 0, 1) := by decide +kernel
theorem dX3_spreadCosts_11 : decode cX3_spreadCosts 11 = .ok (.istore_n 2, 1) := by decide +kernel
theorem dX3_spreadCosts_12 : decode cX3_spreadCosts 12 = .ok (.iload_n 2, 1) := by decide +kernel
theorem dX3_spreadCosts_13 : decode cX3_spreadCosts 13 = .ok (.aload_n 0, 1) := by decide +kernel
theorem dX3_spreadCosts_14 : decode cX3_spreadCosts 14 = .ok (.getfield 50, 3) := by decide +kernel
theorem dX3_spreadCosts_17 : decode cX3_spreadCosts 17 = .ok (.if_icmp .ge 47, 3) := by decide +kernel
theorem dX3_spreadCosts_20 : decode cX3_spreadCosts 20 = .ok (.aload_n 0, 1) := by decide +kernel
theorem dX3_spreadCosts_21 : decode cX3_spreadCosts 21 = .ok (.getfield 26, 3) := by decide +kernel
theorem dX3_spreadCosts_24 : decode cX3_spreadCosts 24 = .ok (.iload_n 2, 1) := by decide +kernel
theorem dX3_spreadCosts_25 : decode cX3_spreadCosts 25 = .ok (.iaload, 1) := by decide +kernel
theorem dX3_spreadCosts_26 : decode cX3_spreadCosts 26 = .ok (.iload_n 1, 1) := by decide +kernel
theorem dX3_spreadCosts_27 : decode cX3_spreadCosts 27 = .ok (.invokestatic 71, 3) := by decide +kernel
theorem dX3_spreadCosts_30 : decode cX3_spreadCosts 30 = .ok (.istore_n 3, 1) := by decide +kernel
theorem dX3_spreadCosts_31 : decode cX3_spreadCosts 31 = .ok (.iconst 0, 1) := by decide +kernel
theorem dX3_spreadCosts_32 : decode cX3_spreadCosts 32 = .ok (.istore 4, 2) := by decide +kernel
theorem dX3_spreadCosts_34 : decode cX3_spreadCosts 34 = .ok (.iload 4, 2) := by decide +kernel
theorem dX3_spreadCosts_36 : decode cX3_spreadCosts 36 = .ok (.ldc 64, 2) := by decide +kernel
theorem dX3_spreadCosts_38 : decode cX3_spreadCosts 38 = .ok (.if_icmp .ge 20, 3) := by decide +kernel
theorem dX3_spreadCosts_41 : decode cX3_spreadCosts 41 = .ok (.iload_n 3, 1) := by decide +kernel
theorem dX3_spreadCosts_42 : decode cX3_spreadCosts 42 = .ok (.ifCond .eq 16, 3) := by decide +kernel
theorem dX3_spreadCosts_45 : decode cX3_spreadCosts 45 = .ok (.aload_n 0, 1) := by decide +kernel
theorem dX3_spreadCosts_46 : decode cX3_spreadCosts 46 = .ok (.iload_n 2, 1) := by decide +kernel
theorem dX3_spreadCosts_47 : decode cX3_spreadCosts 47 = .ok (.iload_n 1, 1) := by decide +kernel
theorem dX3_spreadCosts_48 : decode cX3_spreadCosts 48 = .ok (.invokevirtual 75, 3) := by decide +kernel
theorem dX3_spreadCosts_51 : decode cX3_spreadCosts 51 = .ok (.istore_n 3, 1) := by decide +kernel
theorem dX3_spreadCosts_52 : decode cX3_spreadCosts 52 = .ok (.iinc 4 1, 3) := by decide +kernel
theorem dX3_spreadCosts_55 : decode cX3_spreadCosts 55 = .ok (.goto (-21), 3) := by decide +kernel
theorem dX3_spreadCosts_58 : decode cX3_spreadCosts 58 = .ok (.iinc 2 1, 3) := by decide +kernel
theorem dX3_spreadCosts_61 : decode cX3_spreadCosts 61 = .ok (.goto (-49), 3) := by decide +kernel
theorem dX3_spreadCosts_64 : decode cX3_spreadCosts 64 = .ok (.iinc 1 1, 3) := by decide +kernel
theorem dX3_spreadCosts_67 : decode cX3_spreadCosts 67 = .ok (.goto (-65), 3) := by decide +kernel
theorem dX3_spreadCosts_70 : decode cX3_spreadCosts 70 = .ok (.return_, 1) := by decide +kernel
theorem dX3_payMoreOf_0 : decode cX3_payMoreOf 0 = .ok (.aload_n 0, 1) := by decide +kernel
theorem dX3_payMoreOf_1 : decode cX3_payMoreOf 1 = .ok (.iload_n 1, 1) := by decide +kernel
theorem dX3_payMoreOf_2 : decode cX3_payMoreOf 2 = .ok (.invokevirtual 78, 3) := by decide +kernel
theorem dX3_payMoreOf_5 : decode cX3_payMoreOf 5 = .ok (.ifCond .gt 5, 3) := by decide +kernel
theorem dX3_payMoreOf_8 : decode cX3_payMoreOf 8 = .ok (.iconst 0, 1) := by decide +kernel
theorem dX3_payMoreOf_9 : decode cX3_payMoreOf 9 = .ok (.ireturn, 1) := by decide +kernel
theorem dX3_payMoreOf_10 : decode cX3_payMoreOf 10 = .ok (.aload_n 0, 1) := by decide +kernel
theorem dX3_payMoreOf_11 : decode cX3_payMoreOf 11 = .ok (.aload_n 0, 1) := by decide +kernel
theorem dX3_payMoreOf_12 : decode cX3_payMoreOf 12 = .ok (.invokevirtual 82, 3) := by decide +kernel
theorem dX3_payMoreOf_15 : decode cX3_payMoreOf 15 = .ok (.aload_n 0, 1) := by decide +kernel
theorem dX3_payMoreOf_16 : decode cX3_payMoreOf 16 = .ok (.aload_n 0, 1) := by decide +kernel
theorem dX3_payMoreOf_17 : decode cX3_payMoreOf 17 = .ok (.getfield 26, 3) := by decide +kernel
theorem dX3_payMoreOf_20 : decode cX3_payMoreOf 20 = .ok (.iload_n 1, 1) := by decide +kernel
theorem dX3_payMoreOf_21 : decode cX3_payMoreOf 21 = .ok (.invokevirtual 86, 3) := by decide +kernel
theorem dX3_payMoreOf_24 : decode cX3_payMoreOf 24 = .ok (.iconst 0, 1) := by decide +kernel
theorem dX3_payMoreOf_25 : decode cX3_payMoreOf 25 = .ok (.invokevirtual 90, 3) := by decide +kernel
theorem dX3_payMoreOf_28 : decode cX3_payMoreOf 28 = .ok (.istore_n 2, 1) := by decide +kernel
theorem dX3_payMoreOf_29 : decode cX3_payMoreOf 29 = .ok (.iload_n 2, 1) := by decide +kernel
theorem dX3_payMoreOf_30 : decode cX3_payMoreOf 30 = .ok (.iconst (-1), 1) := by decide +kernel
theorem dX3_payMoreOf_31 : decode cX3_payMoreOf 31 = .ok (.if_icmp .ne 5, 3) := by decide +kernel
theorem dX3_payMoreOf_34 : decode cX3_payMoreOf 34 = .ok (.iconst 0, 1) := by decide +kernel
theorem dX3_payMoreOf_35 : decode cX3_payMoreOf 35 = .ok (.ireturn, 1) := by decide +kernel
theorem dX3_payMoreOf_36 : decode cX3_payMoreOf 36 = .ok (.aload_n 0, 1) := by decide +kernel
theorem dX3_payMoreOf_37 : decode cX3_payMoreOf 37 = .ok (.iload_n 2, 1) := by decide +kernel
theorem dX3_payMoreOf_38 : decode cX3_payMoreOf 38 = .ok (.invokevirtual 94, 3) := by decide +kernel
theorem dX3_payMoreOf_41 : decode cX3_payMoreOf 41 = .ok (.istore_n 3, 1) := by decide +kernel
theorem dX3_payMoreOf_42 : decode cX3_payMoreOf 42 = .ok (.aload_n 0, 1) := by decide +kernel
theorem dX3_payMoreOf_43 : decode cX3_payMoreOf 43 = .ok (.iload_n 2, 1) := by decide +kernel
theorem dX3_payMoreOf_44 : decode cX3_payMoreOf 44 = .ok (.aload_n 0, 1) := by decide +kernel
theorem dX3_payMoreOf_45 : decode cX3_payMoreOf 45 = .ok (.iload_n 1, 1) := by decide +kernel
theorem dX3_payMoreOf_46 : decode cX3_payMoreOf 46 = .ok (.invokevirtual 78, 3) := by decide +kernel
theorem dX3_payMoreOf_49 : decode cX3_payMoreOf 49 = .ok (.aload_n 0, 1) := by decide +kernel
theorem dX3_payMoreOf_50 : decode cX3_payMoreOf 50 = .ok (.iload_n 3, 1) := by decide +kernel
theorem dX3_payMoreOf_51 : decode cX3_payMoreOf 51 = .ok (.invokevirtual 97, 3) := by decide +kernel
theorem dX3_payMoreOf_54 : decode cX3_payMoreOf 54 = .ok (.invokestatic 41, 3) := by decide +kernel
theorem dX3_payMoreOf_57 : decode cX3_payMoreOf 57 = .ok (.invokevirtual 100, 3) := by decide +kernel
theorem dX3_payMoreOf_60 : decode cX3_payMoreOf 60 = .ok (.istore 4, 2) := by decide +kernel
theorem dX3_payMoreOf_62 : decode cX3_payMoreOf 62 = .ok (.aload_n 0, 1) := by decide +kernel
theorem dX3_payMoreOf_63 : decode cX3_payMoreOf 63 = .ok (.iload_n 2, 1) := by decide +kernel
theorem dX3_payMoreOf_64 : decode cX3_payMoreOf 64 = .ok (.iload 4, 2) := by decide +kernel
theorem dX3_payMoreOf_66 : decode cX3_payMoreOf 66 = .ok (.invokevirtual 103, 3) := by decide +kernel
theorem dX3_payMoreOf_69 : decode cX3_payMoreOf 69 = .ok (.aload_n 0, 1) := by decide +kernel
theorem dX3_payMoreOf_70 : decode cX3_payMoreOf 70 = .ok (.iload_n 2, 1) := by decide +kernel
theorem dX3_payMoreOf_71 : decode cX3_payMoreOf 71 = .ok (.iload_n 1, 1) := by decide +kernel
theorem dX3_payMoreOf_72 : decode cX3_payMoreOf 72 = .ok (.iload 4, 2) := by decide +kernel
theorem dX3_payMoreOf_74 : decode cX3_payMoreOf 74 = .ok (.invokevirtual 107, 3) := by decide +kernel
theorem dX3_payMoreOf_77 : decode cX3_payMoreOf 77 = .ok (.aload_n 0, 1) := by decide +kernel
theorem dX3_payMoreOf_78 : decode cX3_payMoreOf 78 = .ok (.iload_n 3, 1) := by decide +kernel
theorem dX3_payMoreOf_79 : decode cX3_payMoreOf 79 = .ok (.iload 4, 2) := by decide +kernel
theorem dX3_payMoreOf_81 : decode cX3_payMoreOf 81 = .ok (.ineg, 1) := by decide +kernel
theorem dX3_payMoreOf_82 : decode cX3_payMoreOf 82 = .ok (.invokevirtual 111, 3) := by decide +kernel
theorem dX3_payMoreOf_85 : decode cX3_payMoreOf 85 = .ok (.aload_n 0, 1) := by decide +kernel
theorem dX3_payMoreOf_86 : decode cX3_payMoreOf 86 = .ok (.iload_n 1, 1) := by decide +kernel
theorem dX3_payMoreOf_87 : decode cX3_payMoreOf 87 = .ok (.iload 4, 2) := by decide +kernel
theorem dX3_payMoreOf_89 : decode cX3_payMoreOf 89 = .ok (.invokevirtual 114, 3) := by decide +kernel
theorem dX3_payMoreOf_92 : decode cX3_payMoreOf 92 = .ok (.iload 4, 2) := by decide +kernel
theorem dX3_payMoreOf_94 : decode cX3_payMoreOf 94 = .ok (.ifCond .le 7, 3) := by decide +kernel
theorem dX3_payMoreOf_97 : decode cX3_payMoreOf 97 = .ok (.iconst 1, 1) := by decide +kernel
theorem dX3_payMoreOf_98 : decode cX3_payMoreOf 98 = .ok (.goto 4, 3) := by decide +kernel
theorem dX3_payMoreOf_101 : decode cX3_payMoreOf 101 = .ok (.iconst 0, 1) := by decide +kernel
theorem dX3_payMoreOf_102 : decode cX3_payMoreOf 102 = .ok (.ireturn, 1) := by decide +kernel
theorem dX3_drawMoreOn_0 : decode cX3_drawMoreOn 0 = .ok (.aload_n 0, 1) := by decide +kernel
theorem dX3_drawMoreOn_1 : decode cX3_drawMoreOn 1 = .ok (.iload_n 1, 1) := by decide +kernel
theorem dX3_drawMoreOn_2 : decode cX3_drawMoreOn 2 = .ok (.invokevirtual 97, 3) := by decide +kernel
theorem dX3_drawMoreOn_5 : decode cX3_drawMoreOn 5 = .ok (.ifCond .gt 5, 3) := by decide +kernel
theorem dX3_drawMoreOn_8 : decode cX3_drawMoreOn 8 = .ok (.iconst 0, 1) := by decide +kernel
theorem dX3_drawMoreOn_9 : decode cX3_drawMoreOn 9 = .ok (.ireturn, 1) := by decide +kernel
theorem dX3_drawMoreOn_10 : decode cX3_drawMoreOn 10 = .ok (.aload_n 0, 1) := by decide +kernel
theorem dX3_drawMoreOn_11 : decode cX3_drawMoreOn 11 = .ok (.iconst 1, 1) := by decide +kernel
theorem dX3_drawMoreOn_12 : decode cX3_drawMoreOn 12 = .ok (.iload_n 1, 1) := by decide +kernel
theorem dX3_drawMoreOn_13 : decode cX3_drawMoreOn 13 = .ok (.ishl, 1) := by decide +kernel
theorem dX3_drawMoreOn_14 : decode cX3_drawMoreOn 14 = .ok (.aload_n 0, 1) := by decide +kernel
theorem dX3_drawMoreOn_15 : decode cX3_drawMoreOn 15 = .ok (.iload_n 1, 1) := by decide +kernel
theorem dX3_drawMoreOn_16 : decode cX3_drawMoreOn 16 = .ok (.invokevirtual 117, 3) := by decide +kernel
theorem dX3_drawMoreOn_19 : decode cX3_drawMoreOn 19 = .ok (.iconst 0, 1) := by decide +kernel
theorem dX3_drawMoreOn_20 : decode cX3_drawMoreOn 20 = .ok (.invokevirtual 90, 3) := by decide +kernel
theorem dX3_drawMoreOn_23 : decode cX3_drawMoreOn 23 = .ok (.istore_n 2, 1) := by decide +kernel
theorem dX3_drawMoreOn_24 : decode cX3_drawMoreOn 24 = .ok (.iload_n 2, 1) := by decide +kernel
theorem dX3_drawMoreOn_25 : decode cX3_drawMoreOn 25 = .ok (.iconst (-1), 1) := by decide +kernel
theorem dX3_drawMoreOn_26 : decode cX3_drawMoreOn 26 = .ok (.if_icmp .ne 5, 3) := by decide +kernel
theorem dX3_drawMoreOn_29 : decode cX3_drawMoreOn 29 = .ok (.iconst 0, 1) := by decide +kernel
theorem dX3_drawMoreOn_30 : decode cX3_drawMoreOn 30 = .ok (.ireturn, 1) := by decide +kernel
theorem dX3_drawMoreOn_31 : decode cX3_drawMoreOn 31 = .ok (.aload_n 0, 1) := by decide +kernel
theorem dX3_drawMoreOn_32 : decode cX3_drawMoreOn 32 = .ok (.iload_n 2, 1) := by decide +kernel
theorem dX3_drawMoreOn_33 : decode cX3_drawMoreOn 33 = .ok (.aload_n 0, 1) := by decide +kernel
theorem dX3_drawMoreOn_34 : decode cX3_drawMoreOn 34 = .ok (.iload_n 1, 1) := by decide +kernel
theorem dX3_drawMoreOn_35 : decode cX3_drawMoreOn 35 = .ok (.invokevirtual 97, 3) := by decide +kernel
theorem dX3_drawMoreOn_38 : decode cX3_drawMoreOn 38 = .ok (.invokevirtual 100, 3) := by decide +kernel
theorem dX3_drawMoreOn_41 : decode cX3_drawMoreOn 41 = .ok (.istore_n 3, 1) := by decide +kernel
theorem dX3_drawMoreOn_42 : decode cX3_drawMoreOn 42 = .ok (.aload_n 0, 1) := by decide +kernel
theorem dX3_drawMoreOn_43 : decode cX3_drawMoreOn 43 = .ok (.iload_n 2, 1) := by decide +kernel
theorem dX3_drawMoreOn_44 : decode cX3_drawMoreOn 44 = .ok (.iload_n 3, 1) := by decide +kernel
theorem dX3_drawMoreOn_45 : decode cX3_drawMoreOn 45 = .ok (.invokevirtual 103, 3) := by decide +kernel
theorem dX3_drawMoreOn_48 : decode cX3_drawMoreOn 48 = .ok (.aload_n 0, 1) := by decide +kernel
theorem dX3_drawMoreOn_49 : decode cX3_drawMoreOn 49 = .ok (.iload_n 1, 1) := by decide +kernel
theorem dX3_drawMoreOn_50 : decode cX3_drawMoreOn 50 = .ok (.iload_n 3, 1) := by decide +kernel
theorem dX3_drawMoreOn_51 : decode cX3_drawMoreOn 51 = .ok (.ineg, 1) := by decide +kernel
theorem dX3_drawMoreOn_52 : decode cX3_drawMoreOn 52 = .ok (.invokevirtual 111, 3) := by decide +kernel
theorem dX3_drawMoreOn_55 : decode cX3_drawMoreOn 55 = .ok (.aload_n 0, 1) := by decide +kernel
theorem dX3_drawMoreOn_56 : decode cX3_drawMoreOn 56 = .ok (.iload_n 2, 1) := by decide +kernel
theorem dX3_drawMoreOn_57 : decode cX3_drawMoreOn 57 = .ok (.iload_n 3, 1) := by decide +kernel
theorem dX3_drawMoreOn_58 : decode cX3_drawMoreOn 58 = .ok (.invokevirtual 111, 3) := by decide +kernel
theorem dX3_drawMoreOn_61 : decode cX3_drawMoreOn 61 = .ok (.iload_n 3, 1) := by decide +kernel
theorem dX3_drawMoreOn_62 : decode cX3_drawMoreOn 62 = .ok (.ifCond .le 7, 3) := by decide +kernel
theorem dX3_drawMoreOn_65 : decode cX3_drawMoreOn 65 = .ok (.iconst 1, 1) := by decide +kernel
theorem dX3_drawMoreOn_66 : decode cX3_drawMoreOn 66 = .ok (.goto 4, 3) := by decide +kernel
theorem dX3_drawMoreOn_69 : decode cX3_drawMoreOn 69 = .ok (.iconst 0, 1) := by decide +kernel
theorem dX3_drawMoreOn_70 : decode cX3_drawMoreOn 70 = .ok (.ireturn, 1) := by decide +kernel
theorem dX3_payMoreFrom_0 : decode cX3_payMoreFrom 0 = .ok (.aload_n 0, 1) := by decide +kernel
theorem dX3_payMoreFrom_1 : decode cX3_payMoreFrom 1 = .ok (.aload_n 0, 1) := by decide +kernel
theorem dX3_payMoreFrom_2 : decode cX3_payMoreFrom 2 = .ok (.iload_n 1, 1) := by decide +kernel
theorem dX3_payMoreFrom_3 : decode cX3_payMoreFrom 3 = .ok (.invokevirtual 117, 3) := by decide +kernel
theorem dX3_payMoreFrom_6 : decode cX3_payMoreFrom 6 = .ok (.aload_n 0, 1) := by decide +kernel
theorem dX3_payMoreFrom_7 : decode cX3_payMoreFrom 7 = .ok (.aload_n 0, 1) := by decide +kernel
theorem dX3_payMoreFrom_8 : decode cX3_payMoreFrom 8 = .ok (.getfield 29, 3) := by decide +kernel
theorem dX3_payMoreFrom_11 : decode cX3_payMoreFrom 11 = .ok (.iload_n 2, 1) := by decide +kernel
theorem dX3_payMoreFrom_12 : decode cX3_payMoreFrom 12 = .ok (.invokevirtual 86, 3) := by decide +kernel
theorem dX3_payMoreFrom_15 : decode cX3_payMoreFrom 15 = .ok (.iand, 1) := by decide +kernel
theorem dX3_payMoreFrom_16 : decode cX3_payMoreFrom 16 = .ok (.iconst 1, 1) := by decide +kernel
theorem dX3_payMoreFrom_17 : decode cX3_payMoreFrom 17 = .ok (.iload_n 1, 1) := by decide +kernel
theorem dX3_payMoreFrom_18 : decode cX3_payMoreFrom 18 = .ok (.ishl, 1) := by decide +kernel
theorem dX3_payMoreFrom_19 : decode cX3_payMoreFrom 19 = .ok (.iload_n 2, 1) := by decide +kernel
theorem dX3_payMoreFrom_20 : decode cX3_payMoreFrom 20 = .ok (.iconst 1, 1) := by decide +kernel
theorem dX3_payMoreFrom_21 : decode cX3_payMoreFrom 21 = .ok (.iadd, 1) := by decide +kernel
theorem dX3_payMoreFrom_22 : decode cX3_payMoreFrom 22 = .ok (.invokevirtual 90, 3) := by decide +kernel
theorem dX3_payMoreFrom_25 : decode cX3_payMoreFrom 25 = .ok (.istore_n 3, 1) := by decide +kernel
theorem dX3_payMoreFrom_26 : decode cX3_payMoreFrom 26 = .ok (.iload_n 3, 1) := by decide +kernel
theorem dX3_payMoreFrom_27 : decode cX3_payMoreFrom 27 = .ok (.iconst (-1), 1) := by decide +kernel
theorem dX3_payMoreFrom_28 : decode cX3_payMoreFrom 28 = .ok (.if_icmp .ne 5, 3) := by decide +kernel
theorem dX3_payMoreFrom_31 : decode cX3_payMoreFrom 31 = .ok (.iconst 0, 1) := by decide +kernel
theorem dX3_payMoreFrom_32 : decode cX3_payMoreFrom 32 = .ok (.ireturn, 1) := by decide +kernel
theorem dX3_payMoreFrom_33 : decode cX3_payMoreFrom 33 = .ok (.aload_n 0, 1) := by decide +kernel
theorem dX3_payMoreFrom_34 : decode cX3_payMoreFrom 34 = .ok (.iload_n 3, 1) := by decide +kernel
theorem dX3_payMoreFrom_35 : decode cX3_payMoreFrom 35 = .ok (.invokevirtual 94, 3) := by decide +kernel
theorem dX3_payMoreFrom_38 : decode cX3_payMoreFrom 38 = .ok (.istore 4, 2) := by decide +kernel
theorem dX3_payMoreFrom_40 : decode cX3_payMoreFrom 40 = .ok (.aload_n 0, 1) := by decide +kernel
theorem dX3_payMoreFrom_41 : decode cX3_payMoreFrom 41 = .ok (.iload_n 3, 1) := by decide +kernel
theorem dX3_payMoreFrom_42 : decode cX3_payMoreFrom 42 = .ok (.aload_n 0, 1) := by decide +kernel
theorem dX3_payMoreFrom_43 : decode cX3_payMoreFrom 43 = .ok (.iload 4, 2) := by decide +kernel
theorem dX3_payMoreFrom_45 : decode cX3_payMoreFrom 45 = .ok (.iload_n 2, 1) := by decide +kernel
theorem dX3_payMoreFrom_46 : decode cX3_payMoreFrom 46 = .ok (.invokevirtual 120, 3) := by decide +kernel
theorem dX3_payMoreFrom_49 : decode cX3_payMoreFrom 49 = .ok (.invokevirtual 100, 3) := by decide +kernel
theorem dX3_payMoreFrom_52 : decode cX3_payMoreFrom 52 = .ok (.istore 5, 2) := by decide +kernel
theorem dX3_payMoreFrom_54 : decode cX3_payMoreFrom 54 = .ok (.aload_n 0, 1) := by decide +kernel
theorem dX3_payMoreFrom_55 : decode cX3_payMoreFrom 55 = .ok (.iload_n 3, 1) := by decide +kernel
theorem dX3_payMoreFrom_56 : decode cX3_payMoreFrom 56 = .ok (.iload 5, 2) := by decide +kernel
theorem dX3_payMoreFrom_58 : decode cX3_payMoreFrom 58 = .ok (.invokevirtual 103, 3) := by decide +kernel
theorem dX3_payMoreFrom_61 : decode cX3_payMoreFrom 61 = .ok (.aload_n 0, 1) := by decide +kernel
theorem dX3_payMoreFrom_62 : decode cX3_payMoreFrom 62 = .ok (.iload 4, 2) := by decide +kernel
theorem dX3_payMoreFrom_64 : decode cX3_payMoreFrom 64 = .ok (.iload_n 2, 1) := by decide +kernel
theorem dX3_payMoreFrom_65 : decode cX3_payMoreFrom 65 = .ok (.iload 5, 2) := by decide +kernel
theorem dX3_payMoreFrom_67 : decode cX3_payMoreFrom 67 = .ok (.ineg, 1) := by decide +kernel
theorem dX3_payMoreFrom_68 : decode cX3_payMoreFrom 68 = .ok (.invokevirtual 107, 3) := by decide +kernel
theorem dX3_payMoreFrom_71 : decode cX3_payMoreFrom 71 = .ok (.aload_n 0, 1) := by decide +kernel
theorem dX3_payMoreFrom_72 : decode cX3_payMoreFrom 72 = .ok (.iload_n 3, 1) := by decide +kernel
theorem dX3_payMoreFrom_73 : decode cX3_payMoreFrom 73 = .ok (.iload_n 2, 1) := by decide +kernel
theorem dX3_payMoreFrom_74 : decode cX3_payMoreFrom 74 = .ok (.iload 5, 2) := by decide +kernel
theorem dX3_payMoreFrom_76 : decode cX3_payMoreFrom 76 = .ok (.invokevirtual 107, 3) := by decide +kernel
theorem dX3_payMoreFrom_79 : decode cX3_payMoreFrom 79 = .ok (.iload 5, 2) := by decide +kernel
theorem dX3_payMoreFrom_81 : decode cX3_payMoreFrom 81 = .ok (.ifCond .le 7, 3) := by decide +kernel
theorem dX3_payMoreFrom_84 : decode cX3_payMoreFrom 84 = .ok (.iconst 1, 1) := by decide +kernel
theorem dX3_payMoreFrom_85 : decode cX3_payMoreFrom 85 = .ok (.goto 4, 3) := by decide +kernel
theorem dX3_payMoreFrom_88 : decode cX3_payMoreFrom 88 = .ok (.iconst 0, 1) := by decide +kernel
theorem dX3_payMoreFrom_89 : decode cX3_payMoreFrom 89 = .ok (.ireturn, 1) := by decide +kernel
theorem dX3_findChain_0 : decode cX3_findChain 0 = .ok (.iconst 0, 1) := by decide +kernel
theorem dX3_findChain_1 : decode cX3_findChain 1 = .ok (.istore 4, 2) := by decide +kernel
theorem dX3_findChain_3 : decode cX3_findChain 3 = .ok (.iconst 0, 1) := by decide +kernel
theorem dX3_findChain_4 : decode cX3_findChain 4 = .ok (.istore 5, 2) := by decide +kernel
theorem dX3_findChain_6 : decode cX3_findChain 6 = .ok (.iload 5, 2) := by decide +kernel
theorem dX3_findChain_8 : decode cX3_findChain 8 = .ok (.aload_n 0, 1) := by decide +kernel
theorem dX3_findChain_9 : decode cX3_findChain 9 = .ok (.getfield 50, 3) := by decide +kernel
theorem dX3_findChain_12 : decode cX3_findChain 12 = .ok (.if_icmp .ge 53, 3) := by decide +kernel
theorem dX3_findChain_15 : decode cX3_findChain 15 = .ok (.aload_n 0, 1) := by decide +kernel
theorem dX3_findChain_16 : decode cX3_findChain 16 = .ok (.getfield 35, 3) := by decide +kernel
theorem dX3_findChain_19 : decode cX3_findChain 19 = .ok (.iload 5, 2) := by decide +kernel
theorem dX3_findChain_21 : decode cX3_findChain 21 = .ok (.iconst (-1), 1) := by decide +kernel
theorem dX3_findChain_22 : decode cX3_findChain 22 = .ok (.iastore, 1) := by decide +kernel
theorem dX3_findChain_23 : decode cX3_findChain 23 = .ok (.aload_n 0, 1) := by decide +kernel
theorem dX3_findChain_24 : decode cX3_findChain 24 = .ok (.getfield 38, 3) := by decide +kernel
theorem dX3_findChain_27 : decode cX3_findChain 27 = .ok (.iload 5, 2) := by decide +kernel
theorem dX3_findChain_29 : decode cX3_findChain 29 = .ok (.iconst (-1), 1) := by decide +kernel
theorem dX3_findChain_30 : decode cX3_findChain 30 = .ok (.iastore, 1) := by decide +kernel
theorem dX3_findChain_31 : decode cX3_findChain 31 = .ok (.iload_n 1, 1) := by decide +kernel
theorem dX3_findChain_32 : decode cX3_findChain 32 = .ok (.iload 5, 2) := by decide +kernel
theorem dX3_findChain_34 : decode cX3_findChain 34 = .ok (.invokestatic 71, 3) := by decide +kernel
theorem dX3_findChain_37 : decode cX3_findChain 37 = .ok (.ifCond .eq 22, 3) := by decide +kernel
theorem dX3_findChain_40 : decode cX3_findChain 40 = .ok (.iload 4, 2) := by decide +kernel
theorem dX3_findChain_42 : decode cX3_findChain 42 = .ok (.bipush 12, 2) := by decide +kernel
theorem dX3_findChain_44 : decode cX3_findChain 44 = .ok (.if_icmp .ge 15, 3) := by decide +kernel
theorem dX3_findChain_47 : decode cX3_findChain 47 = .ok (.aload_n 0, 1) := by decide +kernel
theorem dX3_findChain_48 : decode cX3_findChain 48 = .ok (.getfield 32, 3) := by decide +kernel
theorem dX3_findChain_51 : decode cX3_findChain 51 = .ok (.iload 4, 2) := by decide +kernel
theorem dX3_findChain_53 : decode cX3_findChain 53 = .ok (.iload 5, 2) := by decide +kernel
theorem dX3_findChain_55 : decode cX3_findChain 55 = .ok (.iastore, 1) := by decide +kernel
theorem dX3_findChain_56 : decode cX3_findChain 56 = .ok (.iinc 4 1, 3) := by decide +kernel
theorem dX3_findChain_59 : decode cX3_findChain 59 = .ok (.iinc 5 1, 3) := by decide +kernel
theorem dX3_findChain_62 : decode cX3_findChain 62 = .ok (.goto (-56), 3) := by decide +kernel
theorem dX3_findChain_65 : decode cX3_findChain 65 = .ok (.iload_n 1, 1) := by decide +kernel
theorem dX3_findChain_66 : decode cX3_findChain 66 = .ok (.istore 5, 2) := by decide +kernel
theorem dX3_findChain_68 : decode cX3_findChain 68 = .ok (.iconst 0, 1) := by decide +kernel
theorem dX3_findChain_69 : decode cX3_findChain 69 = .ok (.istore 6, 2) := by decide +kernel
theorem dX3_findChain_71 : decode cX3_findChain 71 = .ok (.iload 6, 2) := by decide +kernel
theorem dX3_findChain_73 : decode cX3_findChain 73 = .ok (.iload 4, 2) := by decide +kernel
theorem dX3_findChain_75 : decode cX3_findChain 75 = .ok (.if_icmp .ge 132, 3) := by decide +kernel
theorem dX3_findChain_78 : decode cX3_findChain 78 = .ok (.iload 6, 2) := by decide +kernel
theorem dX3_findChain_80 : decode cX3_findChain 80 = .ok (.bipush 12, 2) := by decide +kernel
theorem dX3_findChain_82 : decode cX3_findChain 82 = .ok (.if_icmp .ge 125, 3) := by decide +kernel
theorem dX3_findChain_85 : decode cX3_findChain 85 = .ok (.aload_n 0, 1) := by decide +kernel
theorem dX3_findChain_86 : decode cX3_findChain 86 = .ok (.getfield 32, 3) := by decide +kernel
theorem dX3_findChain_89 : decode cX3_findChain 89 = .ok (.iload 6, 2) := by decide +kernel
theorem dX3_findChain_91 : decode cX3_findChain 91 = .ok (.iaload, 1) := by decide +kernel
theorem dX3_findChain_92 : decode cX3_findChain 92 = .ok (.istore 7, 2) := by decide +kernel
theorem dX3_findChain_94 : decode cX3_findChain 94 = .ok (.iload_n 2, 1) := by decide +kernel
theorem dX3_findChain_95 : decode cX3_findChain 95 = .ok (.iload 7, 2) := by decide +kernel
theorem dX3_findChain_97 : decode cX3_findChain 97 = .ok (.invokestatic 71, 3) := by decide +kernel
theorem dX3_findChain_100 : decode cX3_findChain 100 = .ok (.ifCond .eq 6, 3) := by decide +kernel
theorem dX3_findChain_103 : decode cX3_findChain 103 = .ok (.iload 7, 2) := by decide +kernel
theorem dX3_findChain_105 : decode cX3_findChain 105 = .ok (.ireturn, 1) := by decide +kernel
theorem dX3_findChain_106 : decode cX3_findChain 106 = .ok (.iconst 0, 1) := by decide +kernel
theorem dX3_findChain_107 : decode cX3_findChain 107 = .ok (.istore 8, 2) := by decide +kernel
theorem dX3_findChain_109 : decode cX3_findChain 109 = .ok (.iload 8, 2) := by decide +kernel
theorem dX3_findChain_111 : decode cX3_findChain 111 = .ok (.aload_n 0, 1) := by decide +kernel
theorem dX3_findChain_112 : decode cX3_findChain 112 = .ok (.getfield 50, 3) := by decide +kernel
theorem dX3_findChain_115 : decode cX3_findChain 115 = .ok (.if_icmp .ge 86, 3) := by decide +kernel
theorem dX3_findChain_118 : decode cX3_findChain 118 = .ok (.iload 5, 2) := by decide +kernel
theorem dX3_findChain_120 : decode cX3_findChain 120 = .ok (.iload 8, 2) := by decide +kernel
theorem dX3_findChain_122 : decode cX3_findChain 122 = .ok (.invokestatic 71, 3) := by decide +kernel
theorem dX3_findChain_125 : decode cX3_findChain 125 = .ok (.ifCond .eq 7, 3) := by decide +kernel
theorem dX3_findChain_128 : decode cX3_findChain 128 = .ok (.iconst (-1), 1) := by decide +kernel
theorem dX3_findChain_129 : decode cX3_findChain 129 = .ok (.goto 12, 3) := by decide +kernel
theorem dX3_findChain_132 : decode cX3_findChain 132 = .ok (.aload_n 0, 1) := by decide +kernel
theorem dX3_findChain_133 : decode cX3_findChain 133 = .ok (.iload 7, 2) := by decide +kernel
theorem dX3_findChain_135 : decode cX3_findChain 135 = .ok (.iload 8, 2) := by decide +kernel
theorem dX3_findChain_137 : decode cX3_findChain 137 = .ok (.iload_n 3, 1) := by decide +kernel
theorem dX3_findChain_138 : decode cX3_findChain 138 = .ok (.invokevirtual 123, 3) := by decide +kernel
theorem dX3_findChain_141 : decode cX3_findChain 141 = .ok (.istore 9, 2) := by decide +kernel
theorem dX3_findChain_143 : decode cX3_findChain 143 = .ok (.iload 9, 2) := by decide +kernel
theorem dX3_findChain_145 : decode cX3_findChain 145 = .ok (.iconst (-1), 1) := by decide +kernel
theorem dX3_findChain_146 : decode cX3_findChain 146 = .ok (.if_icmp .eq 49, 3) := by decide +kernel
theorem dX3_findChain_149 : decode cX3_findChain 149 = .ok (.iload 4, 2) := by decide +kernel
theorem dX3_findChain_151 : decode cX3_findChain 151 = .ok (.bipush 12, 2) := by decide +kernel
theorem dX3_findChain_153 : decode cX3_findChain 153 = .ok (.if_icmp .ge 42, 3) := by decide +kernel
theorem dX3_findChain_156 : decode cX3_findChain 156 = .ok (.aload_n 0, 1) := by decide +kernel
theorem dX3_findChain_157 : decode cX3_findChain 157 = .ok (.getfield 35, 3) := by decide +kernel
theorem dX3_findChain_160 : decode cX3_findChain 160 = .ok (.iload 8, 2) := by decide +kernel
theorem dX3_findChain_162 : decode cX3_findChain 162 = .ok (.iload 7, 2) := by decide +kernel
theorem dX3_findChain_164 : decode cX3_findChain 164 = .ok (.iastore, 1) := by decide +kernel
theorem dX3_findChain_165 : decode cX3_findChain 165 = .ok (.aload_n 0, 1) := by decide +kernel
theorem dX3_findChain_166 : decode cX3_findChain 166 = .ok (.getfield 38, 3) := by decide +kernel
theorem dX3_findChain_169 : decode cX3_findChain 169 = .ok (.iload 8, 2) := by decide +kernel
theorem dX3_findChain_171 : decode cX3_findChain 171 = .ok (.iload 9, 2) := by decide +kernel
theorem dX3_findChain_173 : decode cX3_findChain 173 = .ok (.iastore, 1) := by decide +kernel
theorem dX3_findChain_174 : decode cX3_findChain 174 = .ok (.iload 5, 2) := by decide +kernel
theorem dX3_findChain_176 : decode cX3_findChain 176 = .ok (.iconst 1, 1) := by decide +kernel
theorem dX3_findChain_177 : decode cX3_findChain 177 = .ok (.iload 8, 2) := by decide +kernel
theorem dX3_findChain_179 : decode cX3_findChain 179 = .ok (.ishl, 1) := by decide +kernel
theorem dX3_findChain_180 : decode cX3_findChain 180 = .ok (.ior, 1) := by decide +kernel
theorem dX3_findChain_181 : decode cX3_findChain 181 = .ok (.istore 5, 2) := by decide +kernel
theorem dX3_findChain_183 : decode cX3_findChain 183 = .ok (.aload_n 0, 1) := by decide +kernel
theorem dX3_findChain_184 : decode cX3_findChain 184 = .ok (.getfield 32, 3) := by decide +kernel
theorem dX3_findChain_187 : decode cX3_findChain 187 = .ok (.iload 4, 2) := by decide +kernel
theorem dX3_findChain_189 : decode cX3_findChain 189 = .ok (.iload 8, 2) := by decide +kernel
theorem dX3_findChain_191 : decode cX3_findChain 191 = .ok (.iastore, 1) := by decide +kernel
theorem dX3_findChain_192 : decode cX3_findChain 192 = .ok (.iinc 4 1, 3) := by decide +kernel
theorem dX3_findChain_195 : decode cX3_findChain 195 = .ok (.iinc 8 1, 3) := by decide +kernel
theorem dX3_findChain_198 : decode cX3_findChain 198 = .ok (.goto (-89), 3) := by decide +kernel
theorem dX3_findChain_201 : decode cX3_findChain 201 = .ok (.iinc 6 1, 3) := by decide +kernel
theorem dX3_findChain_204 : decode cX3_findChain 204 = .ok (.goto (-133), 3) := by decide +kernel
theorem dX3_findChain_207 : decode cX3_findChain 207 = .ok (.iconst (-1), 1) := by decide +kernel
theorem dX3_findChain_208 : decode cX3_findChain 208 = .ok (.ireturn, 1) := by decide +kernel
theorem dX3_costBetween_0 : decode cX3_costBetween 0 = .ok (.aload_n 0, 1) := by decide +kernel
theorem dX3_costBetween_1 : decode cX3_costBetween 1 = .ok (.iload_n 1, 1) := by decide +kernel
theorem dX3_costBetween_2 : decode cX3_costBetween 2 = .ok (.invokevirtual 61, 3) := by decide +kernel
theorem dX3_costBetween_5 : decode cX3_costBetween 5 = .ok (.ifCond .eq 27, 3) := by decide +kernel
theorem dX3_costBetween_8 : decode cX3_costBetween 8 = .ok (.aload_n 0, 1) := by decide +kernel
theorem dX3_costBetween_9 : decode cX3_costBetween 9 = .ok (.iload_n 2, 1) := by decide +kernel
theorem dX3_costBetween_10 : decode cX3_costBetween 10 = .ok (.invokevirtual 61, 3) := by decide +kernel
theorem dX3_costBetween_13 : decode cX3_costBetween 13 = .ok (.ifCond .eq 19, 3) := by decide +kernel
theorem dX3_costBetween_16 : decode cX3_costBetween 16 = .ok (.aload_n 0, 1) := by decide +kernel
theorem dX3_costBetween_17 : decode cX3_costBetween 17 = .ok (.getfield 26, 3) := by decide +kernel
theorem dX3_costBetween_20 : decode cX3_costBetween 20 = .ok (.iload_n 1, 1) := by decide +kernel
theorem dX3_costBetween_21 : decode cX3_costBetween 21 = .ok (.iaload, 1) := by decide +kernel
theorem dX3_costBetween_22 : decode cX3_costBetween 22 = .ok (.aload_n 0, 1) := by decide +kernel
theorem dX3_costBetween_23 : decode cX3_costBetween 23 = .ok (.getfield 29, 3) := by decide +kernel
theorem dX3_costBetween_26 : decode cX3_costBetween 26 = .ok (.iload_n 2, 1) := by decide +kernel
theorem dX3_costBetween_27 : decode cX3_costBetween 27 = .ok (.iaload, 1) := by decide +kernel
theorem dX3_costBetween_28 : decode cX3_costBetween 28 = .ok (.iand, 1) := by decide +kernel
theorem dX3_costBetween_29 : decode cX3_costBetween 29 = .ok (.goto 4, 3) := by decide +kernel
theorem dX3_costBetween_32 : decode cX3_costBetween 32 = .ok (.iconst 0, 1) := by decide +kernel
theorem dX3_costBetween_33 : decode cX3_costBetween 33 = .ok (.istore 4, 2) := by decide +kernel
theorem dX3_costBetween_35 : decode cX3_costBetween 35 = .ok (.iload 4, 2) := by decide +kernel
theorem dX3_costBetween_37 : decode cX3_costBetween 37 = .ok (.ifCond .ne 5, 3) := by decide +kernel
theorem dX3_costBetween_40 : decode cX3_costBetween 40 = .ok (.iconst (-1), 1) := by decide +kernel
theorem dX3_costBetween_41 : decode cX3_costBetween 41 = .ok (.ireturn, 1) := by decide +kernel
theorem dX3_costBetween_42 : decode cX3_costBetween 42 = .ok (.iload_n 3, 1) := by decide +kernel
theorem dX3_costBetween_43 : decode cX3_costBetween 43 = .ok (.istore 5, 2) := by decide +kernel
theorem dX3_costBetween_45 : decode cX3_costBetween 45 = .ok (.iload 5, 2) := by decide +kernel
theorem dX3_costBetween_47 : decode cX3_costBetween 47 = .ok (.aload_n 0, 1) := by decide +kernel
theorem dX3_costBetween_48 : decode cX3_costBetween 48 = .ok (.getfield 54, 3) := by decide +kernel
theorem dX3_costBetween_51 : decode cX3_costBetween 51 = .ok (.if_icmp .ge 22, 3) := by decide +kernel
theorem dX3_costBetween_54 : decode cX3_costBetween 54 = .ok (.iload 4, 2) := by decide +kernel
theorem dX3_costBetween_56 : decode cX3_costBetween 56 = .ok (.iload 5, 2) := by decide +kernel
theorem dX3_costBetween_58 : decode cX3_costBetween 58 = .ok (.invokestatic 71, 3) := by decide +kernel
theorem dX3_costBetween_61 : decode cX3_costBetween 61 = .ok (.ifCond .eq 6, 3) := by decide +kernel
theorem dX3_costBetween_64 : decode cX3_costBetween 64 = .ok (.iload 5, 2) := by decide +kernel
theorem dX3_costBetween_66 : decode cX3_costBetween 66 = .ok (.ireturn, 1) := by decide +kernel
theorem dX3_costBetween_67 : decode cX3_costBetween 67 = .ok (.iinc 5 1, 3) := by decide +kernel
theorem dX3_costBetween_70 : decode cX3_costBetween 70 = .ok (.goto (-25), 3) := by decide +kernel
theorem dX3_costBetween_73 : decode cX3_costBetween 73 = .ok (.iconst (-1), 1) := by decide +kernel
theorem dX3_costBetween_74 : decode cX3_costBetween 74 = .ok (.ireturn, 1) := by decide +kernel
theorem dX3_hasAhead_0 : decode cX3_hasAhead 0 = .ok (.aload_n 0, 1) := by decide +kernel
theorem dX3_hasAhead_1 : decode cX3_hasAhead 1 = .ok (.iload_n 1, 1) := by decide +kernel
theorem dX3_hasAhead_2 : decode cX3_hasAhead 2 = .ok (.invokevirtual 61, 3) := by decide +kernel
theorem dX3_hasAhead_5 : decode cX3_hasAhead 5 = .ok (.ifCond .eq 20, 3) := by decide +kernel
theorem dX3_hasAhead_8 : decode cX3_hasAhead 8 = .ok (.aload_n 0, 1) := by decide +kernel
theorem dX3_hasAhead_9 : decode cX3_hasAhead 9 = .ok (.aload_n 0, 1) := by decide +kernel
theorem dX3_hasAhead_10 : decode cX3_hasAhead 10 = .ok (.getfield 35, 3) := by decide +kernel
theorem dX3_hasAhead_13 : decode cX3_hasAhead 13 = .ok (.iload_n 1, 1) := by decide +kernel
theorem dX3_hasAhead_14 : decode cX3_hasAhead 14 = .ok (.iaload, 1) := by decide +kernel
theorem dX3_hasAhead_15 : decode cX3_hasAhead 15 = .ok (.invokevirtual 61, 3) := by decide +kernel
theorem dX3_hasAhead_18 : decode cX3_hasAhead 18 = .ok (.ifCond .eq 7, 3) := by decide +kernel
theorem dX3_hasAhead_21 : decode cX3_hasAhead 21 = .ok (.iconst 1, 1) := by decide +kernel
theorem dX3_hasAhead_22 : decode cX3_hasAhead 22 = .ok (.goto 4, 3) := by decide +kernel
theorem dX3_hasAhead_25 : decode cX3_hasAhead 25 = .ok (.iconst 0, 1) := by decide +kernel
theorem dX3_hasAhead_26 : decode cX3_hasAhead 26 = .ok (.ireturn, 1) := by decide +kernel
theorem dX3_firstOfChain_0 : decode cX3_firstOfChain 0 = .ok (.iload_n 1, 1) := by decide +kernel
theorem dX3_firstOfChain_1 : decode cX3_firstOfChain 1 = .ok (.istore_n 2, 1) := by decide +kernel
theorem dX3_firstOfChain_2 : decode cX3_firstOfChain 2 = .ok (.iconst 0, 1) := by decide +kernel
theorem dX3_firstOfChain_3 : decode cX3_firstOfChain 3 = .ok (.istore_n 3, 1) := by decide +kernel
theorem dX3_firstOfChain_4 : decode cX3_firstOfChain 4 = .ok (.iload_n 3, 1) := by decide +kernel
theorem dX3_firstOfChain_5 : decode cX3_firstOfChain 5 = .ok (.bipush 12, 2) := by decide +kernel
theorem dX3_firstOfChain_7 : decode cX3_firstOfChain 7 = .ok (.if_icmp .ge 24, 3) := by decide +kernel
theorem dX3_firstOfChain_10 : decode cX3_firstOfChain 10 = .ok (.aload_n 0, 1) := by decide +kernel
theorem dX3_firstOfChain_11 : decode cX3_firstOfChain 11 = .ok (.iload_n 2, 1) := by decide +kernel
theorem dX3_firstOfChain_12 : decode cX3_firstOfChain 12 = .ok (.invokevirtual 126, 3) := by decide +kernel
theorem dX3_firstOfChain_15 : decode cX3_firstOfChain 15 = .ok (.ifCond .eq 16, 3) := by decide +kernel
theorem dX3_firstOfChain_18 : decode cX3_firstOfChain 18 = .ok (.aload_n 0, 1) := by decide +kernel
theorem dX3_firstOfChain_19 : decode cX3_firstOfChain 19 = .ok (.getfield 35, 3) := by decide +kernel
theorem dX3_firstOfChain_22 : decode cX3_firstOfChain 22 = .ok (.iload_n 2, 1) := by decide +kernel
theorem dX3_firstOfChain_23 : decode cX3_firstOfChain 23 = .ok (.iaload, 1) := by decide +kernel
theorem dX3_firstOfChain_24 : decode cX3_firstOfChain 24 = .ok (.istore_n 2, 1) := by decide +kernel
theorem dX3_firstOfChain_25 : decode cX3_firstOfChain 25 = .ok (.iinc 3 1, 3) := by decide +kernel
theorem dX3_firstOfChain_28 : decode cX3_firstOfChain 28 = .ok (.goto (-24), 3) := by decide +kernel
theorem dX3_firstOfChain_31 : decode cX3_firstOfChain 31 = .ok (.iload_n 2, 1) := by decide +kernel
theorem dX3_firstOfChain_32 : decode cX3_firstOfChain 32 = .ok (.ireturn, 1) := by decide +kernel
theorem dX3_narrowest_0 : decode cX3_narrowest 0 = .ok (.iload_n 2, 1) := by decide +kernel
theorem dX3_narrowest_1 : decode cX3_narrowest 1 = .ok (.istore_n 3, 1) := by decide +kernel
theorem dX3_narrowest_2 : decode cX3_narrowest 2 = .ok (.iload_n 1, 1) := by decide +kernel
theorem dX3_narrowest_3 : decode cX3_narrowest 3 = .ok (.istore 4, 2) := by decide +kernel
theorem dX3_narrowest_5 : decode cX3_narrowest 5 = .ok (.iconst 0, 1) := by decide +kernel
theorem dX3_narrowest_6 : decode cX3_narrowest 6 = .ok (.istore 5, 2) := by decide +kernel
theorem dX3_narrowest_8 : decode cX3_narrowest 8 = .ok (.iload 5, 2) := by decide +kernel
theorem dX3_narrowest_10 : decode cX3_narrowest 10 = .ok (.bipush 12, 2) := by decide +kernel
theorem dX3_narrowest_12 : decode cX3_narrowest 12 = .ok (.if_icmp .ge 45, 3) := by decide +kernel
theorem dX3_narrowest_15 : decode cX3_narrowest 15 = .ok (.aload_n 0, 1) := by decide +kernel
theorem dX3_narrowest_16 : decode cX3_narrowest 16 = .ok (.iload 4, 2) := by decide +kernel
theorem dX3_narrowest_18 : decode cX3_narrowest 18 = .ok (.invokevirtual 126, 3) := by decide +kernel
theorem dX3_narrowest_21 : decode cX3_narrowest 21 = .ok (.ifCond .eq 36, 3) := by decide +kernel
theorem dX3_narrowest_24 : decode cX3_narrowest 24 = .ok (.iload_n 3, 1) := by decide +kernel
theorem dX3_narrowest_25 : decode cX3_narrowest 25 = .ok (.aload_n 0, 1) := by decide +kernel
theorem dX3_narrowest_26 : decode cX3_narrowest 26 = .ok (.iload 4, 2) := by decide +kernel
theorem dX3_narrowest_28 : decode cX3_narrowest 28 = .ok (.aload_n 0, 1) := by decide +kernel
theorem dX3_narrowest_29 : decode cX3_narrowest 29 = .ok (.getfield 38, 3) := by decide +kernel
theorem dX3_narrowest_32 : decode cX3_narrowest 32 = .ok (.iload 4, 2) := by decide +kernel
theorem dX3_narrowest_34 : decode cX3_narrowest 34 = .ok (.iaload, 1) := by decide +kernel
theorem dX3_narrowest_35 : decode cX3_narrowest 35 = .ok (.invokevirtual 120, 3) := by decide +kernel
theorem dX3_narrowest_38 : decode cX3_narrowest 38 = .ok (.invokestatic 41, 3) := by decide +kernel
theorem dX3_narrowest_41 : decode cX3_narrowest 41 = .ok (.istore_n 3, 1) := by decide +kernel
theorem dX3_narrowest_42 : decode cX3_narrowest 42 = .ok (.aload_n 0, 1) := by decide +kernel
theorem dX3_narrowest_43 : decode cX3_narrowest 43 = .ok (.getfield 35, 3) := by decide +kernel
theorem dX3_narrowest_46 : decode cX3_narrowest 46 = .ok (.iload 4, 2) := by decide +kernel
theorem dX3_narrowest_48 : decode cX3_narrowest 48 = .ok (.iaload, 1) := by decide +kernel
theorem dX3_narrowest_49 : decode cX3_narrowest 49 = .ok (.istore 4, 2) := by decide +kernel
theorem dX3_narrowest_51 : decode cX3_narrowest 51 = .ok (.iinc 5 1, 3) := by decide +kernel
theorem dX3_narrowest_54 : decode cX3_narrowest 54 = .ok (.goto (-46), 3) := by decide +kernel
theorem dX3_narrowest_57 : decode cX3_narrowest 57 = .ok (.iload_n 3, 1) := by decide +kernel
theorem dX3_narrowest_58 : decode cX3_narrowest 58 = .ok (.ireturn, 1) := by decide +kernel
theorem dX3_shiftAlongChain_0 : decode cX3_shiftAlongChain 0 = .ok (.iload_n 1, 1) := by decide +kernel
theorem dX3_shiftAlongChain_1 : decode cX3_shiftAlongChain 1 = .ok (.istore_n 3, 1) := by decide +kernel
theorem dX3_shiftAlongChain_2 : decode cX3_shiftAlongChain 2 = .ok (.iconst 0, 1) := by decide +kernel
theorem dX3_shiftAlongChain_3 : decode cX3_shiftAlongChain 3 = .ok (.istore 4, 2) := by decide +kernel
theorem dX3_shiftAlongChain_5 : decode cX3_shiftAlongChain 5 = .ok (.iload 4, 2) := by decide +kernel
theorem dX3_shiftAlongChain_7 : decode cX3_shiftAlongChain 7 = .ok (.bipush 12, 2) := by decide +kernel
theorem dX3_shiftAlongChain_9 : decode cX3_shiftAlongChain 9 = .ok (.if_icmp .ge 54, 3) := by decide +kernel
theorem dX3_shiftAlongChain_12 : decode cX3_shiftAlongChain 12 = .ok (.aload_n 0, 1) := by decide +kernel
theorem dX3_shiftAlongChain_13 : decode cX3_shiftAlongChain 13 = .ok (.iload_n 3, 1) := by decide +kernel
theorem dX3_shiftAlongChain_14 : decode cX3_shiftAlongChain 14 = .ok (.invokevirtual 126, 3) := by decide +kernel
theorem dX3_shiftAlongChain_17 : decode cX3_shiftAlongChain 17 = .ok (.ifCond .eq 46, 3) := by decide +kernel
theorem dX3_shiftAlongChain_20 : decode cX3_shiftAlongChain 20 = .ok (.aload_n 0, 1) := by decide +kernel
theorem dX3_shiftAlongChain_21 : decode cX3_shiftAlongChain 21 = .ok (.iload_n 3, 1) := by decide +kernel
theorem dX3_shiftAlongChain_22 : decode cX3_shiftAlongChain 22 = .ok (.aload_n 0, 1) := by decide +kernel
theorem dX3_shiftAlongChain_23 : decode cX3_shiftAlongChain 23 = .ok (.getfield 38, 3) := by decide +kernel
theorem dX3_shiftAlongChain_26 : decode cX3_shiftAlongChain 26 = .ok (.iload_n 3, 1) := by decide +kernel
theorem dX3_shiftAlongChain_27 : decode cX3_shiftAlongChain 27 = .ok (.iaload, 1) := by decide +kernel
theorem dX3_shiftAlongChain_28 : decode cX3_shiftAlongChain 28 = .ok (.iload_n 2, 1) := by decide +kernel
theorem dX3_shiftAlongChain_29 : decode cX3_shiftAlongChain 29 = .ok (.ineg, 1) := by decide +kernel
theorem dX3_shiftAlongChain_30 : decode cX3_shiftAlongChain 30 = .ok (.invokevirtual 107, 3) := by decide +kernel
theorem dX3_shiftAlongChain_33 : decode cX3_shiftAlongChain 33 = .ok (.aload_n 0, 1) := by decide +kernel
theorem dX3_shiftAlongChain_34 : decode cX3_shiftAlongChain 34 = .ok (.aload_n 0, 1) := by decide +kernel
theorem dX3_shiftAlongChain_35 : decode cX3_shiftAlongChain 35 = .ok (.getfield 35, 3) := by decide +kernel
theorem dX3_shiftAlongChain_38 : decode cX3_shiftAlongChain 38 = .ok (.iload_n 3, 1) := by decide +kernel
theorem dX3_shiftAlongChain_39 : decode cX3_shiftAlongChain 39 = .ok (.iaload, 1) := by decide +kernel
theorem dX3_shiftAlongChain_40 : decode cX3_shiftAlongChain 40 = .ok (.aload_n 0, 1) := by decide +kernel
theorem dX3_shiftAlongChain_41 : decode cX3_shiftAlongChain 41 = .ok (.getfield 38, 3) := by decide +kernel
theorem dX3_shiftAlongChain_44 : decode cX3_shiftAlongChain 44 = .ok (.iload_n 3, 1) := by decide +kernel
theorem dX3_shiftAlongChain_45 : decode cX3_shiftAlongChain 45 = .ok (.iaload, 1) := by decide +kernel
theorem dX3_shiftAlongChain_46 : decode cX3_shiftAlongChain 46 = .ok (.iload_n 2, 1) := by decide +kernel
theorem dX3_shiftAlongChain_47 : decode cX3_shiftAlongChain 47 = .ok (.invokevirtual 107, 3) := by decide +kernel
theorem dX3_shiftAlongChain_50 : decode cX3_shiftAlongChain 50 = .ok (.aload_n 0, 1) := by decide +kernel
theorem dX3_shiftAlongChain_51 : decode cX3_shiftAlongChain 51 = .ok (.getfield 35, 3) := by decide +kernel
theorem dX3_shiftAlongChain_54 : decode cX3_shiftAlongChain 54 = .ok (.iload_n 3, 1) := by decide +kernel
theorem dX3_shiftAlongChain_55 : decode cX3_shiftAlongChain 55 = .ok (.iaload, 1) := by decide +kernel
theorem dX3_shiftAlongChain_56 : decode cX3_shiftAlongChain 56 = .ok (.istore_n 3, 1) := by decide +kernel
theorem dX3_shiftAlongChain_57 : decode cX3_shiftAlongChain 57 = .ok (.iinc 4 1, 3) := by decide +kernel
theorem dX3_shiftAlongChain_60 : decode cX3_shiftAlongChain 60 = .ok (.goto (-55), 3) := by decide +kernel
theorem dX3_shiftAlongChain_63 : decode cX3_shiftAlongChain 63 = .ok (.return_, 1) := by decide +kernel
theorem dX3_isPot_0 : decode cX3_isPot 0 = .ok (.iload_n 1, 1) := by decide +kernel
theorem dX3_isPot_1 : decode cX3_isPot 1 = .ok (.ifCond .lt 21, 3) := by decide +kernel
theorem dX3_isPot_4 : decode cX3_isPot 4 = .ok (.iload_n 1, 1) := by decide +kernel
theorem dX3_isPot_5 : decode cX3_isPot 5 = .ok (.aload_n 0, 1) := by decide +kernel
theorem dX3_isPot_6 : decode cX3_isPot 6 = .ok (.getfield 50, 3) := by decide +kernel
theorem dX3_isPot_9 : decode cX3_isPot 9 = .ok (.if_icmp .ge 13, 3) := by decide +kernel
theorem dX3_isPot_12 : decode cX3_isPot 12 = .ok (.iload_n 1, 1) := by decide +kernel
theorem dX3_isPot_13 : decode cX3_isPot 13 = .ok (.bipush 12, 2) := by decide +kernel
theorem dX3_isPot_15 : decode cX3_isPot 15 = .ok (.if_icmp .ge 7, 3) := by decide +kernel
theorem dX3_isPot_18 : decode cX3_isPot 18 = .ok (.iconst 1, 1) := by decide +kernel
theorem dX3_isPot_19 : decode cX3_isPot 19 = .ok (.goto 4, 3) := by decide +kernel
theorem dX3_isPot_22 : decode cX3_isPot 22 = .ok (.iconst 0, 1) := by decide +kernel
theorem dX3_isPot_23 : decode cX3_isPot 23 = .ok (.ireturn, 1) := by decide +kernel
theorem dX3_isCost_0 : decode cX3_isCost 0 = .ok (.iload_n 1, 1) := by decide +kernel
theorem dX3_isCost_1 : decode cX3_isCost 1 = .ok (.ifCond .lt 21, 3) := by decide +kernel
theorem dX3_isCost_4 : decode cX3_isCost 4 = .ok (.iload_n 1, 1) := by decide +kernel
theorem dX3_isCost_5 : decode cX3_isCost 5 = .ok (.aload_n 0, 1) := by decide +kernel
theorem dX3_isCost_6 : decode cX3_isCost 6 = .ok (.getfield 54, 3) := by decide +kernel
theorem dX3_isCost_9 : decode cX3_isCost 9 = .ok (.if_icmp .ge 13, 3) := by decide +kernel
theorem dX3_isCost_12 : decode cX3_isCost 12 = .ok (.iload_n 1, 1) := by decide +kernel
theorem dX3_isCost_13 : decode cX3_isCost 13 = .ok (.bipush 16, 2) := by decide +kernel
theorem dX3_isCost_15 : decode cX3_isCost 15 = .ok (.if_icmp .ge 7, 3) := by decide +kernel
theorem dX3_isCost_18 : decode cX3_isCost 18 = .ok (.iconst 1, 1) := by decide +kernel
theorem dX3_isCost_19 : decode cX3_isCost 19 = .ok (.goto 4, 3) := by decide +kernel
theorem dX3_isCost_22 : decode cX3_isCost 22 = .ok (.iconst 0, 1) := by decide +kernel
theorem dX3_isCost_23 : decode cX3_isCost 23 = .ok (.ireturn, 1) := by decide +kernel
theorem dX3_addShare_0 : decode cX3_addShare 0 = .ok (.aload_n 0, 1) := by decide +kernel
theorem dX3_addShare_1 : decode cX3_addShare 1 = .ok (.iload_n 1, 1) := by decide +kernel
theorem dX3_addShare_2 : decode cX3_addShare 2 = .ok (.invokevirtual 61, 3) := by decide +kernel
theorem dX3_addShare_5 : decode cX3_addShare 5 = .ok (.ifCond .eq 68, 3) := by decide +kernel
theorem dX3_addShare_8 : decode cX3_addShare 8 = .ok (.aload_n 0, 1) := by decide +kernel
theorem dX3_addShare_9 : decode cX3_addShare 9 = .ok (.iload_n 2, 1) := by decide +kernel
theorem dX3_addShare_10 : decode cX3_addShare 10 = .ok (.invokevirtual 57, 3) := by decide +kernel
theorem dX3_addShare_13 : decode cX3_addShare 13 = .ok (.ifCond .eq 60, 3) := by decide +kernel
theorem dX3_addShare_16 : decode cX3_addShare 16 = .ok (.aload_n 0, 1) := by decide +kernel
theorem dX3_addShare_17 : decode cX3_addShare 17 = .ok (.getfield 23, 3) := by decide +kernel
theorem dX3_addShare_20 : decode cX3_addShare 20 = .ok (.iload_n 1, 1) := by decide +kernel
theorem dX3_addShare_21 : decode cX3_addShare 21 = .ok (.aaload, 1) := by decide +kernel
theorem dX3_addShare_22 : decode cX3_addShare 22 = .ok (.iload_n 2, 1) := by decide +kernel
theorem dX3_addShare_23 : decode cX3_addShare 23 = .ok (.dup2, 1) := by decide +kernel
theorem dX3_addShare_24 : decode cX3_addShare 24 = .ok (.iaload, 1) := by decide +kernel
theorem dX3_addShare_25 : decode cX3_addShare 25 = .ok (.iload_n 3, 1) := by decide +kernel
theorem dX3_addShare_26 : decode cX3_addShare 26 = .ok (.iadd, 1) := by decide +kernel
theorem dX3_addShare_27 : decode cX3_addShare 27 = .ok (.iastore, 1) := by decide +kernel
theorem dX3_addShare_28 : decode cX3_addShare 28 = .ok (.iconst 1, 1) := by decide +kernel
theorem dX3_addShare_29 : decode cX3_addShare 29 = .ok (.iload_n 2, 1) := by decide +kernel
theorem dX3_addShare_30 : decode cX3_addShare 30 = .ok (.ishl, 1) := by decide +kernel
theorem dX3_addShare_31 : decode cX3_addShare 31 = .ok (.istore 4, 2) := by decide +kernel
theorem dX3_addShare_33 : decode cX3_addShare 33 = .ok (.aload_n 0, 1) := by decide +kernel
theorem dX3_addShare_34 : decode cX3_addShare 34 = .ok (.getfield 29, 3) := by decide +kernel
theorem dX3_addShare_37 : decode cX3_addShare 37 = .ok (.iload_n 1, 1) := by decide +kernel
theorem dX3_addShare_38 : decode cX3_addShare 38 = .ok (.aload_n 0, 1) := by decide +kernel
theorem dX3_addShare_39 : decode cX3_addShare 39 = .ok (.getfield 23, 3) := by decide +kernel
theorem dX3_addShare_42 : decode cX3_addShare 42 = .ok (.iload_n 1, 1) := by decide +kernel
theorem dX3_addShare_43 : decode cX3_addShare 43 = .ok (.aaload, 1) := by decide +kernel
theorem dX3_addShare_44 : decode cX3_addShare 44 = .ok (.iload_n 2, 1) := by decide +kernel
theorem dX3_addShare_45 : decode cX3_addShare 45 = .ok (.iaload, 1) := by decide +kernel
theorem dX3_addShare_46 : decode cX3_addShare 46 = .ok (.ifCond .le 15, 3) := by decide +kernel
theorem dX3_addShare_49 : decode cX3_addShare 49 = .ok (.aload_n 0, 1) := by decide +kernel
theorem dX3_addShare_50 : decode cX3_addShare 50 = .ok (.getfield 29, 3) := by decide +kernel
theorem dX3_addShare_53 : decode cX3_addShare 53 = .ok (.iload_n 1, 1) := by decide +kernel
theorem dX3_addShare_54 : decode cX3_addShare 54 = .ok (.iaload, 1) := by decide +kernel
theorem dX3_addShare_55 : decode cX3_addShare 55 = .ok (.iload 4, 2) := by decide +kernel
theorem dX3_addShare_57 : decode cX3_addShare 57 = .ok (.ior, 1) := by decide +kernel
theorem dX3_addShare_58 : decode cX3_addShare 58 = .ok (.goto 14, 3) := by decide +kernel
theorem dX3_addShare_61 : decode cX3_addShare 61 = .ok (.aload_n 0, 1) := by decide +kernel
theorem dX3_addShare_62 : decode cX3_addShare 62 = .ok (.getfield 29, 3) := by decide +kernel
theorem dX3_addShare_65 : decode cX3_addShare 65 = .ok (.iload_n 1, 1) := by decide +kernel
theorem dX3_addShare_66 : decode cX3_addShare 66 = .ok (.iaload, 1) := by decide +kernel
theorem dX3_addShare_67 : decode cX3_addShare 67 = .ok (.iload 4, 2) := by decide +kernel
theorem dX3_addShare_69 : decode cX3_addShare 69 = .ok (.iconst (-1), 1) := by decide +kernel
theorem dX3_addShare_70 : decode cX3_addShare 70 = .ok (.ixor, 1) := by decide +kernel
theorem dX3_addShare_71 : decode cX3_addShare 71 = .ok (.iand, 1) := by decide +kernel
theorem dX3_addShare_72 : decode cX3_addShare 72 = .ok (.iastore, 1) := by decide +kernel
theorem dX3_addShare_73 : decode cX3_addShare 73 = .ok (.return_, 1) := by decide +kernel
theorem dX3_addToPot_0 : decode cX3_addToPot 0 = .ok (.aload_n 0, 1) := by decide +kernel
theorem dX3_addToPot_1 : decode cX3_addToPot 1 = .ok (.iload_n 1, 1) := by decide +kernel
theorem dX3_addToPot_2 : decode cX3_addToPot 2 = .ok (.invokevirtual 61, 3) := by decide +kernel
theorem dX3_addToPot_5 : decode cX3_addToPot 5 = .ok (.ifCond .eq 13, 3) := by decide +kernel
theorem dX3_addToPot_8 : decode cX3_addToPot 8 = .ok (.aload_n 0, 1) := by decide +kernel
theorem dX3_addToPot_9 : decode cX3_addToPot 9 = .ok (.getfield 9, 3) := by decide +kernel
theorem dX3_addToPot_12 : decode cX3_addToPot 12 = .ok (.iload_n 1, 1) := by decide +kernel
theorem dX3_addToPot_13 : decode cX3_addToPot 13 = .ok (.dup2, 1) := by decide +kernel
theorem dX3_addToPot_14 : decode cX3_addToPot 14 = .ok (.iaload, 1) := by decide +kernel
theorem dX3_addToPot_15 : decode cX3_addToPot 15 = .ok (.iload_n 2, 1) := by decide +kernel
theorem dX3_addToPot_16 : decode cX3_addToPot 16 = .ok (.iadd, 1) := by decide +kernel
theorem dX3_addToPot_17 : decode cX3_addToPot 17 = .ok (.iastore, 1) := by decide +kernel
theorem dX3_addToPot_18 : decode cX3_addToPot 18 = .ok (.return_, 1) := by decide +kernel
theorem dX3_planCost_0 : decode cX3_planCost 0 = .ok (.aload_n 0, 1) := by decide +kernel
theorem dX3_planCost_1 : decode cX3_planCost 1 = .ok (.iload_n 1, 1) := by decide +kernel
theorem dX3_planCost_2 : decode cX3_planCost 2 = .ok (.invokevirtual 57, 3) := by decide +kernel
theorem dX3_planCost_5 : decode cX3_planCost 5 = .ok (.ifCond .eq 23, 3) := by decide +kernel
theorem dX3_planCost_8 : decode cX3_planCost 8 = .ok (.aload_n 0, 1) := by decide +kernel
theorem dX3_planCost_9 : decode cX3_planCost 9 = .ok (.getfield 15, 3) := by decide +kernel
theorem dX3_planCost_12 : decode cX3_planCost 12 = .ok (.iload_n 1, 1) := by decide +kernel
theorem dX3_planCost_13 : decode cX3_planCost 13 = .ok (.dup2, 1) := by decide +kernel
theorem dX3_planCost_14 : decode cX3_planCost 14 = .ok (.iaload, 1) := by decide +kernel
theorem dX3_planCost_15 : decode cX3_planCost 15 = .ok (.iload_n 2, 1) := by decide +kernel
theorem dX3_planCost_16 : decode cX3_planCost 16 = .ok (.isub, 1) := by decide +kernel
theorem dX3_planCost_17 : decode cX3_planCost 17 = .ok (.iastore, 1) := by decide +kernel
theorem dX3_planCost_18 : decode cX3_planCost 18 = .ok (.aload_n 0, 1) := by decide +kernel
theorem dX3_planCost_19 : decode cX3_planCost 19 = .ok (.getfield 18, 3) := by decide +kernel
theorem dX3_planCost_22 : decode cX3_planCost 22 = .ok (.iload_n 1, 1) := by decide +kernel
theorem dX3_planCost_23 : decode cX3_planCost 23 = .ok (.dup2, 1) := by decide +kernel
theorem dX3_planCost_24 : decode cX3_planCost 24 = .ok (.iaload, 1) := by decide +kernel
theorem dX3_planCost_25 : decode cX3_planCost 25 = .ok (.iload_n 2, 1) := by decide +kernel
theorem dX3_planCost_26 : decode cX3_planCost 26 = .ok (.iadd, 1) := by decide +kernel
theorem dX3_planCost_27 : decode cX3_planCost 27 = .ok (.iastore, 1) := by decide +kernel
theorem dX3_planCost_28 : decode cX3_planCost 28 = .ok (.return_, 1) := by decide +kernel
theorem dX3_potsWithMoney_0 : decode cX3_potsWithMoney 0 = .ok (.iconst 0, 1) := by decide +kernel
theorem dX3_potsWithMoney_1 : decode cX3_potsWithMoney 1 = .ok (.istore_n 1, 1) := by decide +kernel
theorem dX3_potsWithMoney_2 : decode cX3_potsWithMoney 2 = .ok (.iconst 0, 1) := by decide +kernel
theorem dX3_potsWithMoney_3 : decode cX3_potsWithMoney 3 = .ok (.istore_n 2, 1) := by decide +kernel
theorem dX3_potsWithMoney_4 : decode cX3_potsWithMoney 4 = .ok (.iload_n 2, 1) := by decide +kernel
theorem dX3_potsWithMoney_5 : decode cX3_potsWithMoney 5 = .ok (.aload_n 0, 1) := by decide +kernel
theorem dX3_potsWithMoney_6 : decode cX3_potsWithMoney 6 = .ok (.getfield 50, 3) := by decide +kernel
theorem dX3_potsWithMoney_9 : decode cX3_potsWithMoney 9 = .ok (.if_icmp .ge 24, 3) := by decide +kernel
theorem dX3_potsWithMoney_12 : decode cX3_potsWithMoney 12 = .ok (.aload_n 0, 1) := by decide +kernel
theorem dX3_potsWithMoney_13 : decode cX3_potsWithMoney 13 = .ok (.getfield 9, 3) := by decide +kernel
theorem dX3_potsWithMoney_16 : decode cX3_potsWithMoney 16 = .ok (.iload_n 2, 1) := by decide +kernel
theorem dX3_potsWithMoney_17 : decode cX3_potsWithMoney 17 = .ok (.iaload, 1) := by decide +kernel
theorem dX3_potsWithMoney_18 : decode cX3_potsWithMoney 18 = .ok (.ifCond .le 9, 3) := by decide +kernel
theorem dX3_potsWithMoney_21 : decode cX3_potsWithMoney 21 = .ok (.iload_n 1, 1) := by decide +kernel
theorem dX3_potsWithMoney_22 : decode cX3_potsWithMoney 22 = .ok (.iconst 1, 1) := by decide +kernel
theorem dX3_potsWithMoney_23 : decode cX3_potsWithMoney 23 = .ok (.iload_n 2, 1) := by decide +kernel
theorem dX3_potsWithMoney_24 : decode cX3_potsWithMoney 24 = .ok (.ishl, 1) := by decide +kernel
theorem dX3_potsWithMoney_25 : decode cX3_potsWithMoney 25 = .ok (.ior, 1) := by decide +kernel
theorem dX3_potsWithMoney_26 : decode cX3_potsWithMoney 26 = .ok (.istore_n 1, 1) := by decide +kernel
theorem dX3_potsWithMoney_27 : decode cX3_potsWithMoney 27 = .ok (.iinc 2 1, 3) := by decide +kernel
theorem dX3_potsWithMoney_30 : decode cX3_potsWithMoney 30 = .ok (.goto (-26), 3) := by decide +kernel
theorem dX3_potsWithMoney_33 : decode cX3_potsWithMoney 33 = .ok (.iload_n 1, 1) := by decide +kernel
theorem dX3_potsWithMoney_34 : decode cX3_potsWithMoney 34 = .ok (.ireturn, 1) := by decide +kernel
theorem dX3_potsWith_0 : decode cX3_potsWith 0 = .ok (.iconst 0, 1) := by decide +kernel
theorem dX3_potsWith_1 : decode cX3_potsWith 1 = .ok (.istore_n 3, 1) := by decide +kernel
theorem dX3_potsWith_2 : decode cX3_potsWith 2 = .ok (.iconst 0, 1) := by decide +kernel
theorem dX3_potsWith_3 : decode cX3_potsWith 3 = .ok (.istore 4, 2) := by decide +kernel
theorem dX3_potsWith_5 : decode cX3_potsWith 5 = .ok (.iload 4, 2) := by decide +kernel
theorem dX3_potsWith_7 : decode cX3_potsWith 7 = .ok (.aload_n 0, 1) := by decide +kernel
theorem dX3_potsWith_8 : decode cX3_potsWith 8 = .ok (.getfield 50, 3) := by decide +kernel
theorem dX3_potsWith_11 : decode cX3_potsWith 11 = .ok (.if_icmp .ge 34, 3) := by decide +kernel
theorem dX3_potsWith_14 : decode cX3_potsWith 14 = .ok (.iload 4, 2) := by decide +kernel
theorem dX3_potsWith_16 : decode cX3_potsWith 16 = .ok (.aload_n 1, 1) := by decide +kernel
theorem dX3_potsWith_17 : decode cX3_potsWith 17 = .ok (.arraylength, 1) := by decide +kernel
theorem dX3_potsWith_18 : decode cX3_potsWith 18 = .ok (.if_icmp .ge 27, 3) := by decide +kernel
theorem dX3_potsWith_21 : decode cX3_potsWith 21 = .ok (.aload_n 1, 1) := by decide +kernel
theorem dX3_potsWith_22 : decode cX3_potsWith 22 = .ok (.iload 4, 2) := by decide +kernel
theorem dX3_potsWith_24 : decode cX3_potsWith 24 = .ok (.iaload, 1) := by decide +kernel
theorem dX3_potsWith_25 : decode cX3_potsWith 25 = .ok (.iload_n 2, 1) := by decide +kernel
theorem dX3_potsWith_26 : decode cX3_potsWith 26 = .ok (.invokestatic 71, 3) := by decide +kernel
theorem dX3_potsWith_29 : decode cX3_potsWith 29 = .ok (.ifCond .eq 10, 3) := by decide +kernel
theorem dX3_potsWith_32 : decode cX3_potsWith 32 = .ok (.iload_n 3, 1) := by decide +kernel
theorem dX3_potsWith_33 : decode cX3_potsWith 33 = .ok (.iconst 1, 1) := by decide +kernel
theorem dX3_potsWith_34 : decode cX3_potsWith 34 = .ok (.iload 4, 2) := by decide +kernel
theorem dX3_potsWith_36 : decode cX3_potsWith 36 = .ok (.ishl, 1) := by decide +kernel
theorem dX3_potsWith_37 : decode cX3_potsWith 37 = .ok (.ior, 1) := by decide +kernel
theorem dX3_potsWith_38 : decode cX3_potsWith 38 = .ok (.istore_n 3, 1) := by decide +kernel
theorem dX3_potsWith_39 : decode cX3_potsWith 39 = .ok (.iinc 4 1, 3) := by decide +kernel
theorem dX3_potsWith_42 : decode cX3_potsWith 42 = .ok (.goto (-37), 3) := by decide +kernel
theorem dX3_potsWith_45 : decode cX3_potsWith 45 = .ok (.iload_n 3, 1) := by decide +kernel
theorem dX3_potsWith_46 : decode cX3_potsWith 46 = .ok (.ireturn, 1) := by decide +kernel
theorem dX3_potsAfter_0 : decode cX3_potsAfter 0 = .ok (.iconst 1, 1) := by decide +kernel
theorem dX3_potsAfter_1 : decode cX3_potsAfter 1 = .ok (.aload_n 0, 1) := by decide +kernel
theorem dX3_potsAfter_2 : decode cX3_potsAfter 2 = .ok (.getfield 50, 3) := by decide +kernel
theorem dX3_potsAfter_5 : decode cX3_potsAfter 5 = .ok (.ishl, 1) := by decide +kernel
theorem dX3_potsAfter_6 : decode cX3_potsAfter 6 = .ok (.iconst 1, 1) := by decide +kernel
theorem dX3_potsAfter_7 : decode cX3_potsAfter 7 = .ok (.isub, 1) := by decide +kernel
theorem dX3_potsAfter_8 : decode cX3_potsAfter 8 = .ok (.iconst (-1), 1) := by decide +kernel
theorem dX3_potsAfter_9 : decode cX3_potsAfter 9 = .ok (.iload_n 1, 1) := by decide +kernel
theorem dX3_potsAfter_10 : decode cX3_potsAfter 10 = .ok (.iconst 1, 1) := by decide +kernel
theorem dX3_potsAfter_11 : decode cX3_potsAfter 11 = .ok (.iadd, 1) := by decide +kernel
theorem dX3_potsAfter_12 : decode cX3_potsAfter 12 = .ok (.ishl, 1) := by decide +kernel
theorem dX3_potsAfter_13 : decode cX3_potsAfter 13 = .ok (.iand, 1) := by decide +kernel
theorem dX3_potsAfter_14 : decode cX3_potsAfter 14 = .ok (.ireturn, 1) := by decide +kernel
theorem dX4_init_0 : decode cX4_init 0 = .ok (.aload_n 0, 1) := by decide +kernel
theorem dX4_init_1 : decode cX4_init 1 = .ok (.invokespecial 1, 3) := by decide +kernel
theorem dX4_init_4 : decode cX4_init 4 = .ok (.aload_n 0, 1) := by decide +kernel
theorem dX4_init_5 : decode cX4_init 5 = .ok (.iload_n 1, 1) := by decide +kernel
theorem dX4_init_6 : decode cX4_init 6 = .ok (.putfield 7, 3) := by decide +kernel
theorem dX4_init_9 : decode cX4_init 9 = .ok (.return_, 1) := by decide +kernel
theorem dX5_init_0 : decode cX5_init 0 = .ok (.aload_n 0, 1) := by decide +kernel
theorem dX5_init_1 : decode cX5_init 1 = .ok (.invokespecial 3, 3) := by decide +kernel
theorem dX5_init_4 : decode cX5_init 4 = .ok (.aload_n 0, 1) := by decide +kernel
theorem dX5_init_5 : decode cX5_init 5 = .ok (.new 9, 3) := by decide +kernel
theorem dX5_init_8 : decode cX5_init 8 = .ok (.dup, 1) := by decide +kernel
theorem dX5_init_9 : decode cX5_init 9 = .ok (.invokespecial 11, 3) := by decide +kernel
theorem dX5_init_12 : decode cX5_init 12 = .ok (.putfield 12, 3) := by decide +kernel
theorem dX5_init_15 : decode cX5_init 15 = .ok (.aload_n 0, 1) := by decide +kernel
theorem dX5_init_16 : decode cX5_init 16 = .ok (.new 9, 3) := by decide +kernel
theorem dX5_init_19 : decode cX5_init 19 = .ok (.dup, 1) := by decide +kernel
theorem dX5_init_20 : decode cX5_init 20 = .ok (.invokespecial 11, 3) := by decide +kernel
theorem dX5_init_23 : decode cX5_init 23 = .ok (.putfield 16, 3) := by decide +kernel
theorem dX5_init_26 : decode cX5_init 26 = .ok (.aload_n 0, 1) := by decide +kernel
theorem dX5_init_27 : decode cX5_init 27 = .ok (.new 9, 3) := by decide +kernel
theorem dX5_init_30 : decode cX5_init 30 = .ok (.dup, 1) := by decide +kernel
theorem dX5_init_31 : decode cX5_init 31 = .ok (.invokespecial 11, 3) := by decide +kernel
theorem dX5_init_34 : decode cX5_init 34 = .ok (.putfield 19, 3) := by decide +kernel
theorem dX5_init_37 : decode cX5_init 37 = .ok (.aload_n 0, 1) := by decide +kernel
theorem dX5_init_38 : decode cX5_init 38 = .ok (.new 9, 3) := by decide +kernel
theorem dX5_init_41 : decode cX5_init 41 = .ok (.dup, 1) := by decide +kernel
theorem dX5_init_42 : decode cX5_init 42 = .ok (.invokespecial 11, 3) := by decide +kernel
theorem dX5_init_45 : decode cX5_init 45 = .ok (.putfield 22, 3) := by decide +kernel
theorem dX5_init_48 : decode cX5_init 48 = .ok (.aload_n 0, 1) := by decide +kernel
theorem dX5_init_49 : decode cX5_init 49 = .ok (.new 25, 3) := by decide +kernel
theorem dX5_init_52 : decode cX5_init 52 = .ok (.dup, 1) := by decide +kernel
theorem dX5_init_53 : decode cX5_init 53 = .ok (.invokespecial 27, 3) := by decide +kernel
theorem dX5_init_56 : decode cX5_init 56 = .ok (.putfield 28, 3) := by decide +kernel
theorem dX5_init_59 : decode cX5_init 59 = .ok (.aload_n 0, 1) := by decide +kernel
theorem dX5_init_60 : decode cX5_init 60 = .ok (.iconst 0, 1) := by decide +kernel
theorem dX5_init_61 : decode cX5_init 61 = .ok (.putfield 32, 3) := by decide +kernel
theorem dX5_init_64 : decode cX5_init 64 = .ok (.return_, 1) := by decide +kernel
theorem dX5_addFund_0 : decode cX5_addFund 0 = .ok (.iload_n 1, 1) := by decide +kernel
theorem dX5_addFund_1 : decode cX5_addFund 1 = .ok (.iconst 0, 1) := by decide +kernel
theorem dX5_addFund_2 : decode cX5_addFund 2 = .ok (.ldc 36, 2) := by decide +kernel
theorem dX5_addFund_4 : decode cX5_addFund 4 = .ok (.invokestatic 37, 3) := by decide +kernel
theorem dX5_addFund_7 : decode cX5_addFund 7 = .ok (.iload_n 2, 1) := by decide +kernel
theorem dX5_addFund_8 : decode cX5_addFund 8 = .ok (.iconst 0, 1) := by decide +kernel
theorem dX5_addFund_9 : decode cX5_addFund 9 = .ok (.sipush 255, 3) := by decide +kernel
theorem dX5_addFund_12 : decode cX5_addFund 12 = .ok (.invokestatic 37, 3) := by decide +kernel
theorem dX5_addFund_15 : decode cX5_addFund 15 = .ok (.iload_n 3, 1) := by decide +kernel
theorem dX5_addFund_16 : decode cX5_addFund 16 = .ok (.iconst 0, 1) := by decide +kernel
theorem dX5_addFund_17 : decode cX5_addFund 17 = .ok (.sipush 999, 3) := by decide +kernel
theorem dX5_addFund_20 : decode cX5_addFund 20 = .ok (.invokestatic 37, 3) := by decide +kernel
theorem dX5_addFund_23 : decode cX5_addFund 23 = .ok (.iload 4, 2) := by decide +kernel
theorem dX5_addFund_25 : decode cX5_addFund 25 = .ok (.iconst 0, 1) := by decide +kernel
theorem dX5_addFund_26 : decode cX5_addFund 26 = .ok (.bipush 100, 2) := by decide +kernel
theorem dX5_addFund_28 : decode cX5_addFund 28 = .ok (.invokestatic 37, 3) := by decide +kernel
theorem dX5_addFund_31 : decode cX5_addFund 31 = .ok (.aload_n 0, 1) := by decide +kernel
theorem dX5_addFund_32 : decode cX5_addFund 32 = .ok (.getfield 12, 3) := by decide +kernel
theorem dX5_addFund_35 : decode cX5_addFund 35 = .ok (.invokevirtual 41, 3) := by decide +kernel
theorem dX5_addFund_38 : decode cX5_addFund 38 = .ok (.bipush 6, 2) := by decide +kernel
theorem dX5_addFund_40 : decode cX5_addFund 40 = .ok (.if_icmp .ge 7, 3) := by decide +kernel
theorem dX5_addFund_43 : decode cX5_addFund 43 = .ok (.iconst 1, 1) := by decide +kernel
theorem dX5_addFund_44 : decode cX5_addFund 44 = .ok (.goto 4, 3) := by decide +kernel
theorem dX5_addFund_47 : decode cX5_addFund 47 = .ok (.iconst 0, 1) := by decide +kernel
theorem dX5_addFund_48 : decode cX5_addFund 48 = .ok (.invokestatic 45, 3) := by decide +kernel
theorem dX5_addFund_51 : decode cX5_addFund 51 = .ok (.aload_n 0, 1) := by decide +kernel
theorem dX5_addFund_52 : decode cX5_addFund 52 = .ok (.getfield 12, 3) := by decide +kernel
theorem dX5_addFund_55 : decode cX5_addFund 55 = .ok (.invokevirtual 41, 3) := by decide +kernel
theorem dX5_addFund_58 : decode cX5_addFund 58 = .ok (.istore 5, 2) := by decide +kernel
theorem dX5_addFund_60 : decode cX5_addFund 60 = .ok (.aload_n 0, 1) := by decide +kernel
theorem dX5_addFund_61 : decode cX5_addFund 61 = .ok (.getfield 12, 3) := by decide +kernel
theorem dX5_addFund_64 : decode cX5_addFund 64 = .ok (.new 49, 3) := by decide +kernel
theorem dX5_addFund_67 : decode cX5_addFund 67 = .ok (.dup, 1) := by decide +kernel
theorem dX5_addFund_68 : decode cX5_addFund 68 = .ok (.iload 5, 2) := by decide +kernel
theorem dX5_addFund_70 : decode cX5_addFund 70 = .ok (.iload_n 1, 1) := by decide +kernel
theorem dX5_addFund_71 : decode cX5_addFund 71 = .ok (.iload_n 2, 1) := by decide +kernel
theorem dX5_addFund_72 : decode cX5_addFund 72 = .ok (.iload_n 3, 1) := by decide +kernel
theorem dX5_addFund_73 : decode cX5_addFund 73 = .ok (.iload 4, 2) := by decide +kernel
theorem dX5_addFund_75 : decode cX5_addFund 75 = .ok (.invokespecial 51, 3) := by decide +kernel
theorem dX5_addFund_78 : decode cX5_addFund 78 = .ok (.invokevirtual 54, 3) := by decide +kernel
theorem dX5_addFund_81 : decode cX5_addFund 81 = .ok (.pop, 1) := by decide +kernel
theorem dX5_addFund_82 : decode cX5_addFund 82 = .ok (.iload 5, 2) := by decide +kernel
theorem dX5_addFund_84 : decode cX5_addFund 84 = .ok (.ireturn, 1) := by decide +kernel
theorem dX5_deposit_0 : decode cX5_deposit 0 = .ok (.aload_n 0, 1) := by decide +kernel
theorem dX5_deposit_1 : decode cX5_deposit 1 = .ok (.iload_n 1, 1) := by decide +kernel
theorem dX5_deposit_2 : decode cX5_deposit 2 = .ok (.invokevirtual 58, 3) := by decide +kernel
theorem dX5_deposit_5 : decode cX5_deposit 5 = .ok (.astore_n 3, 1) := by decide +kernel
theorem dX5_deposit_6 : decode cX5_deposit 6 = .ok (.iload_n 2, 1) := by decide +kernel
theorem dX5_deposit_7 : decode cX5_deposit 7 = .ok (.iconst 1, 1) := by decide +kernel
theorem dX5_deposit_8 : decode cX5_deposit 8 = .ok (.ldc 36, 2) := by decide +kernel
theorem dX5_deposit_10 : decode cX5_deposit 10 = .ok (.invokestatic 37, 3) := by decide +kernel
theorem dX5_deposit_13 : decode cX5_deposit 13 = .ok (.aload_n 3, 1) := by decide +kernel
theorem dX5_deposit_14 : decode cX5_deposit 14 = .ok (.dup, 1) := by decide +kernel
theorem dX5_deposit_15 : decode cX5_deposit 15 = .ok (.getfield 62, 3) := by decide +kernel
theorem dX5_deposit_18 : decode cX5_deposit 18 = .ok (.iload_n 2, 1) := by decide +kernel
theorem dX5_deposit_19 : decode cX5_deposit 19 = .ok (.iadd, 1) := by decide +kernel
theorem dX5_deposit_20 : decode cX5_deposit 20 = .ok (.putfield 62, 3) := by decide +kernel
theorem dX5_deposit_23 : decode cX5_deposit 23 = .ok (.aload_n 3, 1) := by decide +kernel
theorem dX5_deposit_24 : decode cX5_deposit 24 = .ok (.getfield 62, 3) := by decide +kernel
theorem dX5_deposit_27 : decode cX5_deposit 27 = .ok (.ireturn, 1) := by decide +kernel
theorem dX5_commit_0 : decode cX5_commit 0 = .ok (.aload_n 0, 1) := by decide +kernel
theorem dX5_commit_1 : decode cX5_commit 1 = .ok (.iload_n 1, 1) := by decide +kernel
theorem dX5_commit_2 : decode cX5_commit 2 = .ok (.invokevirtual 58, 3) := by decide +kernel
theorem dX5_commit_5 : decode cX5_commit 5 = .ok (.astore 5, 2) := by decide +kernel
theorem dX5_commit_7 : decode cX5_commit 7 = .ok (.iload_n 2, 1) := by decide +kernel
theorem dX5_commit_8 : decode cX5_commit 8 = .ok (.iconst 0, 1) := by decide +kernel
theorem dX5_commit_9 : decode cX5_commit 9 = .ok (.bipush 7, 2) := by decide +kernel
theorem dX5_commit_11 : decode cX5_commit 11 = .ok (.invokestatic 37, 3) := by decide +kernel
theorem dX5_commit_14 : decode cX5_commit 14 = .ok (.iload_n 3, 1) := by decide +kernel
theorem dX5_commit_15 : decode cX5_commit 15 = .ok (.iconst 1, 1) := by decide +kernel
theorem dX5_commit_16 : decode cX5_commit 16 = .ok (.ldc 36, 2) := by decide +kernel
theorem dX5_commit_18 : decode cX5_commit 18 = .ok (.invokestatic 37, 3) := by decide +kernel
theorem dX5_commit_21 : decode cX5_commit 21 = .ok (.iload 4, 2) := by decide +kernel
theorem dX5_commit_23 : decode cX5_commit 23 = .ok (.aload_n 0, 1) := by decide +kernel
theorem dX5_commit_24 : decode cX5_commit 24 = .ok (.getfield 32, 3) := by decide +kernel
theorem dX5_commit_27 : decode cX5_commit 27 = .ok (.sipush 999, 3) := by decide +kernel
theorem dX5_commit_30 : decode cX5_commit 30 = .ok (.invokestatic 37, 3) := by decide +kernel
theorem dX5_commit_33 : decode cX5_commit 33 = .ok (.aload 5, 2) := by decide +kernel
theorem dX5_commit_35 : decode cX5_commit 35 = .ok (.iload_n 2, 1) := by decide +kernel
theorem dX5_commit_36 : decode cX5_commit 36 = .ok (.invokevirtual 65, 3) := by decide +kernel
theorem dX5_commit_39 : decode cX5_commit 39 = .ok (.invokestatic 45, 3) := by decide +kernel
theorem dX5_commit_42 : decode cX5_commit 42 = .ok (.aload 5, 2) := by decide +kernel
theorem dX5_commit_44 : decode cX5_commit 44 = .ok (.getfield 62, 3) := by decide +kernel
theorem dX5_commit_47 : decode cX5_commit 47 = .ok (.iload_n 3, 1) := by decide +kernel
theorem dX5_commit_48 : decode cX5_commit 48 = .ok (.if_icmp .lt 7, 3) := by decide +kernel
theorem dX5_commit_51 : decode cX5_commit 51 = .ok (.iconst 1, 1) := by decide +kernel
theorem dX5_commit_52 : decode cX5_commit 52 = .ok (.goto 4, 3) := by decide +kernel
theorem dX5_commit_55 : decode cX5_commit 55 = .ok (.iconst 0, 1) := by decide +kernel
theorem dX5_commit_56 : decode cX5_commit 56 = .ok (.invokestatic 45, 3) := by decide +kernel
theorem dX5_commit_59 : decode cX5_commit 59 = .ok (.aload_n 0, 1) := by decide +kernel
theorem dX5_commit_60 : decode cX5_commit 60 = .ok (.getfield 16, 3) := by decide +kernel
theorem dX5_commit_63 : decode cX5_commit 63 = .ok (.invokevirtual 41, 3) := by decide +kernel
theorem dX5_commit_66 : decode cX5_commit 66 = .ok (.bipush 6, 2) := by decide +kernel
theorem dX5_commit_68 : decode cX5_commit 68 = .ok (.if_icmp .ge 7, 3) := by decide +kernel
theorem dX5_commit_71 : decode cX5_commit 71 = .ok (.iconst 1, 1) := by decide +kernel
theorem dX5_commit_72 : decode cX5_commit 72 = .ok (.goto 4, 3) := by decide +kernel
theorem dX5_commit_75 : decode cX5_commit 75 = .ok (.iconst 0, 1) := by decide +kernel
theorem dX5_commit_76 : decode cX5_commit 76 = .ok (.invokestatic 45, 3) := by decide +kernel
theorem dX5_commit_79 : decode cX5_commit 79 = .ok (.aload 5, 2) := by decide +kernel
theorem dX5_commit_81 : decode cX5_commit 81 = .ok (.dup, 1) := by decide +kernel
theorem dX5_commit_82 : decode cX5_commit 82 = .ok (.getfield 62, 3) := by decide +kernel
theorem dX5_commit_85 : decode cX5_commit 85 = .ok (.iload_n 3, 1) := by decide +kernel
theorem dX5_commit_86 : decode cX5_commit 86 = .ok (.isub, 1) := by decide +kernel
theorem dX5_commit_87 : decode cX5_commit 87 = .ok (.putfield 62, 3) := by decide +kernel
theorem dX5_commit_90 : decode cX5_commit 90 = .ok (.aload_n 0, 1) := by decide +kernel
theorem dX5_commit_91 : decode cX5_commit 91 = .ok (.getfield 16, 3) := by decide +kernel
theorem dX5_commit_94 : decode cX5_commit 94 = .ok (.new 69, 3) := by decide +kernel
theorem dX5_commit_97 : decode cX5_commit 97 = .ok (.dup, 1) := by decide +kernel
theorem dX5_commit_98 : decode cX5_commit 98 = .ok (.aload 5, 2) := by decide +kernel
theorem dX5_commit_100 : decode cX5_commit 100 = .ok (.iload_n 2, 1) := by decide +kernel
theorem dX5_commit_101 : decode cX5_commit 101 = .ok (.iload_n 3, 1) := by decide +kernel
theorem dX5_commit_102 : decode cX5_commit 102 = .ok (.iload 4, 2) := by decide +kernel
theorem dX5_commit_104 : decode cX5_commit 104 = .ok (.invokespecial 71, 3) := by decide +kernel
theorem dX5_commit_107 : decode cX5_commit 107 = .ok (.invokevirtual 54, 3) := by decide +kernel
theorem dX5_commit_110 : decode cX5_commit 110 = .ok (.pop, 1) := by decide +kernel
theorem dX5_commit_111 : decode cX5_commit 111 = .ok (.aload_n 0, 1) := by decide +kernel
theorem dX5_commit_112 : decode cX5_commit 112 = .ok (.getfield 16, 3) := by decide +kernel
theorem dX5_commit_115 : decode cX5_commit 115 = .ok (.invokevirtual 41, 3) := by decide +kernel
theorem dX5_commit_118 : decode cX5_commit 118 = .ok (.ireturn, 1) := by decide +kernel
theorem dX5_cancel_0 : decode cX5_cancel 0 = .ok (.aload_n 0, 1) := by decide +kernel
theorem dX5_cancel_1 : decode cX5_cancel 1 = .ok (.iload_n 1, 1) := by decide +kernel
theorem dX5_cancel_2 : decode cX5_cancel 2 = .ok (.invokevirtual 74, 3) := by decide +kernel
theorem dX5_cancel_5 : decode cX5_cancel 5 = .ok (.getfield 78, 3) := by decide +kernel
theorem dX5_cancel_8 : decode cX5_cancel 8 = .ok (.istore_n 2, 1) := by decide +kernel
theorem dX5_cancel_9 : decode cX5_cancel 9 = .ok (.aload_n 0, 1) := by decide +kernel
theorem dX5_cancel_10 : decode cX5_cancel 10 = .ok (.iload_n 1, 1) := by decide +kernel
theorem dX5_cancel_11 : decode cX5_cancel 11 = .ok (.invokevirtual 79, 3) := by decide +kernel
theorem dX5_cancel_14 : decode cX5_cancel 14 = .ok (.iload_n 2, 1) := by decide +kernel
theorem dX5_cancel_15 : decode cX5_cancel 15 = .ok (.ireturn, 1) := by decide +kernel
theorem dX5_advance_0 : decode cX5_advance 0 = .ok (.iload_n 1, 1) := by decide +kernel
theorem dX5_advance_1 : decode cX5_advance 1 = .ok (.iconst 1, 1) := by decide +kernel
theorem dX5_advance_2 : decode cX5_advance 2 = .ok (.sipush 999, 3) := by decide +kernel
theorem dX5_advance_5 : decode cX5_advance 5 = .ok (.invokestatic 37, 3) := by decide +kernel
theorem dX5_advance_8 : decode cX5_advance 8 = .ok (.aload_n 0, 1) := by decide +kernel
theorem dX5_advance_9 : decode cX5_advance 9 = .ok (.getfield 32, 3) := by decide +kernel
theorem dX5_advance_12 : decode cX5_advance 12 = .ok (.iload_n 1, 1) := by decide +kernel
theorem dX5_advance_13 : decode cX5_advance 13 = .ok (.iadd, 1) := by decide +kernel
theorem dX5_advance_14 : decode cX5_advance 14 = .ok (.iconst 1, 1) := by decide +kernel
theorem dX5_advance_15 : decode cX5_advance 15 = .ok (.sipush 999, 3) := by decide +kernel
theorem dX5_advance_18 : decode cX5_advance 18 = .ok (.invokestatic 37, 3) := by decide +kernel
theorem dX5_advance_21 : decode cX5_advance 21 = .ok (.aload_n 0, 1) := by decide +kernel
theorem dX5_advance_22 : decode cX5_advance 22 = .ok (.dup, 1) := by decide +kernel
theorem dX5_advance_23 : decode cX5_advance 23 = .ok (.getfield 32, 3) := by decide +kernel
theorem dX5_advance_26 : decode cX5_advance 26 = .ok (.iload_n 1, 1) := by decide +kernel
theorem dX5_advance_27 : decode cX5_advance 27 = .ok (.iadd, 1) := by decide +kernel
theorem dX5_advance_28 : decode cX5_advance 28 = .ok (.putfield 32, 3) := by decide +kernel
theorem dX5_advance_31 : decode cX5_advance 31 = .ok (.aload_n 0, 1) := by decide +kernel
theorem dX5_advance_32 : decode cX5_advance 32 = .ok (.invokevirtual 83, 3) := by decide +kernel
theorem dX5_advance_35 : decode cX5_advance 35 = .ok (.ireturn, 1) := by decide +kernel
theorem dX5_addCost_0 : decode cX5_addCost 0 = .ok (.iload_n 1, 1) := by decide +kernel
theorem dX5_addCost_1 : decode cX5_addCost 1 = .ok (.iconst 0, 1) := by decide +kernel
theorem dX5_addCost_2 : decode cX5_addCost 2 = .ok (.bipush 7, 2) := by decide +kernel
theorem dX5_addCost_4 : decode cX5_addCost 4 = .ok (.invokestatic 37, 3) := by decide +kernel
theorem dX5_addCost_7 : decode cX5_addCost 7 = .ok (.iload_n 2, 1) := by decide +kernel
theorem dX5_addCost_8 : decode cX5_addCost 8 = .ok (.iconst 0, 1) := by decide +kernel
theorem dX5_addCost_9 : decode cX5_addCost 9 = .ok (.aload_n 0, 1) := by decide +kernel
theorem dX5_addCost_10 : decode cX5_addCost 10 = .ok (.getfield 32, 3) := by decide +kernel
theorem dX5_addCost_13 : decode cX5_addCost 13 = .ok (.invokestatic 37, 3) := by decide +kernel
theorem dX5_addCost_16 : decode cX5_addCost 16 = .ok (.iload_n 3, 1) := by decide +kernel
theorem dX5_addCost_17 : decode cX5_addCost 17 = .ok (.iconst 1, 1) := by decide +kernel
theorem dX5_addCost_18 : decode cX5_addCost 18 = .ok (.ldc 36, 2) := by decide +kernel
theorem dX5_addCost_20 : decode cX5_addCost 20 = .ok (.invokestatic 37, 3) := by decide +kernel
theorem dX5_addCost_23 : decode cX5_addCost 23 = .ok (.aload_n 0, 1) := by decide +kernel
theorem dX5_addCost_24 : decode cX5_addCost 24 = .ok (.getfield 19, 3) := by decide +kernel
theorem dX5_addCost_27 : decode cX5_addCost 27 = .ok (.invokevirtual 41, 3) := by decide +kernel
theorem dX5_addCost_30 : decode cX5_addCost 30 = .ok (.bipush 16, 2) := by decide +kernel
theorem dX5_addCost_32 : decode cX5_addCost 32 = .ok (.if_icmp .ge 7, 3) := by decide +kernel
theorem dX5_addCost_35 : decode cX5_addCost 35 = .ok (.iconst 1, 1) := by decide +kernel
theorem dX5_addCost_36 : decode cX5_addCost 36 = .ok (.goto 4, 3) := by decide +kernel
theorem dX5_addCost_39 : decode cX5_addCost 39 = .ok (.iconst 0, 1) := by decide +kernel
theorem dX5_addCost_40 : decode cX5_addCost 40 = .ok (.invokestatic 45, 3) := by decide +kernel
theorem dX5_addCost_43 : decode cX5_addCost 43 = .ok (.aload_n 0, 1) := by decide +kernel
theorem dX5_addCost_44 : decode cX5_addCost 44 = .ok (.getfield 19, 3) := by decide +kernel
theorem dX5_addCost_47 : decode cX5_addCost 47 = .ok (.new 86, 3) := by decide +kernel
theorem dX5_addCost_50 : decode cX5_addCost 50 = .ok (.dup, 1) := by decide +kernel
theorem dX5_addCost_51 : decode cX5_addCost 51 = .ok (.iload_n 1, 1) := by decide +kernel
theorem dX5_addCost_52 : decode cX5_addCost 52 = .ok (.iload_n 2, 1) := by decide +kernel
theorem dX5_addCost_53 : decode cX5_addCost 53 = .ok (.iload_n 3, 1) := by decide +kernel
theorem dX5_addCost_54 : decode cX5_addCost 54 = .ok (.invokespecial 88, 3) := by decide +kernel
theorem dX5_addCost_57 : decode cX5_addCost 57 = .ok (.invokevirtual 54, 3) := by decide +kernel
theorem dX5_addCost_60 : decode cX5_addCost 60 = .ok (.pop, 1) := by decide +kernel
theorem dX5_addCost_61 : decode cX5_addCost 61 = .ok (.aload_n 0, 1) := by decide +kernel
theorem dX5_addCost_62 : decode cX5_addCost 62 = .ok (.getfield 19, 3) := by decide +kernel
theorem dX5_addCost_65 : decode cX5_addCost 65 = .ok (.invokevirtual 41, 3) := by decide +kernel
theorem dX5_addCost_68 : decode cX5_addCost 68 = .ok (.iconst 1, 1) := by decide +kernel
theorem dX5_addCost_69 : decode cX5_addCost 69 = .ok (.isub, 1) := by decide +kernel
theorem dX5_addCost_70 : decode cX5_addCost 70 = .ok (.ireturn, 1) := by decide +kernel
theorem dX5_charge_0 : decode cX5_charge 0 = .ok (.aload_n 0, 1) := by decide +kernel
theorem dX5_charge_1 : decode cX5_charge 1 = .ok (.invokevirtual 90, 3) := by decide +kernel
theorem dX5_charge_4 : decode cX5_charge 4 = .ok (.aload_n 0, 1) := by decide +kernel
theorem dX5_charge_5 : decode cX5_charge 5 = .ok (.getfield 28, 3) := by decide +kernel
theorem dX5_charge_8 : decode cX5_charge 8 = .ok (.invokevirtual 93, 3) := by decide +kernel
theorem dX5_charge_11 : decode cX5_charge 11 = .ok (.aload_n 0, 1) := by decide +kernel
theorem dX5_charge_12 : decode cX5_charge 12 = .ok (.getfield 28, 3) := by decide +kernel
theorem dX5_charge_15 : decode cX5_charge 15 = .ok (.invokevirtual 96, 3) := by decide +kernel
theorem dX5_charge_18 : decode cX5_charge 18 = .ok (.aload_n 0, 1) := by decide +kernel
theorem dX5_charge_19 : decode cX5_charge 19 = .ok (.getfield 28, 3) := by decide +kernel
theorem dX5_charge_22 : decode cX5_charge 22 = .ok (.invokevirtual 99, 3) := by decide +kernel
theorem dX5_charge_25 : decode cX5_charge 25 = .ok (.aload_n 0, 1) := by decide +kernel
theorem dX5_charge_26 : decode cX5_charge 26 = .ok (.getfield 28, 3) := by decide +kernel
theorem dX5_charge_29 : decode cX5_charge 29 = .ok (.invokevirtual 102, 3) := by decide +kernel
theorem dX5_charge_32 : decode cX5_charge 32 = .ok (.istore_n 1, 1) := by decide +kernel
theorem dX5_charge_33 : decode cX5_charge 33 = .ok (.aload_n 0, 1) := by decide +kernel
theorem dX5_charge_34 : decode cX5_charge 34 = .ok (.invokevirtual 105, 3) := by decide +kernel
theorem dX5_charge_37 : decode cX5_charge 37 = .ok (.aload_n 0, 1) := by decide +kernel
theorem dX5_charge_38 : decode cX5_charge 38 = .ok (.invokevirtual 108, 3) := by decide +kernel
theorem dX5_charge_41 : decode cX5_charge 41 = .ok (.iload_n 1, 1) := by decide +kernel
theorem dX5_charge_42 : decode cX5_charge 42 = .ok (.ireturn, 1) := by decide +kernel
theorem dX5_chargeOverhead_0 : decode cX5_chargeOverhead 0 = .ok (.iload_n 1, 1) := by decide +kernel
theorem dX5_chargeOverhead_1 : decode cX5_chargeOverhead 1 = .ok (.iconst 1, 1) := by decide +kernel
theorem dX5_chargeOverhead_2 : decode cX5_chargeOverhead 2 = .ok (.ldc 36, 2) := by decide +kernel
theorem dX5_chargeOverhead_4 : decode cX5_chargeOverhead 4 = .ok (.invokestatic 37, 3) := by decide +kernel
theorem dX5_chargeOverhead_7 : decode cX5_chargeOverhead 7 = .ok (.iload_n 1, 1) := by decide +kernel
theorem dX5_chargeOverhead_8 : decode cX5_chargeOverhead 8 = .ok (.istore_n 2, 1) := by decide +kernel
theorem dX5_chargeOverhead_9 : decode cX5_chargeOverhead 9 = .ok (.iconst 1, 1) := by decide +kernel
theorem dX5_chargeOverhead_10 : decode cX5_chargeOverhead 10 = .ok (.istore_n 3, 1) := by decide +kernel
theorem dX5_chargeOverhead_11 : decode cX5_chargeOverhead 11 = .ok (.iconst 0, 1) := by decide +kernel
theorem dX5_chargeOverhead_12 : decode cX5_chargeOverhead 12 = .ok (.istore 4, 2) := by decide +kernel
theorem dX5_chargeOverhead_14 : decode cX5_chargeOverhead 14 = .ok (.iload 4, 2) := by decide +kernel
theorem dX5_chargeOverhead_16 : decode cX5_chargeOverhead 16 = .ok (.iload_n 1, 1) := by decide +kernel
theorem dX5_chargeOverhead_17 : decode cX5_chargeOverhead 17 = .ok (.if_icmp .ge 52, 3) := by decide +kernel
theorem dX5_chargeOverhead_20 : decode cX5_chargeOverhead 20 = .ok (.iload_n 3, 1) := by decide +kernel
theorem dX5_chargeOverhead_21 : decode cX5_chargeOverhead 21 = .ok (.ifCond .eq 48, 3) := by decide +kernel
theorem dX5_chargeOverhead_24 : decode cX5_chargeOverhead 24 = .ok (.iload_n 2, 1) := by decide +kernel
theorem dX5_chargeOverhead_25 : decode cX5_chargeOverhead 25 = .ok (.ifCond .le 44, 3) := by decide +kernel
theorem dX5_chargeOverhead_28 : decode cX5_chargeOverhead 28 = .ok (.aload_n 0, 1) := by decide +kernel
theorem dX5_chargeOverhead_29 : decode cX5_chargeOverhead 29 = .ok (.iload_n 2, 1) := by decide +kernel
theorem dX5_chargeOverhead_30 : decode cX5_chargeOverhead 30 = .ok (.invokevirtual 111, 3) := by decide +kernel
theorem dX5_chargeOverhead_33 : decode cX5_chargeOverhead 33 = .ok (.istore 5, 2) := by decide +kernel
theorem dX5_chargeOverhead_35 : decode cX5_chargeOverhead 35 = .ok (.iload 5, 2) := by decide +kernel
theorem dX5_chargeOverhead_37 : decode cX5_chargeOverhead 37 = .ok (.ifCond .ne 10, 3) := by decide +kernel
theorem dX5_chargeOverhead_40 : decode cX5_chargeOverhead 40 = .ok (.aload_n 0, 1) := by decide +kernel
theorem dX5_chargeOverhead_41 : decode cX5_chargeOverhead 41 = .ok (.iload_n 2, 1) := by decide +kernel
theorem dX5_chargeOverhead_42 : decode cX5_chargeOverhead 42 = .ok (.invokevirtual 115, 3) := by decide +kernel
theorem dX5_chargeOverhead_45 : decode cX5_chargeOverhead 45 = .ok (.istore 5, 2) := by decide +kernel
theorem dX5_chargeOverhead_47 : decode cX5_chargeOverhead 47 = .ok (.iload_n 2, 1) := by decide +kernel
theorem dX5_chargeOverhead_48 : decode cX5_chargeOverhead 48 = .ok (.iload 5, 2) := by decide +kernel
theorem dX5_chargeOverhead_50 : decode cX5_chargeOverhead 50 = .ok (.isub, 1) := by decide +kernel
theorem dX5_chargeOverhead_51 : decode cX5_chargeOverhead 51 = .ok (.istore_n 2, 1) := by decide +kernel
theorem dX5_chargeOverhead_52 : decode cX5_chargeOverhead 52 = .ok (.iload 5, 2) := by decide +kernel
theorem dX5_chargeOverhead_54 : decode cX5_chargeOverhead 54 = .ok (.ifCond .le 7, 3) := by decide +kernel
theorem dX5_chargeOverhead_57 : decode cX5_chargeOverhead 57 = .ok (.iconst 1, 1) := by decide +kernel
theorem dX5_chargeOverhead_58 : decode cX5_chargeOverhead 58 = .ok (.goto 4, 3) := by decide +kernel
theorem dX5_chargeOverhead_61 : decode cX5_chargeOverhead 61 = .ok (.iconst 0, 1) := by decide +kernel
theorem dX5_chargeOverhead_62 : decode cX5_chargeOverhead 62 = .ok (.istore_n 3, 1) := by decide +kernel
theorem dX5_chargeOverhead_63 : decode cX5_chargeOverhead 63 = .ok (.iinc 4 1, 3) := by decide +kernel
theorem dX5_chargeOverhead_66 : decode cX5_chargeOverhead 66 = .ok (.goto (-52), 3) := by decide +kernel
theorem dX5_chargeOverhead_69 : decode cX5_chargeOverhead 69 = .ok (.iload_n 1, 1) := by decide +kernel
theorem dX5_chargeOverhead_70 : decode cX5_chargeOverhead 70 = .ok (.iload_n 2, 1) := by decide +kernel
theorem dX5_chargeOverhead_71 : decode cX5_chargeOverhead 71 = .ok (.isub, 1) := by decide +kernel
theorem dX5_chargeOverhead_72 : decode cX5_chargeOverhead 72 = .ok (.ireturn, 1) := by decide +kernel
theorem dX5_today_0 : decode cX5_today 0 = .ok (.aload_n 0, 1) := by decide +kernel
theorem dX5_today_1 : decode cX5_today 1 = .ok (.getfield 32, 3) := by decide +kernel
theorem dX5_today_4 : decode cX5_today 4 = .ok (.ireturn, 1) := by decide +kernel
theorem dX5_funds_0 : decode cX5_funds 0 = .ok (.aload_n 0, 1) := by decide +kernel
theorem dX5_funds_1 : decode cX5_funds 1 = .ok (.getfield 12, 3) := by decide +kernel
theorem dX5_funds_4 : decode cX5_funds 4 = .ok (.invokevirtual 41, 3) := by decide +kernel
theorem dX5_funds_7 : decode cX5_funds 7 = .ok (.ireturn, 1) := by decide +kernel
theorem dX5_freeOf_0 : decode cX5_freeOf 0 = .ok (.aload_n 0, 1) := by decide +kernel
theorem dX5_freeOf_1 : decode cX5_freeOf 1 = .ok (.iload_n 1, 1) := by decide +kernel
theorem dX5_freeOf_2 : decode cX5_freeOf 2 = .ok (.invokevirtual 58, 3) := by decide +kernel
theorem dX5_freeOf_5 : decode cX5_freeOf 5 = .ok (.getfield 62, 3) := by decide +kernel
theorem dX5_freeOf_8 : decode cX5_freeOf 8 = .ok (.ireturn, 1) := by decide +kernel
theorem dX5_committedOf_0 : decode cX5_committedOf 0 = .ok (.aload_n 0, 1) := by decide +kernel
theorem dX5_committedOf_1 : decode cX5_committedOf 1 = .ok (.iload_n 1, 1) := by decide +kernel
theorem dX5_committedOf_2 : decode cX5_committedOf 2 = .ok (.invokevirtual 58, 3) := by decide +kernel
theorem dX5_committedOf_5 : decode cX5_committedOf 5 = .ok (.astore_n 2, 1) := by decide +kernel
theorem dX5_committedOf_6 : decode cX5_committedOf 6 = .ok (.iconst 0, 1) := by decide +kernel
theorem dX5_committedOf_7 : decode cX5_committedOf 7 = .ok (.istore_n 3, 1) := by decide +kernel
theorem dX5_committedOf_8 : decode cX5_committedOf 8 = .ok (.iconst 0, 1) := by decide +kernel
theorem dX5_committedOf_9 : decode cX5_committedOf 9 = .ok (.istore 4, 2) := by decide +kernel
theorem dX5_committedOf_11 : decode cX5_committedOf 11 = .ok (.iload 4, 2) := by decide +kernel
theorem dX5_committedOf_13 : decode cX5_committedOf 13 = .ok (.aload_n 0, 1) := by decide +kernel
theorem dX5_committedOf_14 : decode cX5_committedOf 14 = .ok (.getfield 16, 3) := by decide +kernel
theorem dX5_committedOf_17 : decode cX5_committedOf 17 = .ok (.invokevirtual 41, 3) := by decide +kernel
theorem dX5_committedOf_20 : decode cX5_committedOf 20 = .ok (.if_icmp .ge 40, 3) := by decide +kernel
theorem dX5_committedOf_23 : decode cX5_committedOf 23 = .ok (.aload_n 0, 1) := by decide +kernel
theorem dX5_committedOf_24 : decode cX5_committedOf 24 = .ok (.getfield 16, 3) := by decide +kernel
theorem dX5_committedOf_27 : decode cX5_committedOf 27 = .ok (.iload 4, 2) := by decide +kernel
theorem dX5_committedOf_29 : decode cX5_committedOf 29 = .ok (.invokevirtual 118, 3) := by decide +kernel
theorem dX5_committedOf_32 : decode cX5_committedOf 32 = .ok (.checkcast 69, 3) := by decide +kernel
theorem dX5_committedOf_35 : decode cX5_committedOf 35 = .ok (.astore 5, 2) := by decide +kernel
theorem dX5_committedOf_37 : decode cX5_committedOf 37 = .ok (.aload 5, 2) := by decide +kernel
theorem dX5_committedOf_39 : decode cX5_committedOf 39 = .ok (.invokevirtual 122, 3) := by decide +kernel
theorem dX5_committedOf_42 : decode cX5_committedOf 42 = .ok (.aload_n 2, 1) := by decide +kernel
theorem dX5_committedOf_43 : decode cX5_committedOf 43 = .ok (.if_acmp .ne 11, 3) := by decide +kernel
theorem dX5_committedOf_46 : decode cX5_committedOf 46 = .ok (.iload_n 3, 1) := by decide +kernel
theorem dX5_committedOf_47 : decode cX5_committedOf 47 = .ok (.aload 5, 2) := by decide +kernel
theorem dX5_committedOf_49 : decode cX5_committedOf 49 = .ok (.getfield 78, 3) := by decide +kernel
theorem dX5_committedOf_52 : decode cX5_committedOf 52 = .ok (.iadd, 1) := by decide +kernel
theorem dX5_committedOf_53 : decode cX5_committedOf 53 = .ok (.istore_n 3, 1) := by decide +kernel
theorem dX5_committedOf_54 : decode cX5_committedOf 54 = .ok (.iinc 4 1, 3) := by decide +kernel
theorem dX5_committedOf_57 : decode cX5_committedOf 57 = .ok (.goto (-46), 3) := by decide +kernel
theorem dX5_committedOf_60 : decode cX5_committedOf 60 = .ok (.iload_n 3, 1) := by decide +kernel
theorem dX5_committedOf_61 : decode cX5_committedOf 61 = .ok (.ireturn, 1) := by decide +kernel
theorem dX5_directOf_0 : decode cX5_directOf 0 = .ok (.aload_n 0, 1) := by decide +kernel
theorem dX5_directOf_1 : decode cX5_directOf 1 = .ok (.iload_n 1, 1) := by decide +kernel
theorem dX5_directOf_2 : decode cX5_directOf 2 = .ok (.invokevirtual 58, 3) := by decide +kernel
theorem dX5_directOf_5 : decode cX5_directOf 5 = .ok (.getfield 126, 3) := by decide +kernel
theorem dX5_directOf_8 : decode cX5_directOf 8 = .ok (.ireturn, 1) := by decide +kernel
theorem dX5_overheadOf_0 : decode cX5_overheadOf 0 = .ok (.aload_n 0, 1) := by decide +kernel
theorem dX5_overheadOf_1 : decode cX5_overheadOf 1 = .ok (.iload_n 1, 1) := by decide +kernel
theorem dX5_overheadOf_2 : decode cX5_overheadOf 2 = .ok (.invokevirtual 58, 3) := by decide +kernel
theorem dX5_overheadOf_5 : decode cX5_overheadOf 5 = .ok (.getfield 129, 3) := by decide +kernel
theorem dX5_overheadOf_8 : decode cX5_overheadOf 8 = .ok (.ireturn, 1) := by decide +kernel
theorem dX5_roomOf_0 : decode cX5_roomOf 0 = .ok (.aload_n 0, 1) := by decide +kernel
theorem dX5_roomOf_1 : decode cX5_roomOf 1 = .ok (.iload_n 1, 1) := by decide +kernel
theorem dX5_roomOf_2 : decode cX5_roomOf 2 = .ok (.invokevirtual 58, 3) := by decide +kernel
theorem dX5_roomOf_5 : decode cX5_roomOf 5 = .ok (.invokevirtual 132, 3) := by decide +kernel
theorem dX5_roomOf_8 : decode cX5_roomOf 8 = .ok (.ireturn, 1) := by decide +kernel
theorem dX5_commitments_0 : decode cX5_commitments 0 = .ok (.aload_n 0, 1) := by decide +kernel
theorem dX5_commitments_1 : decode cX5_commitments 1 = .ok (.getfield 16, 3) := by decide +kernel
theorem dX5_commitments_4 : decode cX5_commitments 4 = .ok (.invokevirtual 41, 3) := by decide +kernel
theorem dX5_commitments_7 : decode cX5_commitments 7 = .ok (.ireturn, 1) := by decide +kernel
theorem dX5_fundOf_0 : decode cX5_fundOf 0 = .ok (.aload_n 0, 1) := by decide +kernel
theorem dX5_fundOf_1 : decode cX5_fundOf 1 = .ok (.iload_n 1, 1) := by decide +kernel
theorem dX5_fundOf_2 : decode cX5_fundOf 2 = .ok (.invokevirtual 74, 3) := by decide +kernel
theorem dX5_fundOf_5 : decode cX5_fundOf 5 = .ok (.invokevirtual 122, 3) := by decide +kernel
theorem dX5_fundOf_8 : decode cX5_fundOf 8 = .ok (.getfield 135, 3) := by decide +kernel
theorem dX5_fundOf_11 : decode cX5_fundOf 11 = .ok (.ireturn, 1) := by decide +kernel
theorem dX5_leftOf_0 : decode cX5_leftOf 0 = .ok (.aload_n 0, 1) := by decide +kernel
theorem dX5_leftOf_1 : decode cX5_leftOf 1 = .ok (.iload_n 1, 1) := by decide +kernel
theorem dX5_leftOf_2 : decode cX5_leftOf 2 = .ok (.invokevirtual 74, 3) := by decide +kernel
theorem dX5_leftOf_5 : decode cX5_leftOf 5 = .ok (.getfield 78, 3) := by decide +kernel
theorem dX5_leftOf_8 : decode cX5_leftOf 8 = .ok (.ireturn, 1) := by decide +kernel
theorem dX5_untilOf_0 : decode cX5_untilOf 0 = .ok (.aload_n 0, 1) := by decide +kernel
theorem dX5_untilOf_1 : decode cX5_untilOf 1 = .ok (.iload_n 1, 1) := by decide +kernel
theorem dX5_untilOf_2 : decode cX5_untilOf 2 = .ok (.invokevirtual 74, 3) := by decide +kernel
theorem dX5_untilOf_5 : decode cX5_untilOf 5 = .ok (.invokevirtual 138, 3) := by decide +kernel
theorem dX5_untilOf_8 : decode cX5_untilOf 8 = .ok (.ireturn, 1) := by decide +kernel
theorem dX5_costs_0 : decode cX5_costs 0 = .ok (.aload_n 0, 1) := by decide +kernel
theorem dX5_costs_1 : decode cX5_costs 1 = .ok (.getfield 19, 3) := by decide +kernel
theorem dX5_costs_4 : decode cX5_costs 4 = .ok (.invokevirtual 41, 3) := by decide +kernel
theorem dX5_costs_7 : decode cX5_costs 7 = .ok (.ireturn, 1) := by decide +kernel
theorem dX5_unpaidOf_0 : decode cX5_unpaidOf 0 = .ok (.aload_n 0, 1) := by decide +kernel
theorem dX5_unpaidOf_1 : decode cX5_unpaidOf 1 = .ok (.iload_n 1, 1) := by decide +kernel
theorem dX5_unpaidOf_2 : decode cX5_unpaidOf 2 = .ok (.invokevirtual 141, 3) := by decide +kernel
theorem dX5_unpaidOf_5 : decode cX5_unpaidOf 5 = .ok (.getfield 145, 3) := by decide +kernel
theorem dX5_unpaidOf_8 : decode cX5_unpaidOf 8 = .ok (.ireturn, 1) := by decide +kernel
theorem dX5_paidBy_0 : decode cX5_paidBy 0 = .ok (.aload_n 0, 1) := by decide +kernel
theorem dX5_paidBy_1 : decode cX5_paidBy 1 = .ok (.iload_n 1, 1) := by decide +kernel
theorem dX5_paidBy_2 : decode cX5_paidBy 2 = .ok (.invokevirtual 141, 3) := by decide +kernel
theorem dX5_paidBy_5 : decode cX5_paidBy 5 = .ok (.astore_n 3, 1) := by decide +kernel
theorem dX5_paidBy_6 : decode cX5_paidBy 6 = .ok (.aload_n 3, 1) := by decide +kernel
theorem dX5_paidBy_7 : decode cX5_paidBy 7 = .ok (.aload_n 0, 1) := by decide +kernel
theorem dX5_paidBy_8 : decode cX5_paidBy 8 = .ok (.iload_n 2, 1) := by decide +kernel
theorem dX5_paidBy_9 : decode cX5_paidBy 9 = .ok (.invokevirtual 58, 3) := by decide +kernel
theorem dX5_paidBy_12 : decode cX5_paidBy 12 = .ok (.invokevirtual 148, 3) := by decide +kernel
theorem dX5_paidBy_15 : decode cX5_paidBy 15 = .ok (.ireturn, 1) := by decide +kernel
theorem dX5_payable_0 : decode cX5_payable 0 = .ok (.aload_n 0, 1) := by decide +kernel
theorem dX5_payable_1 : decode cX5_payable 1 = .ok (.invokevirtual 90, 3) := by decide +kernel
theorem dX5_payable_4 : decode cX5_payable 4 = .ok (.aload_n 0, 1) := by decide +kernel
theorem dX5_payable_5 : decode cX5_payable 5 = .ok (.getfield 28, 3) := by decide +kernel
theorem dX5_payable_8 : decode cX5_payable 8 = .ok (.invokevirtual 93, 3) := by decide +kernel
theorem dX5_payable_11 : decode cX5_payable 11 = .ok (.aload_n 0, 1) := by decide +kernel
theorem dX5_payable_12 : decode cX5_payable 12 = .ok (.getfield 28, 3) := by decide +kernel
theorem dX5_payable_15 : decode cX5_payable 15 = .ok (.invokevirtual 102, 3) := by decide +kernel
theorem dX5_payable_18 : decode cX5_payable 18 = .ok (.ireturn, 1) := by decide +kernel
theorem dX5_wouldPay_0 : decode cX5_wouldPay 0 = .ok (.aload_n 0, 1) := by decide +kernel
theorem dX5_wouldPay_1 : decode cX5_wouldPay 1 = .ok (.iload_n 1, 1) := by decide +kernel
theorem dX5_wouldPay_2 : decode cX5_wouldPay 2 = .ok (.invokevirtual 141, 3) := by decide +kernel
theorem dX5_wouldPay_5 : decode cX5_wouldPay 5 = .ok (.astore_n 2, 1) := by decide +kernel
theorem dX5_wouldPay_6 : decode cX5_wouldPay 6 = .ok (.aload_n 0, 1) := by decide +kernel
theorem dX5_wouldPay_7 : decode cX5_wouldPay 7 = .ok (.invokevirtual 90, 3) := by decide +kernel
theorem dX5_wouldPay_10 : decode cX5_wouldPay 10 = .ok (.aload_n 0, 1) := by decide +kernel
theorem dX5_wouldPay_11 : decode cX5_wouldPay 11 = .ok (.getfield 28, 3) := by decide +kernel
theorem dX5_wouldPay_14 : decode cX5_wouldPay 14 = .ok (.invokevirtual 93, 3) := by decide +kernel
theorem dX5_wouldPay_17 : decode cX5_wouldPay 17 = .ok (.aload_n 2, 1) := by decide +kernel
theorem dX5_wouldPay_18 : decode cX5_wouldPay 18 = .ok (.getfield 145, 3) := by decide +kernel
theorem dX5_wouldPay_21 : decode cX5_wouldPay 21 = .ok (.aload_n 0, 1) := by decide +kernel
theorem dX5_wouldPay_22 : decode cX5_wouldPay 22 = .ok (.getfield 28, 3) := by decide +kernel
theorem dX5_wouldPay_25 : decode cX5_wouldPay 25 = .ok (.iload_n 1, 1) := by decide +kernel
theorem dX5_wouldPay_26 : decode cX5_wouldPay 26 = .ok (.invokevirtual 152, 3) := by decide +kernel
theorem dX5_wouldPay_29 : decode cX5_wouldPay 29 = .ok (.isub, 1) := by decide +kernel
theorem dX5_wouldPay_30 : decode cX5_wouldPay 30 = .ok (.ireturn, 1) := by decide +kernel
theorem dX5_wouldTake_0 : decode cX5_wouldTake 0 = .ok (.aload_n 0, 1) := by decide +kernel
theorem dX5_wouldTake_1 : decode cX5_wouldTake 1 = .ok (.iload_n 1, 1) := by decide +kernel
theorem dX5_wouldTake_2 : decode cX5_wouldTake 2 = .ok (.invokevirtual 58, 3) := by decide +kernel
theorem dX5_wouldTake_5 : decode cX5_wouldTake 5 = .ok (.astore_n 2, 1) := by decide +kernel
theorem dX5_wouldTake_6 : decode cX5_wouldTake 6 = .ok (.aload_n 0, 1) := by decide +kernel
theorem dX5_wouldTake_7 : decode cX5_wouldTake 7 = .ok (.invokevirtual 90, 3) := by decide +kernel
theorem dX5_wouldTake_10 : decode cX5_wouldTake 10 = .ok (.aload_n 0, 1) := by decide +kernel
theorem dX5_wouldTake_11 : decode cX5_wouldTake 11 = .ok (.getfield 28, 3) := by decide +kernel
theorem dX5_wouldTake_14 : decode cX5_wouldTake 14 = .ok (.invokevirtual 93, 3) := by decide +kernel
theorem dX5_wouldTake_17 : decode cX5_wouldTake 17 = .ok (.aload_n 0, 1) := by decide +kernel
theorem dX5_wouldTake_18 : decode cX5_wouldTake 18 = .ok (.getfield 28, 3) := by decide +kernel
theorem dX5_wouldTake_21 : decode cX5_wouldTake 21 = .ok (.invokevirtual 96, 3) := by decide +kernel
theorem dX5_wouldTake_24 : decode cX5_wouldTake 24 = .ok (.iconst 0, 1) := by decide +kernel
theorem dX5_wouldTake_25 : decode cX5_wouldTake 25 = .ok (.istore_n 3, 1) := by decide +kernel
theorem dX5_wouldTake_26 : decode cX5_wouldTake 26 = .ok (.iconst 0, 1) := by decide +kernel
theorem dX5_wouldTake_27 : decode cX5_wouldTake 27 = .ok (.istore 4, 2) := by decide +kernel
theorem dX5_wouldTake_29 : decode cX5_wouldTake 29 = .ok (.iload 4, 2) := by decide +kernel
theorem dX5_wouldTake_31 : decode cX5_wouldTake 31 = .ok (.aload_n 0, 1) := by decide +kernel
theorem dX5_wouldTake_32 : decode cX5_wouldTake 32 = .ok (.getfield 22, 3) := by decide +kernel
theorem dX5_wouldTake_35 : decode cX5_wouldTake 35 = .ok (.invokevirtual 41, 3) := by decide +kernel
theorem dX5_wouldTake_38 : decode cX5_wouldTake 38 = .ok (.if_icmp .ge 50, 3) := by decide +kernel
theorem dX5_wouldTake_41 : decode cX5_wouldTake 41 = .ok (.aload_n 0, 1) := by decide +kernel
theorem dX5_wouldTake_42 : decode cX5_wouldTake 42 = .ok (.getfield 22, 3) := by decide +kernel
theorem dX5_wouldTake_45 : decode cX5_wouldTake 45 = .ok (.iload 4, 2) := by decide +kernel
theorem dX5_wouldTake_47 : decode cX5_wouldTake 47 = .ok (.invokevirtual 118, 3) := by decide +kernel
theorem dX5_wouldTake_50 : decode cX5_wouldTake 50 = .ok (.checkcast 155, 3) := by decide +kernel
theorem dX5_wouldTake_53 : decode cX5_wouldTake 53 = .ok (.astore 5, 2) := by decide +kernel
theorem dX5_wouldTake_55 : decode cX5_wouldTake 55 = .ok (.aload 5, 2) := by decide +kernel
theorem dX5_wouldTake_57 : decode cX5_wouldTake 57 = .ok (.invokevirtual 157, 3) := by decide +kernel
theorem dX5_wouldTake_60 : decode cX5_wouldTake 60 = .ok (.aload_n 2, 1) := by decide +kernel
theorem dX5_wouldTake_61 : decode cX5_wouldTake 61 = .ok (.if_acmp .ne 21, 3) := by decide +kernel
theorem dX5_wouldTake_64 : decode cX5_wouldTake 64 = .ok (.iload_n 3, 1) := by decide +kernel
theorem dX5_wouldTake_65 : decode cX5_wouldTake 65 = .ok (.aload 5, 2) := by decide +kernel
theorem dX5_wouldTake_67 : decode cX5_wouldTake 67 = .ok (.getfield 158, 3) := by decide +kernel
theorem dX5_wouldTake_70 : decode cX5_wouldTake 70 = .ok (.aload_n 0, 1) := by decide +kernel
theorem dX5_wouldTake_71 : decode cX5_wouldTake 71 = .ok (.getfield 28, 3) := by decide +kernel
theorem dX5_wouldTake_74 : decode cX5_wouldTake 74 = .ok (.iload 4, 2) := by decide +kernel
theorem dX5_wouldTake_76 : decode cX5_wouldTake 76 = .ok (.invokevirtual 159, 3) := by decide +kernel
theorem dX5_wouldTake_79 : decode cX5_wouldTake 79 = .ok (.isub, 1) := by decide +kernel
theorem dX5_wouldTake_80 : decode cX5_wouldTake 80 = .ok (.iadd, 1) := by decide +kernel
theorem dX5_wouldTake_81 : decode cX5_wouldTake 81 = .ok (.istore_n 3, 1) := by decide +kernel
theorem dX5_wouldTake_82 : decode cX5_wouldTake 82 = .ok (.iinc 4 1, 3) := by decide +kernel
theorem dX5_wouldTake_85 : decode cX5_wouldTake 85 = .ok (.goto (-56), 3) := by decide +kernel
theorem dX5_wouldTake_88 : decode cX5_wouldTake 88 = .ok (.iload_n 3, 1) := by decide +kernel
theorem dX5_wouldTake_89 : decode cX5_wouldTake 89 = .ok (.ireturn, 1) := by decide +kernel
theorem dX5_reason_0 : decode cX5_reason 0 = .ok (.aload_n 0, 1) := by decide +kernel
theorem dX5_reason_1 : decode cX5_reason 1 = .ok (.iload_n 1, 1) := by decide +kernel
theorem dX5_reason_2 : decode cX5_reason 2 = .ok (.invokevirtual 141, 3) := by decide +kernel
theorem dX5_reason_5 : decode cX5_reason 5 = .ok (.astore_n 2, 1) := by decide +kernel
theorem dX5_reason_6 : decode cX5_reason 6 = .ok (.aload_n 2, 1) := by decide +kernel
theorem dX5_reason_7 : decode cX5_reason 7 = .ok (.getfield 145, 3) := by decide +kernel
theorem dX5_reason_10 : decode cX5_reason 10 = .ok (.ifCond .ne 5, 3) := by decide +kernel
theorem dX5_reason_13 : decode cX5_reason 13 = .ok (.iconst 0, 1) := by decide +kernel
theorem dX5_reason_14 : decode cX5_reason 14 = .ok (.ireturn, 1) := by decide +kernel
theorem dX5_reason_15 : decode cX5_reason 15 = .ok (.aload_n 0, 1) := by decide +kernel
theorem dX5_reason_16 : decode cX5_reason 16 = .ok (.aload_n 2, 1) := by decide +kernel
theorem dX5_reason_17 : decode cX5_reason 17 = .ok (.invokevirtual 162, 3) := by decide +kernel
theorem dX5_reason_20 : decode cX5_reason 20 = .ok (.ifCond .ne 5, 3) := by decide +kernel
theorem dX5_reason_23 : decode cX5_reason 23 = .ok (.iconst 1, 1) := by decide +kernel
theorem dX5_reason_24 : decode cX5_reason 24 = .ok (.ireturn, 1) := by decide +kernel
theorem dX5_reason_25 : decode cX5_reason 25 = .ok (.aload_n 0, 1) := by decide +kernel
theorem dX5_reason_26 : decode cX5_reason 26 = .ok (.aload_n 2, 1) := by decide +kernel
theorem dX5_reason_27 : decode cX5_reason 27 = .ok (.invokevirtual 166, 3) := by decide +kernel
theorem dX5_reason_30 : decode cX5_reason 30 = .ok (.ifCond .ne 5, 3) := by decide +kernel
theorem dX5_reason_33 : decode cX5_reason 33 = .ok (.iconst 2, 1) := by decide +kernel
theorem dX5_reason_34 : decode cX5_reason 34 = .ok (.ireturn, 1) := by decide +kernel
theorem dX5_reason_35 : decode cX5_reason 35 = .ok (.aload_n 0, 1) := by decide +kernel
theorem dX5_reason_36 : decode cX5_reason 36 = .ok (.aload_n 2, 1) := by decide +kernel
theorem dX5_reason_37 : decode cX5_reason 37 = .ok (.invokevirtual 169, 3) := by decide +kernel
theorem dX5_reason_40 : decode cX5_reason 40 = .ok (.ifCond .eq 5, 3) := by decide +kernel
theorem dX5_reason_43 : decode cX5_reason 43 = .ok (.iconst 3, 1) := by decide +kernel
theorem dX5_reason_44 : decode cX5_reason 44 = .ok (.ireturn, 1) := by decide +kernel
theorem dX5_reason_45 : decode cX5_reason 45 = .ok (.aload_n 0, 1) := by decide +kernel
theorem dX5_reason_46 : decode cX5_reason 46 = .ok (.aload_n 2, 1) := by decide +kernel
theorem dX5_reason_47 : decode cX5_reason 47 = .ok (.invokevirtual 172, 3) := by decide +kernel
theorem dX5_reason_50 : decode cX5_reason 50 = .ok (.ifCond .eq 7, 3) := by decide +kernel
theorem dX5_reason_53 : decode cX5_reason 53 = .ok (.iconst 4, 1) := by decide +kernel
theorem dX5_reason_54 : decode cX5_reason 54 = .ok (.goto 4, 3) := by decide +kernel
theorem dX5_reason_57 : decode cX5_reason 57 = .ok (.iconst 5, 1) := by decide +kernel
theorem dX5_reason_58 : decode cX5_reason 58 = .ok (.ireturn, 1) := by decide +kernel
theorem dX5_requireRange_0 : decode cX5_requireRange 0 = .ok (.iload_n 0, 1) := by decide +kernel
theorem dX5_requireRange_1 : decode cX5_requireRange 1 = .ok (.iload_n 1, 1) := by decide +kernel
theorem dX5_requireRange_2 : decode cX5_requireRange 2 = .ok (.if_icmp .lt 8, 3) := by decide +kernel
theorem dX5_requireRange_5 : decode cX5_requireRange 5 = .ok (.iload_n 0, 1) := by decide +kernel
theorem dX5_requireRange_6 : decode cX5_requireRange 6 = .ok (.iload_n 2, 1) := by decide +kernel
theorem dX5_requireRange_7 : decode cX5_requireRange 7 = .ok (.if_icmp .le 13, 3) := by decide +kernel
theorem dX5_requireRange_10 : decode cX5_requireRange 10 = .ok (.new 175, 3) := by decide +kernel
theorem dX5_requireRange_13 : decode cX5_requireRange 13 = .ok (.dup, 1) := by decide +kernel
theorem dX5_requireRange_14 : decode cX5_requireRange 14 = .ok (.ldc 177, 2) := by decide +kernel
theorem dX5_requireRange_16 : decode cX5_requireRange 16 = .ok (.invokespecial 179, 3) := by decide +kernel
theorem dX5_requireRange_19 : decode cX5_requireRange 19 = .ok (.athrow, 1) := by decide +kernel
theorem dX5_requireRange_20 : decode cX5_requireRange 20 = .ok (.return_, 1) := by decide +kernel
theorem dX5_requireState_0 : decode cX5_requireState 0 = .ok (.iload_n 0, 1) := by decide +kernel
theorem dX5_requireState_1 : decode cX5_requireState 1 = .ok (.ifCond .ne 13, 3) := by decide +kernel
theorem dX5_requireState_4 : decode cX5_requireState 4 = .ok (.new 182, 3) := by decide +kernel
theorem dX5_requireState_7 : decode cX5_requireState 7 = .ok (.dup, 1) := by decide +kernel
theorem dX5_requireState_8 : decode cX5_requireState 8 = .ok (.ldc 184, 2) := by decide +kernel
theorem dX5_requireState_10 : decode cX5_requireState 10 = .ok (.invokespecial 186, 3) := by decide +kernel
theorem dX5_requireState_13 : decode cX5_requireState 13 = .ok (.athrow, 1) := by decide +kernel
theorem dX5_requireState_14 : decode cX5_requireState 14 = .ok (.return_, 1) := by decide +kernel
theorem dX5_fundAt_0 : decode cX5_fundAt 0 = .ok (.iload_n 1, 1) := by decide +kernel
theorem dX5_fundAt_1 : decode cX5_fundAt 1 = .ok (.ifCond .lt 14, 3) := by decide +kernel
theorem dX5_fundAt_4 : decode cX5_fundAt 4 = .ok (.iload_n 1, 1) := by decide +kernel
theorem dX5_fundAt_5 : decode cX5_fundAt 5 = .ok (.aload_n 0, 1) := by decide +kernel
theorem dX5_fundAt_6 : decode cX5_fundAt 6 = .ok (.getfield 12, 3) := by decide +kernel
theorem dX5_fundAt_9 : decode cX5_fundAt 9 = .ok (.invokevirtual 41, 3) := by decide +kernel
theorem dX5_fundAt_12 : decode cX5_fundAt 12 = .ok (.if_icmp .lt 13, 3) := by decide +kernel
theorem dX5_fundAt_15 : decode cX5_fundAt 15 = .ok (.new 187, 3) := by decide +kernel
theorem dX5_fundAt_18 : decode cX5_fundAt 18 = .ok (.dup, 1) := by decide +kernel
theorem dX5_fundAt_19 : decode cX5_fundAt 19 = .ok (.ldc 189, 2) := by decide +kernel
theorem dX5_fundAt_21 : decode cX5_fundAt 21 = .ok (.invokespecial 191, 3) := by decide +kernel
theorem dX5_fundAt_24 : decode cX5_fundAt 24 = .ok (.athrow, 1) := by decide +kernel
theorem dX5_fundAt_25 : decode cX5_fundAt 25 = .ok (.aload_n 0, 1) := by decide +kernel
theorem dX5_fundAt_26 : decode cX5_fundAt 26 = .ok (.getfield 12, 3) := by decide +kernel
theorem dX5_fundAt_29 : decode cX5_fundAt 29 = .ok (.iload_n 1, 1) := by decide +kernel
theorem dX5_fundAt_30 : decode cX5_fundAt 30 = .ok (.invokevirtual 118, 3) := by decide +kernel
theorem dX5_fundAt_33 : decode cX5_fundAt 33 = .ok (.checkcast 49, 3) := by decide +kernel
theorem dX5_fundAt_36 : decode cX5_fundAt 36 = .ok (.areturn, 1) := by decide +kernel
theorem dX5_commitmentAt_0 : decode cX5_commitmentAt 0 = .ok (.iload_n 1, 1) := by decide +kernel
theorem dX5_commitmentAt_1 : decode cX5_commitmentAt 1 = .ok (.ifCond .lt 14, 3) := by decide +kernel
theorem dX5_commitmentAt_4 : decode cX5_commitmentAt 4 = .ok (.iload_n 1, 1) := by decide +kernel
theorem dX5_commitmentAt_5 : decode cX5_commitmentAt 5 = .ok (.aload_n 0, 1) := by decide +kernel
theorem dX5_commitmentAt_6 : decode cX5_commitmentAt 6 = .ok (.getfield 16, 3) := by decide +kernel
theorem dX5_commitmentAt_9 : decode cX5_commitmentAt 9 = .ok (.invokevirtual 41, 3) := by decide +kernel
theorem dX5_commitmentAt_12 : decode cX5_commitmentAt 12 = .ok (.if_icmp .lt 13, 3) := by decide +kernel
theorem dX5_commitmentAt_15 : decode cX5_commitmentAt 15 = .ok (.new 187, 3) := by decide +kernel
theorem dX5_commitmentAt_18 : decode cX5_commitmentAt 18 = .ok (.dup, 1) := by decide +kernel
theorem dX5_commitmentAt_19 : decode cX5_commitmentAt 19 = .ok (.ldc 192, 2) := by decide +kernel
theorem dX5_commitmentAt_21 : decode cX5_commitmentAt 21 = .ok (.invokespecial 191, 3) := by decide +kernel
theorem dX5_commitmentAt_24 : decode cX5_commitmentAt 24 = .ok (.athrow, 1) := by decide +kernel
theorem dX5_commitmentAt_25 : decode cX5_commitmentAt 25 = .ok (.aload_n 0, 1) := by decide +kernel
theorem dX5_commitmentAt_26 : decode cX5_commitmentAt 26 = .ok (.getfield 16, 3) := by decide +kernel
theorem dX5_commitmentAt_29 : decode cX5_commitmentAt 29 = .ok (.iload_n 1, 1) := by decide +kernel
theorem dX5_commitmentAt_30 : decode cX5_commitmentAt 30 = .ok (.invokevirtual 118, 3) := by decide +kernel
theorem dX5_commitmentAt_33 : decode cX5_commitmentAt 33 = .ok (.checkcast 69, 3) := by decide +kernel
theorem dX5_commitmentAt_36 : decode cX5_commitmentAt 36 = .ok (.areturn, 1) := by decide +kernel
theorem dX5_costAt_0 : decode cX5_costAt 0 = .ok (.iload_n 1, 1) := by decide +kernel
theorem dX5_costAt_1 : decode cX5_costAt 1 = .ok (.ifCond .lt 14, 3) := by decide +kernel
theorem dX5_costAt_4 : decode cX5_costAt 4 = .ok (.iload_n 1, 1) := by decide +kernel
theorem dX5_costAt_5 : decode cX5_costAt 5 = .ok (.aload_n 0, 1) := by decide +kernel
theorem dX5_costAt_6 : decode cX5_costAt 6 = .ok (.getfield 19, 3) := by decide +kernel
theorem dX5_costAt_9 : decode cX5_costAt 9 = .ok (.invokevirtual 41, 3) := by decide +kernel
theorem dX5_costAt_12 : decode cX5_costAt 12 = .ok (.if_icmp .lt 13, 3) := by decide +kernel
theorem dX5_costAt_15 : decode cX5_costAt 15 = .ok (.new 187, 3) := by decide +kernel
theorem dX5_costAt_18 : decode cX5_costAt 18 = .ok (.dup, 1) := by decide +kernel
theorem dX5_costAt_19 : decode cX5_costAt 19 = .ok (.ldc 194, 2) := by decide +kernel
theorem dX5_costAt_21 : decode cX5_costAt 21 = .ok (.invokespecial 191, 3) := by decide +kernel
theorem dX5_costAt_24 : decode cX5_costAt 24 = .ok (.athrow, 1) := by decide +kernel
theorem dX5_costAt_25 : decode cX5_costAt 25 = .ok (.aload_n 0, 1) := by decide +kernel
theorem dX5_costAt_26 : decode cX5_costAt 26 = .ok (.getfield 19, 3) := by decide +kernel
theorem dX5_costAt_29 : decode cX5_costAt 29 = .ok (.iload_n 1, 1) := by decide +kernel
theorem dX5_costAt_30 : decode cX5_costAt 30 = .ok (.invokevirtual 118, 3) := by decide +kernel
theorem dX5_costAt_33 : decode cX5_costAt 33 = .ok (.checkcast 86, 3) := by decide +kernel
theorem dX5_costAt_36 : decode cX5_costAt 36 = .ok (.areturn, 1) := by decide +kernel
theorem dX5_endCommitment_0 : decode cX5_endCommitment 0 = .ok (.iload_n 1, 1) := by decide +kernel
theorem dX5_endCommitment_1 : decode cX5_endCommitment 1 = .ok (.ifCond .lt 14, 3) := by decide +kernel
theorem dX5_endCommitment_4 : decode cX5_endCommitment 4 = .ok (.iload_n 1, 1) := by decide +kernel
theorem dX5_endCommitment_5 : decode cX5_endCommitment 5 = .ok (.aload_n 0, 1) := by decide +kernel
theorem dX5_endCommitment_6 : decode cX5_endCommitment 6 = .ok (.getfield 16, 3) := by decide +kernel
theorem dX5_endCommitment_9 : decode cX5_endCommitment 9 = .ok (.invokevirtual 41, 3) := by decide +kernel
theorem dX5_endCommitment_12 : decode cX5_endCommitment 12 = .ok (.if_icmp .lt 4, 3) := by decide +kernel
theorem dX5_endCommitment_15 : decode cX5_endCommitment 15 = .ok (.return_, 1) := by decide +kernel
theorem dX5_endCommitment_16 : decode cX5_endCommitment 16 = .ok (.aload_n 0, 1) := by decide +kernel
theorem dX5_endCommitment_17 : decode cX5_endCommitment 17 = .ok (.getfield 16, 3) := by decide +kernel
theorem dX5_endCommitment_20 : decode cX5_endCommitment 20 = .ok (.iload_n 1, 1) := by decide +kernel
theorem dX5_endCommitment_21 : decode cX5_endCommitment 21 = .ok (.invokevirtual 118, 3) := by decide +kernel
theorem dX5_endCommitment_24 : decode cX5_endCommitment 24 = .ok (.checkcast 69, 3) := by decide +kernel
theorem dX5_endCommitment_27 : decode cX5_endCommitment 27 = .ok (.astore_n 2, 1) := by decide +kernel
theorem dX5_endCommitment_28 : decode cX5_endCommitment 28 = .ok (.aload_n 2, 1) := by decide +kernel
theorem dX5_endCommitment_29 : decode cX5_endCommitment 29 = .ok (.invokevirtual 122, 3) := by decide +kernel
theorem dX5_endCommitment_32 : decode cX5_endCommitment 32 = .ok (.dup, 1) := by decide +kernel
theorem dX5_endCommitment_33 : decode cX5_endCommitment 33 = .ok (.getfield 62, 3) := by decide +kernel
theorem dX5_endCommitment_36 : decode cX5_endCommitment 36 = .ok (.aload_n 2, 1) := by decide +kernel
theorem dX5_endCommitment_37 : decode cX5_endCommitment 37 = .ok (.getfield 78, 3) := by decide +kernel
theorem dX5_endCommitment_40 : decode cX5_endCommitment 40 = .ok (.iadd, 1) := by decide +kernel
theorem dX5_endCommitment_41 : decode cX5_endCommitment 41 = .ok (.putfield 62, 3) := by decide +kernel
theorem dX5_endCommitment_44 : decode cX5_endCommitment 44 = .ok (.aload_n 0, 1) := by decide +kernel
theorem dX5_endCommitment_45 : decode cX5_endCommitment 45 = .ok (.getfield 16, 3) := by decide +kernel
theorem dX5_endCommitment_48 : decode cX5_endCommitment 48 = .ok (.iload_n 1, 1) := by decide +kernel
theorem dX5_endCommitment_49 : decode cX5_endCommitment 49 = .ok (.invokevirtual 196, 3) := by decide +kernel
theorem dX5_endCommitment_52 : decode cX5_endCommitment 52 = .ok (.pop, 1) := by decide +kernel
theorem dX5_endCommitment_53 : decode cX5_endCommitment 53 = .ok (.return_, 1) := by decide +kernel
theorem dX5_lapseCommitments_0 : decode cX5_lapseCommitments 0 = .ok (.iconst 0, 1) := by decide +kernel
theorem dX5_lapseCommitments_1 : decode cX5_lapseCommitments 1 = .ok (.istore_n 1, 1) := by decide +kernel
theorem dX5_lapseCommitments_2 : decode cX5_lapseCommitments 2 = .ok (.aload_n 0, 1) := by decide +kernel
theorem dX5_lapseCommitments_3 : decode cX5_lapseCommitments 3 = .ok (.getfield 16, 3) := by decide +kernel
theorem dX5_lapseCommitments_6 : decode cX5_lapseCommitments 6 = .ok (.invokevirtual 41, 3) := by decide +kernel
theorem dX5_lapseCommitments_9 : decode cX5_lapseCommitments 9 = .ok (.iconst 1, 1) := by decide +kernel
theorem dX5_lapseCommitments_10 : decode cX5_lapseCommitments 10 = .ok (.isub, 1) := by decide +kernel
theorem dX5_lapseCommitments_11 : decode cX5_lapseCommitments 11 = .ok (.istore_n 2, 1) := by decide +kernel
theorem dX5_lapseCommitments_12 : decode cX5_lapseCommitments 12 = .ok (.iload_n 2, 1) := by decide +kernel
theorem dX5_lapseCommitments_13 : decode cX5_lapseCommitments 13 = .ok (.ifCond .lt 38, 3) := by decide +kernel
theorem dX5_lapseCommitments_16 : decode cX5_lapseCommitments 16 = .ok (.aload_n 0, 1) := by decide +kernel
theorem dX5_lapseCommitments_17 : decode cX5_lapseCommitments 17 = .ok (.getfield 16, 3) := by decide +kernel
theorem dX5_lapseCommitments_20 : decode cX5_lapseCommitments 20 = .ok (.iload_n 2, 1) := by decide +kernel
theorem dX5_lapseCommitments_21 : decode cX5_lapseCommitments 21 = .ok (.invokevirtual 118, 3) := by decide +kernel
theorem dX5_lapseCommitments_24 : decode cX5_lapseCommitments 24 = .ok (.checkcast 69, 3) := by decide +kernel
theorem dX5_lapseCommitments_27 : decode cX5_lapseCommitments 27 = .ok (.invokevirtual 138, 3) := by decide +kernel
theorem dX5_lapseCommitments_30 : decode cX5_lapseCommitments 30 = .ok (.aload_n 0, 1) := by decide +kernel
theorem dX5_lapseCommitments_31 : decode cX5_lapseCommitments 31 = .ok (.getfield 32, 3) := by decide +kernel
theorem dX5_lapseCommitments_34 : decode cX5_lapseCommitments 34 = .ok (.if_icmp .ge 11, 3) := by decide +kernel
theorem dX5_lapseCommitments_37 : decode cX5_lapseCommitments 37 = .ok (.aload_n 0, 1) := by decide +kernel
theorem dX5_lapseCommitments_38 : decode cX5_lapseCommitments 38 = .ok (.iload_n 2, 1) := by decide +kernel
theorem dX5_lapseCommitments_39 : decode cX5_lapseCommitments 39 = .ok (.invokevirtual 79, 3) := by decide +kernel
theorem dX5_lapseCommitments_42 : decode cX5_lapseCommitments 42 = .ok (.iinc 1 1, 3) := by decide +kernel
theorem dX5_lapseCommitments_45 : decode cX5_lapseCommitments 45 = .ok (.iinc 2 (-1), 3) := by decide +kernel
theorem dX5_lapseCommitments_48 : decode cX5_lapseCommitments 48 = .ok (.goto (-36), 3) := by decide +kernel
theorem dX5_lapseCommitments_51 : decode cX5_lapseCommitments 51 = .ok (.iload_n 1, 1) := by decide +kernel
theorem dX5_lapseCommitments_52 : decode cX5_lapseCommitments 52 = .ok (.ireturn, 1) := by decide +kernel
theorem dX5_endEmptyCommitments_0 : decode cX5_endEmptyCommitments 0 = .ok (.aload_n 0, 1) := by decide +kernel
theorem dX5_endEmptyCommitments_1 : decode cX5_endEmptyCommitments 1 = .ok (.getfield 16, 3) := by decide +kernel
theorem dX5_endEmptyCommitments_4 : decode cX5_endEmptyCommitments 4 = .ok (.invokevirtual 41, 3) := by decide +kernel
theorem dX5_endEmptyCommitments_7 : decode cX5_endEmptyCommitments 7 = .ok (.iconst 1, 1) := by decide +kernel
theorem dX5_endEmptyCommitments_8 : decode cX5_endEmptyCommitments 8 = .ok (.isub, 1) := by decide +kernel
theorem dX5_endEmptyCommitments_9 : decode cX5_endEmptyCommitments 9 = .ok (.istore_n 1, 1) := by decide +kernel
theorem dX5_endEmptyCommitments_10 : decode cX5_endEmptyCommitments 10 = .ok (.iload_n 1, 1) := by decide +kernel
theorem dX5_endEmptyCommitments_11 : decode cX5_endEmptyCommitments 11 = .ok (.ifCond .lt 31, 3) := by decide +kernel
theorem dX5_endEmptyCommitments_14 : decode cX5_endEmptyCommitments 14 = .ok (.aload_n 0, 1) := by decide +kernel
theorem dX5_endEmptyCommitments_15 : decode cX5_endEmptyCommitments 15 = .ok (.getfield 16, 3) := by decide +kernel
theorem dX5_endEmptyCommitments_18 : decode cX5_endEmptyCommitments 18 = .ok (.iload_n 1, 1) := by decide +kernel
theorem dX5_endEmptyCommitments_19 : decode cX5_endEmptyCommitments 19 = .ok (.invokevirtual 118, 3) := by decide +kernel
theorem dX5_endEmptyCommitments_22 : decode cX5_endEmptyCommitments 22 = .ok (.checkcast 69, 3) := by decide +kernel
theorem dX5_endEmptyCommitments_25 : decode cX5_endEmptyCommitments 25 = .ok (.getfield 78, 3) := by decide +kernel
theorem dX5_endEmptyCommitments_28 : decode cX5_endEmptyCommitments 28 = .ok (.ifCond .ne 8, 3) := by decide +kernel
theorem dX5_endEmptyCommitments_31 : decode cX5_endEmptyCommitments 31 = .ok (.aload_n 0, 1) := by decide +kernel
theorem dX5_endEmptyCommitments_32 : decode cX5_endEmptyCommitments 32 = .ok (.iload_n 1, 1) := by decide +kernel
theorem dX5_endEmptyCommitments_33 : decode cX5_endEmptyCommitments 33 = .ok (.invokevirtual 79, 3) := by decide +kernel
theorem dX5_endEmptyCommitments_36 : decode cX5_endEmptyCommitments 36 = .ok (.iinc 1 (-1), 3) := by decide +kernel
theorem dX5_endEmptyCommitments_39 : decode cX5_endEmptyCommitments 39 = .ok (.goto (-29), 3) := by decide +kernel
theorem dX5_endEmptyCommitments_42 : decode cX5_endEmptyCommitments 42 = .ok (.return_, 1) := by decide +kernel
theorem dX5_preparePlan_0 : decode cX5_preparePlan 0 = .ok (.aload_n 0, 1) := by decide +kernel
theorem dX5_preparePlan_1 : decode cX5_preparePlan 1 = .ok (.invokevirtual 199, 3) := by decide +kernel
theorem dX5_preparePlan_4 : decode cX5_preparePlan 4 = .ok (.aload_n 0, 1) := by decide +kernel
theorem dX5_preparePlan_5 : decode cX5_preparePlan 5 = .ok (.getfield 28, 3) := by decide +kernel
theorem dX5_preparePlan_8 : decode cX5_preparePlan 8 = .ok (.aload_n 0, 1) := by decide +kernel
theorem dX5_preparePlan_9 : decode cX5_preparePlan 9 = .ok (.getfield 22, 3) := by decide +kernel
theorem dX5_preparePlan_12 : decode cX5_preparePlan 12 = .ok (.invokevirtual 41, 3) := by decide +kernel
theorem dX5_preparePlan_15 : decode cX5_preparePlan 15 = .ok (.aload_n 0, 1) := by decide +kernel
theorem dX5_preparePlan_16 : decode cX5_preparePlan 16 = .ok (.getfield 19, 3) := by decide +kernel
theorem dX5_preparePlan_19 : decode cX5_preparePlan 19 = .ok (.invokevirtual 41, 3) := by decide +kernel
theorem dX5_preparePlan_22 : decode cX5_preparePlan 22 = .ok (.invokevirtual 202, 3) := by decide +kernel
theorem dX5_preparePlan_25 : decode cX5_preparePlan 25 = .ok (.iconst 0, 1) := by decide +kernel
theorem dX5_preparePlan_26 : decode cX5_preparePlan 26 = .ok (.istore_n 1, 1) := by decide +kernel
theorem dX5_preparePlan_27 : decode cX5_preparePlan 27 = .ok (.iload_n 1, 1) := by decide +kernel
theorem dX5_preparePlan_28 : decode cX5_preparePlan 28 = .ok (.aload_n 0, 1) := by decide +kernel
theorem dX5_preparePlan_29 : decode cX5_preparePlan 29 = .ok (.getfield 19, 3) := by decide +kernel
theorem dX5_preparePlan_32 : decode cX5_preparePlan 32 = .ok (.invokevirtual 41, 3) := by decide +kernel
theorem dX5_preparePlan_35 : decode cX5_preparePlan 35 = .ok (.if_icmp .ge 31, 3) := by decide +kernel
theorem dX5_preparePlan_38 : decode cX5_preparePlan 38 = .ok (.aload_n 0, 1) := by decide +kernel
theorem dX5_preparePlan_39 : decode cX5_preparePlan 39 = .ok (.getfield 28, 3) := by decide +kernel
theorem dX5_preparePlan_42 : decode cX5_preparePlan 42 = .ok (.iload_n 1, 1) := by decide +kernel
theorem dX5_preparePlan_43 : decode cX5_preparePlan 43 = .ok (.aload_n 0, 1) := by decide +kernel
theorem dX5_preparePlan_44 : decode cX5_preparePlan 44 = .ok (.getfield 19, 3) := by decide +kernel
theorem dX5_preparePlan_47 : decode cX5_preparePlan 47 = .ok (.iload_n 1, 1) := by decide +kernel
theorem dX5_preparePlan_48 : decode cX5_preparePlan 48 = .ok (.invokevirtual 118, 3) := by decide +kernel
theorem dX5_preparePlan_51 : decode cX5_preparePlan 51 = .ok (.checkcast 86, 3) := by decide +kernel
theorem dX5_preparePlan_54 : decode cX5_preparePlan 54 = .ok (.getfield 145, 3) := by decide +kernel
theorem dX5_preparePlan_57 : decode cX5_preparePlan 57 = .ok (.invokevirtual 206, 3) := by decide +kernel
theorem dX5_preparePlan_60 : decode cX5_preparePlan 60 = .ok (.iinc 1 1, 3) := by decide +kernel
theorem dX5_preparePlan_63 : decode cX5_preparePlan 63 = .ok (.goto (-36), 3) := by decide +kernel
theorem dX5_preparePlan_66 : decode cX5_preparePlan 66 = .ok (.iconst 0, 1) := by decide +kernel
theorem dX5_preparePlan_67 : decode cX5_preparePlan 67 = .ok (.istore_n 1, 1) := by decide +kernel
theorem dX5_preparePlan_68 : decode cX5_preparePlan 68 = .ok (.iload_n 1, 1) := by decide +kernel
theorem dX5_preparePlan_69 : decode cX5_preparePlan 69 = .ok (.aload_n 0, 1) := by decide +kernel
theorem dX5_preparePlan_70 : decode cX5_preparePlan 70 = .ok (.getfield 22, 3) := by decide +kernel
theorem dX5_preparePlan_73 : decode cX5_preparePlan 73 = .ok (.invokevirtual 41, 3) := by decide +kernel
theorem dX5_preparePlan_76 : decode cX5_preparePlan 76 = .ok (.if_icmp .ge 38, 3) := by decide +kernel
theorem dX5_preparePlan_79 : decode cX5_preparePlan 79 = .ok (.aload_n 0, 1) := by decide +kernel
theorem dX5_preparePlan_80 : decode cX5_preparePlan 80 = .ok (.getfield 22, 3) := by decide +kernel
theorem dX5_preparePlan_83 : decode cX5_preparePlan 83 = .ok (.iload_n 1, 1) := by decide +kernel
theorem dX5_preparePlan_84 : decode cX5_preparePlan 84 = .ok (.invokevirtual 118, 3) := by decide +kernel
theorem dX5_preparePlan_87 : decode cX5_preparePlan 87 = .ok (.checkcast 155, 3) := by decide +kernel
theorem dX5_preparePlan_90 : decode cX5_preparePlan 90 = .ok (.astore_n 2, 1) := by decide +kernel
theorem dX5_preparePlan_91 : decode cX5_preparePlan 91 = .ok (.aload_n 0, 1) := by decide +kernel
theorem dX5_preparePlan_92 : decode cX5_preparePlan 92 = .ok (.getfield 28, 3) := by decide +kernel
theorem dX5_preparePlan_95 : decode cX5_preparePlan 95 = .ok (.iload_n 1, 1) := by decide +kernel
theorem dX5_preparePlan_96 : decode cX5_preparePlan 96 = .ok (.aload_n 2, 1) := by decide +kernel
theorem dX5_preparePlan_97 : decode cX5_preparePlan 97 = .ok (.getfield 158, 3) := by decide +kernel
theorem dX5_preparePlan_100 : decode cX5_preparePlan 100 = .ok (.aload_n 0, 1) := by decide +kernel
theorem dX5_preparePlan_101 : decode cX5_preparePlan 101 = .ok (.aload_n 2, 1) := by decide +kernel
theorem dX5_preparePlan_102 : decode cX5_preparePlan 102 = .ok (.invokevirtual 209, 3) := by decide +kernel
theorem dX5_preparePlan_105 : decode cX5_preparePlan 105 = .ok (.invokevirtual 213, 3) := by decide +kernel
theorem dX5_preparePlan_108 : decode cX5_preparePlan 108 = .ok (.iinc 1 1, 3) := by decide +kernel
theorem dX5_preparePlan_111 : decode cX5_preparePlan 111 = .ok (.goto (-43), 3) := by decide +kernel
theorem dX5_preparePlan_114 : decode cX5_preparePlan 114 = .ok (.return_, 1) := by decide +kernel
theorem dX5_lineUpPots_0 : decode cX5_lineUpPots 0 = .ok (.aload_n 0, 1) := by decide +kernel
theorem dX5_lineUpPots_1 : decode cX5_lineUpPots 1 = .ok (.getfield 22, 3) := by decide +kernel
theorem dX5_lineUpPots_4 : decode cX5_lineUpPots 4 = .ok (.invokevirtual 216, 3) := by decide +kernel
theorem dX5_lineUpPots_7 : decode cX5_lineUpPots 7 = .ok (.iconst 0, 1) := by decide +kernel
theorem dX5_lineUpPots_8 : decode cX5_lineUpPots 8 = .ok (.istore_n 1, 1) := by decide +kernel
theorem dX5_lineUpPots_9 : decode cX5_lineUpPots 9 = .ok (.iload_n 1, 1) := by decide +kernel
theorem dX5_lineUpPots_10 : decode cX5_lineUpPots 10 = .ok (.aload_n 0, 1) := by decide +kernel
theorem dX5_lineUpPots_11 : decode cX5_lineUpPots 11 = .ok (.getfield 16, 3) := by decide +kernel
theorem dX5_lineUpPots_14 : decode cX5_lineUpPots 14 = .ok (.invokevirtual 41, 3) := by decide +kernel
theorem dX5_lineUpPots_17 : decode cX5_lineUpPots 17 = .ok (.if_icmp .ge 24, 3) := by decide +kernel
theorem dX5_lineUpPots_20 : decode cX5_lineUpPots 20 = .ok (.aload_n 0, 1) := by decide +kernel
theorem dX5_lineUpPots_21 : decode cX5_lineUpPots 21 = .ok (.aload_n 0, 1) := by decide +kernel
theorem dX5_lineUpPots_22 : decode cX5_lineUpPots 22 = .ok (.getfield 16, 3) := by decide +kernel
theorem dX5_lineUpPots_25 : decode cX5_lineUpPots 25 = .ok (.iload_n 1, 1) := by decide +kernel
theorem dX5_lineUpPots_26 : decode cX5_lineUpPots 26 = .ok (.invokevirtual 118, 3) := by decide +kernel
theorem dX5_lineUpPots_29 : decode cX5_lineUpPots 29 = .ok (.checkcast 155, 3) := by decide +kernel
theorem dX5_lineUpPots_32 : decode cX5_lineUpPots 32 = .ok (.invokevirtual 219, 3) := by decide +kernel
theorem dX5_lineUpPots_35 : decode cX5_lineUpPots 35 = .ok (.iinc 1 1, 3) := by decide +kernel
theorem dX5_lineUpPots_38 : decode cX5_lineUpPots 38 = .ok (.goto (-29), 3) := by decide +kernel
theorem dX5_lineUpPots_41 : decode cX5_lineUpPots 41 = .ok (.iconst 0, 1) := by decide +kernel
theorem dX5_lineUpPots_42 : decode cX5_lineUpPots 42 = .ok (.istore_n 1, 1) := by decide +kernel
theorem dX5_lineUpPots_43 : decode cX5_lineUpPots 43 = .ok (.iload_n 1, 1) := by decide +kernel
theorem dX5_lineUpPots_44 : decode cX5_lineUpPots 44 = .ok (.aload_n 0, 1) := by decide +kernel
theorem dX5_lineUpPots_45 : decode cX5_lineUpPots 45 = .ok (.getfield 12, 3) := by decide +kernel
theorem dX5_lineUpPots_48 : decode cX5_lineUpPots 48 = .ok (.invokevirtual 41, 3) := by decide +kernel
theorem dX5_lineUpPots_51 : decode cX5_lineUpPots 51 = .ok (.if_icmp .ge 24, 3) := by decide +kernel
theorem dX5_lineUpPots_54 : decode cX5_lineUpPots 54 = .ok (.aload_n 0, 1) := by decide +kernel
theorem dX5_lineUpPots_55 : decode cX5_lineUpPots 55 = .ok (.aload_n 0, 1) := by decide +kernel
theorem dX5_lineUpPots_56 : decode cX5_lineUpPots 56 = .ok (.getfield 12, 3) := by decide +kernel
theorem dX5_lineUpPots_59 : decode cX5_lineUpPots 59 = .ok (.iload_n 1, 1) := by decide +kernel
theorem dX5_lineUpPots_60 : decode cX5_lineUpPots 60 = .ok (.invokevirtual 118, 3) := by decide +kernel
theorem dX5_lineUpPots_63 : decode cX5_lineUpPots 63 = .ok (.checkcast 155, 3) := by decide +kernel
theorem dX5_lineUpPots_66 : decode cX5_lineUpPots 66 = .ok (.invokevirtual 219, 3) := by decide +kernel
theorem dX5_lineUpPots_69 : decode cX5_lineUpPots 69 = .ok (.iinc 1 1, 3) := by decide +kernel
theorem dX5_lineUpPots_72 : decode cX5_lineUpPots 72 = .ok (.goto (-29), 3) := by decide +kernel
theorem dX5_lineUpPots_75 : decode cX5_lineUpPots 75 = .ok (.return_, 1) := by decide +kernel
theorem dX5_lineUp_0 : decode cX5_lineUp 0 = .ok (.iconst 0, 1) := by decide +kernel
theorem dX5_lineUp_1 : decode cX5_lineUp 1 = .ok (.istore_n 2, 1) := by decide +kernel
theorem dX5_lineUp_2 : decode cX5_lineUp 2 = .ok (.iload_n 2, 1) := by decide +kernel
theorem dX5_lineUp_3 : decode cX5_lineUp 3 = .ok (.aload_n 0, 1) := by decide +kernel
theorem dX5_lineUp_4 : decode cX5_lineUp 4 = .ok (.getfield 22, 3) := by decide +kernel
theorem dX5_lineUp_7 : decode cX5_lineUp 7 = .ok (.invokevirtual 41, 3) := by decide +kernel
theorem dX5_lineUp_10 : decode cX5_lineUp 10 = .ok (.if_icmp .ge 30, 3) := by decide +kernel
theorem dX5_lineUp_13 : decode cX5_lineUp 13 = .ok (.aload_n 0, 1) := by decide +kernel
theorem dX5_lineUp_14 : decode cX5_lineUp 14 = .ok (.getfield 22, 3) := by decide +kernel
theorem dX5_lineUp_17 : decode cX5_lineUp 17 = .ok (.iload_n 2, 1) := by decide +kernel
theorem dX5_lineUp_18 : decode cX5_lineUp 18 = .ok (.invokevirtual 118, 3) := by decide +kernel
theorem dX5_lineUp_21 : decode cX5_lineUp 21 = .ok (.checkcast 155, 3) := by decide +kernel
theorem dX5_lineUp_24 : decode cX5_lineUp 24 = .ok (.invokevirtual 223, 3) := by decide +kernel
theorem dX5_lineUp_27 : decode cX5_lineUp 27 = .ok (.aload_n 1, 1) := by decide +kernel
theorem dX5_lineUp_28 : decode cX5_lineUp 28 = .ok (.invokevirtual 223, 3) := by decide +kernel
theorem dX5_lineUp_31 : decode cX5_lineUp 31 = .ok (.if_icmp .gt 9, 3) := by decide +kernel
theorem dX5_lineUp_34 : decode cX5_lineUp 34 = .ok (.iinc 2 1, 3) := by decide +kernel
theorem dX5_lineUp_37 : decode cX5_lineUp 37 = .ok (.goto (-35), 3) := by decide +kernel
theorem dX5_lineUp_40 : decode cX5_lineUp 40 = .ok (.aload_n 0, 1) := by decide +kernel
theorem dX5_lineUp_41 : decode cX5_lineUp 41 = .ok (.getfield 22, 3) := by decide +kernel
theorem dX5_lineUp_44 : decode cX5_lineUp 44 = .ok (.iload_n 2, 1) := by decide +kernel
theorem dX5_lineUp_45 : decode cX5_lineUp 45 = .ok (.aload_n 1, 1) := by decide +kernel
theorem dX5_lineUp_46 : decode cX5_lineUp 46 = .ok (.invokevirtual 224, 3) := by decide +kernel
theorem dX5_lineUp_49 : decode cX5_lineUp 49 = .ok (.return_, 1) := by decide +kernel
theorem dX5_costsThatMayBePaidBy_0 : decode cX5_costsThatMayBePaidBy 0 = .ok (.iconst 0, 1) := by decide +kernel
theorem dX5_costsThatMayBePaidBy_1 : decode cX5_costsThatMayBePaidBy 1 = .ok (.istore_n 2, 1) := by decide +kernel
theorem dX5_costsThatMayBePaidBy_2 : decode cX5_costsThatMayBePaidBy 2 = .ok (.iconst 0, 1) := by decide +kernel
theorem dX5_costsThatMayBePaidBy_3 : decode cX5_costsThatMayBePaidBy 3 = .ok (.istore_n 3, 1) := by decide +kernel
theorem dX5_costsThatMayBePaidBy_4 : decode cX5_costsThatMayBePaidBy 4 = .ok (.iload_n 3, 1) := by decide +kernel
theorem dX5_costsThatMayBePaidBy_5 : decode cX5_costsThatMayBePaidBy 5 = .ok (.aload_n 0, 1) := by decide +kernel
theorem dX5_costsThatMayBePaidBy_6 : decode cX5_costsThatMayBePaidBy 6 = .ok (.getfield 19, 3) := by decide +kernel
theorem dX5_costsThatMayBePaidBy_9 : decode cX5_costsThatMayBePaidBy 9 = .ok (.invokevirtual 41, 3) := by decide +kernel
theorem dX5_costsThatMayBePaidBy_12 : decode cX5_costsThatMayBePaidBy 12 = .ok (.if_icmp .ge 33, 3) := by decide +kernel
theorem dX5_costsThatMayBePaidBy_15 : decode cX5_costsThatMayBePaidBy 15 = .ok (.aload_n 1, 1) := by decide +kernel
theorem dX5_costsThatMayBePaidBy_16 : decode cX5_costsThatMayBePaidBy 16 = .ok (.aload_n 0, 1) := by decide +kernel
theorem dX5_costsThatMayBePaidBy_17 : decode cX5_costsThatMayBePaidBy 17 = .ok (.getfield 19, 3) := by decide +kernel
theorem dX5_costsThatMayBePaidBy_20 : decode cX5_costsThatMayBePaidBy 20 = .ok (.iload_n 3, 1) := by decide +kernel
theorem dX5_costsThatMayBePaidBy_21 : decode cX5_costsThatMayBePaidBy 21 = .ok (.invokevirtual 118, 3) := by decide +kernel
theorem dX5_costsThatMayBePaidBy_24 : decode cX5_costsThatMayBePaidBy 24 = .ok (.checkcast 86, 3) := by decide +kernel
theorem dX5_costsThatMayBePaidBy_27 : decode cX5_costsThatMayBePaidBy 27 = .ok (.invokevirtual 227, 3) := by decide +kernel
theorem dX5_costsThatMayBePaidBy_30 : decode cX5_costsThatMayBePaidBy 30 = .ok (.ifCond .eq 9, 3) := by decide +kernel
theorem dX5_costsThatMayBePaidBy_33 : decode cX5_costsThatMayBePaidBy 33 = .ok (.iload_n 2, 1) := by decide +kernel
theorem dX5_costsThatMayBePaidBy_34 : decode cX5_costsThatMayBePaidBy 34 = .ok (.iconst 1, 1) := by decide +kernel
theorem dX5_costsThatMayBePaidBy_35 : decode cX5_costsThatMayBePaidBy 35 = .ok (.iload_n 3, 1) := by decide +kernel
theorem dX5_costsThatMayBePaidBy_36 : decode cX5_costsThatMayBePaidBy 36 = .ok (.ishl, 1) := by decide +kernel
theorem dX5_costsThatMayBePaidBy_37 : decode cX5_costsThatMayBePaidBy 37 = .ok (.ior, 1) := by decide +kernel
theorem dX5_costsThatMayBePaidBy_38 : decode cX5_costsThatMayBePaidBy 38 = .ok (.istore_n 2, 1) := by decide +kernel
theorem dX5_costsThatMayBePaidBy_39 : decode cX5_costsThatMayBePaidBy 39 = .ok (.iinc 3 1, 3) := by decide +kernel
theorem dX5_costsThatMayBePaidBy_42 : decode cX5_costsThatMayBePaidBy 42 = .ok (.goto (-38), 3) := by decide +kernel
theorem dX5_costsThatMayBePaidBy_45 : decode cX5_costsThatMayBePaidBy 45 = .ok (.iload_n 2, 1) := by decide +kernel
theorem dX5_costsThatMayBePaidBy_46 : decode cX5_costsThatMayBePaidBy 46 = .ok (.ireturn, 1) := by decide +kernel
theorem dX5_bookPlan_0 : decode cX5_bookPlan 0 = .ok (.iconst 0, 1) := by decide +kernel
theorem dX5_bookPlan_1 : decode cX5_bookPlan 1 = .ok (.istore_n 1, 1) := by decide +kernel
theorem dX5_bookPlan_2 : decode cX5_bookPlan 2 = .ok (.iload_n 1, 1) := by decide +kernel
theorem dX5_bookPlan_3 : decode cX5_bookPlan 3 = .ok (.aload_n 0, 1) := by decide +kernel
theorem dX5_bookPlan_4 : decode cX5_bookPlan 4 = .ok (.getfield 22, 3) := by decide +kernel
theorem dX5_bookPlan_7 : decode cX5_bookPlan 7 = .ok (.invokevirtual 41, 3) := by decide +kernel
theorem dX5_bookPlan_10 : decode cX5_bookPlan 10 = .ok (.if_icmp .ge 62, 3) := by decide +kernel
theorem dX5_bookPlan_13 : decode cX5_bookPlan 13 = .ok (.iconst 0, 1) := by decide +kernel
theorem dX5_bookPlan_14 : decode cX5_bookPlan 14 = .ok (.istore_n 2, 1) := by decide +kernel
theorem dX5_bookPlan_15 : decode cX5_bookPlan 15 = .ok (.iload_n 2, 1) := by decide +kernel
theorem dX5_bookPlan_16 : decode cX5_bookPlan 16 = .ok (.aload_n 0, 1) := by decide +kernel
theorem dX5_bookPlan_17 : decode cX5_bookPlan 17 = .ok (.getfield 19, 3) := by decide +kernel
theorem dX5_bookPlan_20 : decode cX5_bookPlan 20 = .ok (.invokevirtual 41, 3) := by decide +kernel
theorem dX5_bookPlan_23 : decode cX5_bookPlan 23 = .ok (.if_icmp .ge 43, 3) := by decide +kernel
theorem dX5_bookPlan_26 : decode cX5_bookPlan 26 = .ok (.aload_n 0, 1) := by decide +kernel
theorem dX5_bookPlan_27 : decode cX5_bookPlan 27 = .ok (.getfield 22, 3) := by decide +kernel
theorem dX5_bookPlan_30 : decode cX5_bookPlan 30 = .ok (.iload_n 1, 1) := by decide +kernel
theorem dX5_bookPlan_31 : decode cX5_bookPlan 31 = .ok (.invokevirtual 118, 3) := by decide +kernel
theorem dX5_bookPlan_34 : decode cX5_bookPlan 34 = .ok (.checkcast 155, 3) := by decide +kernel
theorem dX5_bookPlan_37 : decode cX5_bookPlan 37 = .ok (.aload_n 0, 1) := by decide +kernel
theorem dX5_bookPlan_38 : decode cX5_bookPlan 38 = .ok (.getfield 19, 3) := by decide +kernel
theorem dX5_bookPlan_41 : decode cX5_bookPlan 41 = .ok (.iload_n 2, 1) := by decide +kernel
theorem dX5_bookPlan_42 : decode cX5_bookPlan 42 = .ok (.invokevirtual 118, 3) := by decide +kernel
theorem dX5_bookPlan_45 : decode cX5_bookPlan 45 = .ok (.checkcast 86, 3) := by decide +kernel
theorem dX5_bookPlan_48 : decode cX5_bookPlan 48 = .ok (.aload_n 0, 1) := by decide +kernel
theorem dX5_bookPlan_49 : decode cX5_bookPlan 49 = .ok (.getfield 28, 3) := by decide +kernel
theorem dX5_bookPlan_52 : decode cX5_bookPlan 52 = .ok (.iload_n 1, 1) := by decide +kernel
theorem dX5_bookPlan_53 : decode cX5_bookPlan 53 = .ok (.iload_n 2, 1) := by decide +kernel
theorem dX5_bookPlan_54 : decode cX5_bookPlan 54 = .ok (.invokevirtual 230, 3) := by decide +kernel
theorem dX5_bookPlan_57 : decode cX5_bookPlan 57 = .ok (.invokestatic 234, 3) := by decide +kernel
theorem dX5_bookPlan_60 : decode cX5_bookPlan 60 = .ok (.iinc 2 1, 3) := by decide +kernel
theorem dX5_bookPlan_63 : decode cX5_bookPlan 63 = .ok (.goto (-48), 3) := by decide +kernel
theorem dX5_bookPlan_66 : decode cX5_bookPlan 66 = .ok (.iinc 1 1, 3) := by decide +kernel
theorem dX5_bookPlan_69 : decode cX5_bookPlan 69 = .ok (.goto (-67), 3) := by decide +kernel
theorem dX5_bookPlan_72 : decode cX5_bookPlan 72 = .ok (.return_, 1) := by decide +kernel
theorem dX5_book_0 : decode cX5_book 0 = .ok (.aload_n 0, 1) := by decide +kernel
theorem dX5_book_1 : decode cX5_book 1 = .ok (.dup, 1) := by decide +kernel
theorem dX5_book_2 : decode cX5_book 2 = .ok (.getfield 158, 3) := by decide +kernel
theorem dX5_book_5 : decode cX5_book 5 = .ok (.iload_n 2, 1) := by decide +kernel
theorem dX5_book_6 : decode cX5_book 6 = .ok (.isub, 1) := by decide +kernel
theorem dX5_book_7 : decode cX5_book 7 = .ok (.putfield 158, 3) := by decide +kernel
theorem dX5_book_10 : decode cX5_book 10 = .ok (.aload_n 0, 1) := by decide +kernel
theorem dX5_book_11 : decode cX5_book 11 = .ok (.invokevirtual 157, 3) := by decide +kernel
theorem dX5_book_14 : decode cX5_book 14 = .ok (.dup, 1) := by decide +kernel
theorem dX5_book_15 : decode cX5_book 15 = .ok (.getfield 126, 3) := by decide +kernel
theorem dX5_book_18 : decode cX5_book 18 = .ok (.iload_n 2, 1) := by decide +kernel
theorem dX5_book_19 : decode cX5_book 19 = .ok (.iadd, 1) := by decide +kernel
theorem dX5_book_20 : decode cX5_book 20 = .ok (.putfield 126, 3) := by decide +kernel
theorem dX5_book_23 : decode cX5_book 23 = .ok (.aload_n 1, 1) := by decide +kernel
theorem dX5_book_24 : decode cX5_book 24 = .ok (.aload_n 0, 1) := by decide +kernel
theorem dX5_book_25 : decode cX5_book 25 = .ok (.invokevirtual 157, 3) := by decide +kernel
theorem dX5_book_28 : decode cX5_book 28 = .ok (.iload_n 2, 1) := by decide +kernel
theorem dX5_book_29 : decode cX5_book 29 = .ok (.invokevirtual 238, 3) := by decide +kernel
theorem dX5_book_32 : decode cX5_book 32 = .ok (.return_, 1) := by decide +kernel
theorem dX5_shareByDirectCosts_0 : decode cX5_shareByDirectCosts 0 = .ok (.aload_n 0, 1) := by decide +kernel
theorem dX5_shareByDirectCosts_1 : decode cX5_shareByDirectCosts 1 = .ok (.invokevirtual 242, 3) := by decide +kernel
theorem dX5_shareByDirectCosts_4 : decode cX5_shareByDirectCosts 4 = .ok (.lstore_n 2, 1) := by decide +kernel
theorem dX5_shareByDirectCosts_5 : decode cX5_shareByDirectCosts 5 = .ok (.lload_n 2, 1) := by decide +kernel
theorem dX5_shareByDirectCosts_6 : decode cX5_shareByDirectCosts 6 = .ok (.lconst 0, 1) := by decide +kernel
theorem dX5_shareByDirectCosts_7 : decode cX5_shareByDirectCosts 7 = .ok (.lcmp, 1) := by decide +kernel
theorem dX5_shareByDirectCosts_8 : decode cX5_shareByDirectCosts 8 = .ok (.ifCond .gt 5, 3) := by decide +kernel
theorem dX5_shareByDirectCosts_11 : decode cX5_shareByDirectCosts 11 = .ok (.iconst 0, 1) := by decide +kernel
theorem dX5_shareByDirectCosts_12 : decode cX5_shareByDirectCosts 12 = .ok (.ireturn, 1) := by decide +kernel
theorem dX5_shareByDirectCosts_13 : decode cX5_shareByDirectCosts 13 = .ok (.iconst 0, 1) := by decide +kernel
theorem dX5_shareByDirectCosts_14 : decode cX5_shareByDirectCosts 14 = .ok (.istore 4, 2) := by decide +kernel
theorem dX5_shareByDirectCosts_16 : decode cX5_shareByDirectCosts 16 = .ok (.iconst 0, 1) := by decide +kernel
theorem dX5_shareByDirectCosts_17 : decode cX5_shareByDirectCosts 17 = .ok (.istore 5, 2) := by decide +kernel
theorem dX5_shareByDirectCosts_19 : decode cX5_shareByDirectCosts 19 = .ok (.iload 5, 2) := by decide +kernel
theorem dX5_shareByDirectCosts_21 : decode cX5_shareByDirectCosts 21 = .ok (.aload_n 0, 1) := by decide +kernel
theorem dX5_shareByDirectCosts_22 : decode cX5_shareByDirectCosts 22 = .ok (.getfield 12, 3) := by decide +kernel
theorem dX5_shareByDirectCosts_25 : decode cX5_shareByDirectCosts 25 = .ok (.invokevirtual 41, 3) := by decide +kernel
theorem dX5_shareByDirectCosts_28 : decode cX5_shareByDirectCosts 28 = .ok (.if_icmp .ge 73, 3) := by decide +kernel
theorem dX5_shareByDirectCosts_31 : decode cX5_shareByDirectCosts 31 = .ok (.aload_n 0, 1) := by decide +kernel
theorem dX5_shareByDirectCosts_32 : decode cX5_shareByDirectCosts 32 = .ok (.getfield 12, 3) := by decide +kernel
theorem dX5_shareByDirectCosts_35 : decode cX5_shareByDirectCosts 35 = .ok (.iload 5, 2) := by decide +kernel
theorem dX5_shareByDirectCosts_37 : decode cX5_shareByDirectCosts 37 = .ok (.invokevirtual 118, 3) := by decide +kernel
theorem dX5_shareByDirectCosts_40 : decode cX5_shareByDirectCosts 40 = .ok (.checkcast 49, 3) := by decide +kernel
theorem dX5_shareByDirectCosts_43 : decode cX5_shareByDirectCosts 43 = .ok (.astore 6, 2) := by decide +kernel
theorem dX5_shareByDirectCosts_45 : decode cX5_shareByDirectCosts 45 = .ok (.aload 6, 2) := by decide +kernel
theorem dX5_shareByDirectCosts_47 : decode cX5_shareByDirectCosts 47 = .ok (.invokevirtual 132, 3) := by decide +kernel
theorem dX5_shareByDirectCosts_50 : decode cX5_shareByDirectCosts 50 = .ok (.istore 7, 2) := by decide +kernel
theorem dX5_shareByDirectCosts_52 : decode cX5_shareByDirectCosts 52 = .ok (.iload 7, 2) := by decide +kernel
theorem dX5_shareByDirectCosts_54 : decode cX5_shareByDirectCosts 54 = .ok (.ifCond .le 41, 3) := by decide +kernel
theorem dX5_shareByDirectCosts_57 : decode cX5_shareByDirectCosts 57 = .ok (.iload_n 1, 1) := by decide +kernel
theorem dX5_shareByDirectCosts_58 : decode cX5_shareByDirectCosts 58 = .ok (.i2l, 1) := by decide +kernel
theorem dX5_shareByDirectCosts_59 : decode cX5_shareByDirectCosts 59 = .ok (.aload 6, 2) := by decide +kernel
theorem dX5_shareByDirectCosts_61 : decode cX5_shareByDirectCosts 61 = .ok (.getfield 126, 3) := by decide +kernel
theorem dX5_shareByDirectCosts_64 : decode cX5_shareByDirectCosts 64 = .ok (.i2l, 1) := by decide +kernel
theorem dX5_shareByDirectCosts_65 : decode cX5_shareByDirectCosts 65 = .ok (.lmul, 1) := by decide +kernel
theorem dX5_shareByDirectCosts_66 : decode cX5_shareByDirectCosts 66 = .ok (.lload_n 2, 1) := by decide +kernel
theorem dX5_shareByDirectCosts_67 : decode cX5_shareByDirectCosts 67 = .ok (.ldiv, 1) := by decide +kernel
theorem dX5_shareByDirectCosts_68 : decode cX5_shareByDirectCosts 68 = .ok (.lstore 8, 2) := by decide +kernel
theorem dX5_shareByDirectCosts_70 : decode cX5_shareByDirectCosts 70 = .ok (.lload 8, 2) := by decide +kernel
theorem dX5_shareByDirectCosts_72 : decode cX5_shareByDirectCosts 72 = .ok (.iload 7, 2) := by decide +kernel
theorem dX5_shareByDirectCosts_74 : decode cX5_shareByDirectCosts 74 = .ok (.i2l, 1) := by decide +kernel
theorem dX5_shareByDirectCosts_75 : decode cX5_shareByDirectCosts 75 = .ok (.invokestatic 246, 3) := by decide +kernel
theorem dX5_shareByDirectCosts_78 : decode cX5_shareByDirectCosts 78 = .ok (.l2i, 1) := by decide +kernel
theorem dX5_shareByDirectCosts_79 : decode cX5_shareByDirectCosts 79 = .ok (.istore 10, 2) := by decide +kernel
theorem dX5_shareByDirectCosts_81 : decode cX5_shareByDirectCosts 81 = .ok (.aload 6, 2) := by decide +kernel
theorem dX5_shareByDirectCosts_83 : decode cX5_shareByDirectCosts 83 = .ok (.iload 10, 2) := by decide +kernel
theorem dX5_shareByDirectCosts_85 : decode cX5_shareByDirectCosts 85 = .ok (.invokevirtual 252, 3) := by decide +kernel
theorem dX5_shareByDirectCosts_88 : decode cX5_shareByDirectCosts 88 = .ok (.iload 4, 2) := by decide +kernel
theorem dX5_shareByDirectCosts_90 : decode cX5_shareByDirectCosts 90 = .ok (.iload 10, 2) := by decide +kernel
theorem dX5_shareByDirectCosts_92 : decode cX5_shareByDirectCosts 92 = .ok (.iadd, 1) := by decide +kernel
theorem dX5_shareByDirectCosts_93 : decode cX5_shareByDirectCosts 93 = .ok (.istore 4, 2) := by decide +kernel
theorem dX5_shareByDirectCosts_95 : decode cX5_shareByDirectCosts 95 = .ok (.iinc 5 1, 3) := by decide +kernel
theorem dX5_shareByDirectCosts_98 : decode cX5_shareByDirectCosts 98 = .ok (.goto (-79), 3) := by decide +kernel
theorem dX5_shareByDirectCosts_101 : decode cX5_shareByDirectCosts 101 = .ok (.iload 4, 2) := by decide +kernel
theorem dX5_shareByDirectCosts_103 : decode cX5_shareByDirectCosts 103 = .ok (.ireturn, 1) := by decide +kernel
theorem dX5_directCostsWithRoom_0 : decode cX5_directCostsWithRoom 0 = .ok (.lconst 0, 1) := by decide +kernel
theorem dX5_directCostsWithRoom_1 : decode cX5_directCostsWithRoom 1 = .ok (.lstore_n 1, 1) := by decide +kernel
theorem dX5_directCostsWithRoom_2 : decode cX5_directCostsWithRoom 2 = .ok (.iconst 0, 1) := by decide +kernel
theorem dX5_directCostsWithRoom_3 : decode cX5_directCostsWithRoom 3 = .ok (.istore_n 3, 1) := by decide +kernel
theorem dX5_directCostsWithRoom_4 : decode cX5_directCostsWithRoom 4 = .ok (.iload_n 3, 1) := by decide +kernel
theorem dX5_directCostsWithRoom_5 : decode cX5_directCostsWithRoom 5 = .ok (.aload_n 0, 1) := by decide +kernel
theorem dX5_directCostsWithRoom_6 : decode cX5_directCostsWithRoom 6 = .ok (.getfield 12, 3) := by decide +kernel
theorem dX5_directCostsWithRoom_9 : decode cX5_directCostsWithRoom 9 = .ok (.invokevirtual 41, 3) := by decide +kernel
theorem dX5_directCostsWithRoom_12 : decode cX5_directCostsWithRoom 12 = .ok (.if_icmp .ge 39, 3) := by decide +kernel
theorem dX5_directCostsWithRoom_15 : decode cX5_directCostsWithRoom 15 = .ok (.aload_n 0, 1) := by decide +kernel
theorem dX5_directCostsWithRoom_16 : decode cX5_directCostsWithRoom 16 = .ok (.getfield 12, 3) := by decide +kernel
theorem dX5_directCostsWithRoom_19 : decode cX5_directCostsWithRoom 19 = .ok (.iload_n 3, 1) := by decide +kernel
theorem dX5_directCostsWithRoom_20 : decode cX5_directCostsWithRoom 20 = .ok (.invokevirtual 118, 3) := by decide +kernel
theorem dX5_directCostsWithRoom_23 : decode cX5_directCostsWithRoom 23 = .ok (.checkcast 49, 3) := by decide +kernel
theorem dX5_directCostsWithRoom_26 : decode cX5_directCostsWithRoom 26 = .ok (.astore 4, 2) := by decide +kernel
theorem dX5_directCostsWithRoom_28 : decode cX5_directCostsWithRoom 28 = .ok (.aload 4, 2) := by decide +kernel
theorem dX5_directCostsWithRoom_30 : decode cX5_directCostsWithRoom 30 = .ok (.invokevirtual 132, 3) := by decide +kernel
theorem dX5_directCostsWithRoom_33 : decode cX5_directCostsWithRoom 33 = .ok (.ifCond .le 12, 3) := by decide +kernel
theorem dX5_directCostsWithRoom_36 : decode cX5_directCostsWithRoom 36 = .ok (.lload_n 1, 1) := by decide +kernel
theorem dX5_directCostsWithRoom_37 : decode cX5_directCostsWithRoom 37 = .ok (.aload 4, 2) := by decide +kernel
theorem dX5_directCostsWithRoom_39 : decode cX5_directCostsWithRoom 39 = .ok (.getfield 126, 3) := by decide +kernel
theorem dX5_directCostsWithRoom_42 : decode cX5_directCostsWithRoom 42 = .ok (.i2l, 1) := by decide +kernel
theorem dX5_directCostsWithRoom_43 : decode cX5_directCostsWithRoom 43 = .ok (.ladd, 1) := by decide +kernel
theorem dX5_directCostsWithRoom_44 : decode cX5_directCostsWithRoom 44 = .ok (.lstore_n 1, 1) := by decide +kernel
theorem dX5_directCostsWithRoom_45 : decode cX5_directCostsWithRoom 45 = .ok (.iinc 3 1, 3) := by decide +kernel
theorem dX5_directCostsWithRoom_48 : decode cX5_directCostsWithRoom 48 = .ok (.goto (-44), 3) := by decide +kernel
theorem dX5_directCostsWithRoom_51 : decode cX5_directCostsWithRoom 51 = .ok (.lload_n 1, 1) := by decide +kernel
theorem dX5_directCostsWithRoom_52 : decode cX5_directCostsWithRoom 52 = .ok (.lreturn, 1) := by decide +kernel
theorem dX5_shareOnes_0 : decode cX5_shareOnes 0 = .ok (.iconst 0, 1) := by decide +kernel
theorem dX5_shareOnes_1 : decode cX5_shareOnes 1 = .ok (.istore_n 2, 1) := by decide +kernel
theorem dX5_shareOnes_2 : decode cX5_shareOnes 2 = .ok (.iconst 0, 1) := by decide +kernel
theorem dX5_shareOnes_3 : decode cX5_shareOnes 3 = .ok (.istore_n 3, 1) := by decide +kernel
theorem dX5_shareOnes_4 : decode cX5_shareOnes 4 = .ok (.iload_n 3, 1) := by decide +kernel
theorem dX5_shareOnes_5 : decode cX5_shareOnes 5 = .ok (.aload_n 0, 1) := by decide +kernel
theorem dX5_shareOnes_6 : decode cX5_shareOnes 6 = .ok (.getfield 12, 3) := by decide +kernel
theorem dX5_shareOnes_9 : decode cX5_shareOnes 9 = .ok (.invokevirtual 41, 3) := by decide +kernel
theorem dX5_shareOnes_12 : decode cX5_shareOnes 12 = .ok (.if_icmp .ge 44, 3) := by decide +kernel
theorem dX5_shareOnes_15 : decode cX5_shareOnes 15 = .ok (.iload_n 2, 1) := by decide +kernel
theorem dX5_shareOnes_16 : decode cX5_shareOnes 16 = .ok (.iload_n 1, 1) := by decide +kernel
theorem dX5_shareOnes_17 : decode cX5_shareOnes 17 = .ok (.if_icmp .ge 39, 3) := by decide +kernel
theorem dX5_shareOnes_20 : decode cX5_shareOnes 20 = .ok (.aload_n 0, 1) := by decide +kernel
theorem dX5_shareOnes_21 : decode cX5_shareOnes 21 = .ok (.getfield 12, 3) := by decide +kernel
theorem dX5_shareOnes_24 : decode cX5_shareOnes 24 = .ok (.iload_n 3, 1) := by decide +kernel
theorem dX5_shareOnes_25 : decode cX5_shareOnes 25 = .ok (.invokevirtual 118, 3) := by decide +kernel
theorem dX5_shareOnes_28 : decode cX5_shareOnes 28 = .ok (.checkcast 49, 3) := by decide +kernel
theorem dX5_shareOnes_31 : decode cX5_shareOnes 31 = .ok (.astore 4, 2) := by decide +kernel
theorem dX5_shareOnes_33 : decode cX5_shareOnes 33 = .ok (.aload 4, 2) := by decide +kernel
theorem dX5_shareOnes_35 : decode cX5_shareOnes 35 = .ok (.invokevirtual 132, 3) := by decide +kernel
theorem dX5_shareOnes_38 : decode cX5_shareOnes 38 = .ok (.ifCond .le 12, 3) := by decide +kernel
theorem dX5_shareOnes_41 : decode cX5_shareOnes 41 = .ok (.aload 4, 2) := by decide +kernel
theorem dX5_shareOnes_43 : decode cX5_shareOnes 43 = .ok (.iconst 1, 1) := by decide +kernel
theorem dX5_shareOnes_44 : decode cX5_shareOnes 44 = .ok (.invokevirtual 252, 3) := by decide +kernel
theorem dX5_shareOnes_47 : decode cX5_shareOnes 47 = .ok (.iinc 2 1, 3) := by decide +kernel
theorem dX5_shareOnes_50 : decode cX5_shareOnes 50 = .ok (.iinc 3 1, 3) := by decide +kernel
theorem dX5_shareOnes_53 : decode cX5_shareOnes 53 = .ok (.goto (-49), 3) := by decide +kernel
theorem dX5_shareOnes_56 : decode cX5_shareOnes 56 = .ok (.iload_n 2, 1) := by decide +kernel
theorem dX5_shareOnes_57 : decode cX5_shareOnes 57 = .ok (.ireturn, 1) := by decide +kernel
theorem dX5_isAllowedBySomeFund_0 : decode cX5_isAllowedBySomeFund 0 = .ok (.iconst 0, 1) := by decide +kernel
theorem dX5_isAllowedBySomeFund_1 : decode cX5_isAllowedBySomeFund 1 = .ok (.istore_n 2, 1) := by decide +kernel
theorem dX5_isAllowedBySomeFund_2 : decode cX5_isAllowedBySomeFund 2 = .ok (.iload_n 2, 1) := by decide +kernel
theorem dX5_isAllowedBySomeFund_3 : decode cX5_isAllowedBySomeFund 3 = .ok (.aload_n 0, 1) := by decide +kernel
theorem dX5_isAllowedBySomeFund_4 : decode cX5_isAllowedBySomeFund 4 = .ok (.getfield 12, 3) := by decide +kernel
theorem dX5_isAllowedBySomeFund_7 : decode cX5_isAllowedBySomeFund 7 = .ok (.invokevirtual 41, 3) := by decide +kernel
theorem dX5_isAllowedBySomeFund_10 : decode cX5_isAllowedBySomeFund 10 = .ok (.if_icmp .ge 32, 3) := by decide +kernel
theorem dX5_isAllowedBySomeFund_13 : decode cX5_isAllowedBySomeFund 13 = .ok (.aload_n 0, 1) := by decide +kernel
theorem dX5_isAllowedBySomeFund_14 : decode cX5_isAllowedBySomeFund 14 = .ok (.getfield 12, 3) := by decide +kernel
theorem dX5_isAllowedBySomeFund_17 : decode cX5_isAllowedBySomeFund 17 = .ok (.iload_n 2, 1) := by decide +kernel
theorem dX5_isAllowedBySomeFund_18 : decode cX5_isAllowedBySomeFund 18 = .ok (.invokevirtual 118, 3) := by decide +kernel
theorem dX5_isAllowedBySomeFund_21 : decode cX5_isAllowedBySomeFund 21 = .ok (.checkcast 49, 3) := by decide +kernel
theorem dX5_isAllowedBySomeFund_24 : decode cX5_isAllowedBySomeFund 24 = .ok (.aload_n 1, 1) := by decide +kernel
theorem dX5_isAllowedBySomeFund_25 : decode cX5_isAllowedBySomeFund 25 = .ok (.getfield 255, 3) := by decide +kernel
theorem dX5_isAllowedBySomeFund_28 : decode cX5_isAllowedBySomeFund 28 = .ok (.invokevirtual 65, 3) := by decide +kernel
theorem dX5_isAllowedBySomeFund_31 : decode cX5_isAllowedBySomeFund 31 = .ok (.ifCond .eq 5, 3) := by decide +kernel
theorem dX5_isAllowedBySomeFund_34 : decode cX5_isAllowedBySomeFund 34 = .ok (.iconst 1, 1) := by decide +kernel
theorem dX5_isAllowedBySomeFund_35 : decode cX5_isAllowedBySomeFund 35 = .ok (.ireturn, 1) := by decide +kernel
theorem dX5_isAllowedBySomeFund_36 : decode cX5_isAllowedBySomeFund 36 = .ok (.iinc 2 1, 3) := by decide +kernel
theorem dX5_isAllowedBySomeFund_39 : decode cX5_isAllowedBySomeFund 39 = .ok (.goto (-37), 3) := by decide +kernel
theorem dX5_isAllowedBySomeFund_42 : decode cX5_isAllowedBySomeFund 42 = .ok (.iconst 0, 1) := by decide +kernel
theorem dX5_isAllowedBySomeFund_43 : decode cX5_isAllowedBySomeFund 43 = .ok (.ireturn, 1) := by decide +kernel
theorem dX5_isSuitedBySomeFund_0 : decode cX5_isSuitedBySomeFund 0 = .ok (.iconst 0, 1) := by decide +kernel
theorem dX5_isSuitedBySomeFund_1 : decode cX5_isSuitedBySomeFund 1 = .ok (.istore_n 2, 1) := by decide +kernel
theorem dX5_isSuitedBySomeFund_2 : decode cX5_isSuitedBySomeFund 2 = .ok (.iload_n 2, 1) := by decide +kernel
theorem dX5_isSuitedBySomeFund_3 : decode cX5_isSuitedBySomeFund 3 = .ok (.aload_n 0, 1) := by decide +kernel
theorem dX5_isSuitedBySomeFund_4 : decode cX5_isSuitedBySomeFund 4 = .ok (.getfield 12, 3) := by decide +kernel
theorem dX5_isSuitedBySomeFund_7 : decode cX5_isSuitedBySomeFund 7 = .ok (.invokevirtual 41, 3) := by decide +kernel
theorem dX5_isSuitedBySomeFund_10 : decode cX5_isSuitedBySomeFund 10 = .ok (.if_icmp .ge 29, 3) := by decide +kernel
theorem dX5_isSuitedBySomeFund_13 : decode cX5_isSuitedBySomeFund 13 = .ok (.aload_n 0, 1) := by decide +kernel
theorem dX5_isSuitedBySomeFund_14 : decode cX5_isSuitedBySomeFund 14 = .ok (.getfield 12, 3) := by decide +kernel
theorem dX5_isSuitedBySomeFund_17 : decode cX5_isSuitedBySomeFund 17 = .ok (.iload_n 2, 1) := by decide +kernel
theorem dX5_isSuitedBySomeFund_18 : decode cX5_isSuitedBySomeFund 18 = .ok (.invokevirtual 118, 3) := by decide +kernel
theorem dX5_isSuitedBySomeFund_21 : decode cX5_isSuitedBySomeFund 21 = .ok (.checkcast 49, 3) := by decide +kernel
theorem dX5_isSuitedBySomeFund_24 : decode cX5_isSuitedBySomeFund 24 = .ok (.aload_n 1, 1) := by decide +kernel
theorem dX5_isSuitedBySomeFund_25 : decode cX5_isSuitedBySomeFund 25 = .ok (.invokevirtual 258, 3) := by decide +kernel
theorem dX5_isSuitedBySomeFund_28 : decode cX5_isSuitedBySomeFund 28 = .ok (.ifCond .eq 5, 3) := by decide +kernel
theorem dX5_isSuitedBySomeFund_31 : decode cX5_isSuitedBySomeFund 31 = .ok (.iconst 1, 1) := by decide +kernel
theorem dX5_isSuitedBySomeFund_32 : decode cX5_isSuitedBySomeFund 32 = .ok (.ireturn, 1) := by decide +kernel
theorem dX5_isSuitedBySomeFund_33 : decode cX5_isSuitedBySomeFund 33 = .ok (.iinc 2 1, 3) := by decide +kernel
theorem dX5_isSuitedBySomeFund_36 : decode cX5_isSuitedBySomeFund 36 = .ok (.goto (-34), 3) := by decide +kernel
theorem dX5_isSuitedBySomeFund_39 : decode cX5_isSuitedBySomeFund 39 = .ok (.iconst 0, 1) := by decide +kernel
theorem dX5_isSuitedBySomeFund_40 : decode cX5_isSuitedBySomeFund 40 = .ok (.ireturn, 1) := by decide +kernel
theorem dX5_isPayableFromSomePot_0 : decode cX5_isPayableFromSomePot 0 = .ok (.aload_n 0, 1) := by decide +kernel
theorem dX5_isPayableFromSomePot_1 : decode cX5_isPayableFromSomePot 1 = .ok (.invokevirtual 199, 3) := by decide +kernel
theorem dX5_isPayableFromSomePot_4 : decode cX5_isPayableFromSomePot 4 = .ok (.iconst 0, 1) := by decide +kernel
theorem dX5_isPayableFromSomePot_5 : decode cX5_isPayableFromSomePot 5 = .ok (.istore_n 2, 1) := by decide +kernel
theorem dX5_isPayableFromSomePot_6 : decode cX5_isPayableFromSomePot 6 = .ok (.iload_n 2, 1) := by decide +kernel
theorem dX5_isPayableFromSomePot_7 : decode cX5_isPayableFromSomePot 7 = .ok (.aload_n 0, 1) := by decide +kernel
theorem dX5_isPayableFromSomePot_8 : decode cX5_isPayableFromSomePot 8 = .ok (.getfield 22, 3) := by decide +kernel
theorem dX5_isPayableFromSomePot_11 : decode cX5_isPayableFromSomePot 11 = .ok (.invokevirtual 41, 3) := by decide +kernel
theorem dX5_isPayableFromSomePot_14 : decode cX5_isPayableFromSomePot 14 = .ok (.if_icmp .ge 38, 3) := by decide +kernel
theorem dX5_isPayableFromSomePot_17 : decode cX5_isPayableFromSomePot 17 = .ok (.aload_n 0, 1) := by decide +kernel
theorem dX5_isPayableFromSomePot_18 : decode cX5_isPayableFromSomePot 18 = .ok (.getfield 22, 3) := by decide +kernel
theorem dX5_isPayableFromSomePot_21 : decode cX5_isPayableFromSomePot 21 = .ok (.iload_n 2, 1) := by decide +kernel
theorem dX5_isPayableFromSomePot_22 : decode cX5_isPayableFromSomePot 22 = .ok (.invokevirtual 118, 3) := by decide +kernel
theorem dX5_isPayableFromSomePot_25 : decode cX5_isPayableFromSomePot 25 = .ok (.checkcast 155, 3) := by decide +kernel
theorem dX5_isPayableFromSomePot_28 : decode cX5_isPayableFromSomePot 28 = .ok (.astore_n 3, 1) := by decide +kernel
theorem dX5_isPayableFromSomePot_29 : decode cX5_isPayableFromSomePot 29 = .ok (.aload_n 3, 1) := by decide +kernel
theorem dX5_isPayableFromSomePot_30 : decode cX5_isPayableFromSomePot 30 = .ok (.getfield 158, 3) := by decide +kernel
theorem dX5_isPayableFromSomePot_33 : decode cX5_isPayableFromSomePot 33 = .ok (.ifCond .le 13, 3) := by decide +kernel
theorem dX5_isPayableFromSomePot_36 : decode cX5_isPayableFromSomePot 36 = .ok (.aload_n 3, 1) := by decide +kernel
theorem dX5_isPayableFromSomePot_37 : decode cX5_isPayableFromSomePot 37 = .ok (.aload_n 1, 1) := by decide +kernel
theorem dX5_isPayableFromSomePot_38 : decode cX5_isPayableFromSomePot 38 = .ok (.invokevirtual 227, 3) := by decide +kernel
theorem dX5_isPayableFromSomePot_41 : decode cX5_isPayableFromSomePot 41 = .ok (.ifCond .eq 5, 3) := by decide +kernel
theorem dX5_isPayableFromSomePot_44 : decode cX5_isPayableFromSomePot 44 = .ok (.iconst 1, 1) := by decide +kernel
theorem dX5_isPayableFromSomePot_45 : decode cX5_isPayableFromSomePot 45 = .ok (.ireturn, 1) := by decide +kernel
theorem dX5_isPayableFromSomePot_46 : decode cX5_isPayableFromSomePot 46 = .ok (.iinc 2 1, 3) := by decide +kernel
theorem dX5_isPayableFromSomePot_49 : decode cX5_isPayableFromSomePot 49 = .ok (.goto (-43), 3) := by decide +kernel
theorem dX5_isPayableFromSomePot_52 : decode cX5_isPayableFromSomePot 52 = .ok (.iconst 0, 1) := by decide +kernel
theorem dX5_isPayableFromSomePot_53 : decode cX5_isPayableFromSomePot 53 = .ok (.ireturn, 1) := by decide +kernel
theorem dX5_isHeldInCommitment_0 : decode cX5_isHeldInCommitment 0 = .ok (.iconst 0, 1) := by decide +kernel
theorem dX5_isHeldInCommitment_1 : decode cX5_isHeldInCommitment 1 = .ok (.istore_n 2, 1) := by decide +kernel
theorem dX5_isHeldInCommitment_2 : decode cX5_isHeldInCommitment 2 = .ok (.iload_n 2, 1) := by decide +kernel
theorem dX5_isHeldInCommitment_3 : decode cX5_isHeldInCommitment 3 = .ok (.aload_n 0, 1) := by decide +kernel
theorem dX5_isHeldInCommitment_4 : decode cX5_isHeldInCommitment 4 = .ok (.getfield 16, 3) := by decide +kernel
theorem dX5_isHeldInCommitment_7 : decode cX5_isHeldInCommitment 7 = .ok (.invokevirtual 41, 3) := by decide +kernel
theorem dX5_isHeldInCommitment_10 : decode cX5_isHeldInCommitment 10 = .ok (.if_icmp .ge 41, 3) := by decide +kernel
theorem dX5_isHeldInCommitment_13 : decode cX5_isHeldInCommitment 13 = .ok (.aload_n 0, 1) := by decide +kernel
theorem dX5_isHeldInCommitment_14 : decode cX5_isHeldInCommitment 14 = .ok (.getfield 16, 3) := by decide +kernel
theorem dX5_isHeldInCommitment_17 : decode cX5_isHeldInCommitment 17 = .ok (.iload_n 2, 1) := by decide +kernel
theorem dX5_isHeldInCommitment_18 : decode cX5_isHeldInCommitment 18 = .ok (.invokevirtual 118, 3) := by decide +kernel
theorem dX5_isHeldInCommitment_21 : decode cX5_isHeldInCommitment 21 = .ok (.checkcast 69, 3) := by decide +kernel
theorem dX5_isHeldInCommitment_24 : decode cX5_isHeldInCommitment 24 = .ok (.astore_n 3, 1) := by decide +kernel
theorem dX5_isHeldInCommitment_25 : decode cX5_isHeldInCommitment 25 = .ok (.aload_n 3, 1) := by decide +kernel
theorem dX5_isHeldInCommitment_26 : decode cX5_isHeldInCommitment 26 = .ok (.getfield 78, 3) := by decide +kernel
theorem dX5_isHeldInCommitment_29 : decode cX5_isHeldInCommitment 29 = .ok (.ifCond .le 16, 3) := by decide +kernel
theorem dX5_isHeldInCommitment_32 : decode cX5_isHeldInCommitment 32 = .ok (.aload_n 3, 1) := by decide +kernel
theorem dX5_isHeldInCommitment_33 : decode cX5_isHeldInCommitment 33 = .ok (.invokevirtual 122, 3) := by decide +kernel
theorem dX5_isHeldInCommitment_36 : decode cX5_isHeldInCommitment 36 = .ok (.aload_n 1, 1) := by decide +kernel
theorem dX5_isHeldInCommitment_37 : decode cX5_isHeldInCommitment 37 = .ok (.invokevirtual 258, 3) := by decide +kernel
theorem dX5_isHeldInCommitment_40 : decode cX5_isHeldInCommitment 40 = .ok (.ifCond .eq 5, 3) := by decide +kernel
theorem dX5_isHeldInCommitment_43 : decode cX5_isHeldInCommitment 43 = .ok (.iconst 1, 1) := by decide +kernel
theorem dX5_isHeldInCommitment_44 : decode cX5_isHeldInCommitment 44 = .ok (.ireturn, 1) := by decide +kernel
theorem dX5_isHeldInCommitment_45 : decode cX5_isHeldInCommitment 45 = .ok (.iinc 2 1, 3) := by decide +kernel
theorem dX5_isHeldInCommitment_48 : decode cX5_isHeldInCommitment 48 = .ok (.goto (-46), 3) := by decide +kernel
theorem dX5_isHeldInCommitment_51 : decode cX5_isHeldInCommitment 51 = .ok (.iconst 0, 1) := by decide +kernel
theorem dX5_isHeldInCommitment_52 : decode cX5_isHeldInCommitment 52 = .ok (.ireturn, 1) := by decide +kernel
theorem dX5_has_0 : decode cX5_has 0 = .ok (.iload_n 0, 1) := by decide +kernel
theorem dX5_has_1 : decode cX5_has 1 = .ok (.iload_n 1, 1) := by decide +kernel
theorem dX5_has_2 : decode cX5_has 2 = .ok (.ishr, 1) := by decide +kernel
theorem dX5_has_3 : decode cX5_has 3 = .ok (.iconst 1, 1) := by decide +kernel
theorem dX5_has_4 : decode cX5_has 4 = .ok (.iand, 1) := by decide +kernel
theorem dX5_has_5 : decode cX5_has 5 = .ok (.ifCond .eq 7, 3) := by decide +kernel
theorem dX5_has_8 : decode cX5_has 8 = .ok (.iconst 1, 1) := by decide +kernel
theorem dX5_has_9 : decode cX5_has 9 = .ok (.goto 4, 3) := by decide +kernel
theorem dX5_has_12 : decode cX5_has 12 = .ok (.iconst 0, 1) := by decide +kernel
theorem dX5_has_13 : decode cX5_has 13 = .ok (.ireturn, 1) := by decide +kernel
theorem dJ9_max_7cf53_0 : decode cJ9_max_7cf53 0 = .ok (.iload_n 0, 1) := by decide +kernel
theorem dJ9_max_7cf53_1 : decode cJ9_max_7cf53 1 = .ok (.iload_n 1, 1) := by decide +kernel
theorem dJ9_max_7cf53_2 : decode cJ9_max_7cf53 2 = .ok (.if_icmp .lt 7, 3) := by decide +kernel
theorem dJ9_max_7cf53_5 : decode cJ9_max_7cf53 5 = .ok (.iload_n 0, 1) := by decide +kernel
theorem dJ9_max_7cf53_6 : decode cJ9_max_7cf53 6 = .ok (.goto 4, 3) := by decide +kernel
theorem dJ9_max_7cf53_9 : decode cJ9_max_7cf53 9 = .ok (.iload_n 1, 1) := by decide +kernel
theorem dJ9_max_7cf53_10 : decode cJ9_max_7cf53 10 = .ok (.ireturn, 1) := by decide +kernel
theorem dJ9_min_7cf53_0 : decode cJ9_min_7cf53 0 = .ok (.iload_n 0, 1) := by decide +kernel
theorem dJ9_min_7cf53_1 : decode cJ9_min_7cf53 1 = .ok (.iload_n 1, 1) := by decide +kernel
theorem dJ9_min_7cf53_2 : decode cJ9_min_7cf53 2 = .ok (.if_icmp .gt 7, 3) := by decide +kernel
theorem dJ9_min_7cf53_5 : decode cJ9_min_7cf53 5 = .ok (.iload_n 0, 1) := by decide +kernel
theorem dJ9_min_7cf53_6 : decode cJ9_min_7cf53 6 = .ok (.goto 4, 3) := by decide +kernel
theorem dJ9_min_7cf53_9 : decode cJ9_min_7cf53 9 = .ok (.iload_n 1, 1) := by decide +kernel
theorem dJ9_min_7cf53_10 : decode cJ9_min_7cf53 10 = .ok (.ireturn, 1) := by decide +kernel
theorem dJ9_min_f86c9_0 : decode cJ9_min_f86c9 0 = .ok (.lload_n 0, 1) := by decide +kernel
theorem dJ9_min_f86c9_1 : decode cJ9_min_f86c9 1 = .ok (.lload_n 2, 1) := by decide +kernel
theorem dJ9_min_f86c9_2 : decode cJ9_min_f86c9 2 = .ok (.lcmp, 1) := by decide +kernel
theorem dJ9_min_f86c9_3 : decode cJ9_min_f86c9 3 = .ok (.ifCond .gt 7, 3) := by decide +kernel
theorem dJ9_min_f86c9_6 : decode cJ9_min_f86c9 6 = .ok (.lload_n 0, 1) := by decide +kernel
theorem dJ9_min_f86c9_7 : decode cJ9_min_f86c9 7 = .ok (.goto 4, 3) := by decide +kernel
theorem dJ9_min_f86c9_10 : decode cJ9_min_f86c9 10 = .ok (.lload_n 2, 1) := by decide +kernel
theorem dJ9_min_f86c9_11 : decode cJ9_min_f86c9 11 = .ok (.lreturn, 1) := by decide +kernel
theorem dJxa1e45_init_da8c8_0 : decode cJxa1e45_init_da8c8 0 = .ok (.aload_n 0, 1) := by decide +kernel
theorem dJxa1e45_init_da8c8_1 : decode cJxa1e45_init_da8c8 1 = .ok (.invokespecial 1, 3) := by decide +kernel
theorem dJxa1e45_init_da8c8_4 : decode cJxa1e45_init_da8c8 4 = .ok (.return_, 1) := by decide +kernel
theorem dJxc12de_init_da8c8_0 : decode cJxc12de_init_da8c8 0 = .ok (.aload_n 0, 1) := by decide +kernel
theorem dJxc12de_init_da8c8_1 : decode cJxc12de_init_da8c8 1 = .ok (.invokespecial 1, 3) := by decide +kernel
theorem dJxc12de_init_da8c8_4 : decode cJxc12de_init_da8c8 4 = .ok (.aload_n 0, 1) := by decide +kernel
theorem dJxc12de_init_da8c8_5 : decode cJxc12de_init_da8c8 5 = .ok (.iconst 0, 1) := by decide +kernel
theorem dJxc12de_init_da8c8_6 : decode cJxc12de_init_da8c8 6 = .ok (.putfield 7, 3) := by decide +kernel
theorem dJxc12de_init_da8c8_9 : decode cJxc12de_init_da8c8 9 = .ok (.return_, 1) := by decide +kernel
theorem dJx4a65c_init_da8c8_0 : decode cJx4a65c_init_da8c8 0 = .ok (.aload_n 0, 1) := by decide +kernel
theorem dJx4a65c_init_da8c8_1 : decode cJx4a65c_init_da8c8 1 = .ok (.invokespecial 1, 3) := by decide +kernel
theorem dJx4a65c_init_da8c8_4 : decode cJx4a65c_init_da8c8 4 = .ok (.aload_n 0, 1) := by decide +kernel
theorem dJx4a65c_init_da8c8_5 : decode cJx4a65c_init_da8c8 5 = .ok (.getstatic 39, 3) := by decide +kernel
theorem dJx4a65c_init_da8c8_8 : decode cJx4a65c_init_da8c8 8 = .ok (.putfield 9, 3) := by decide +kernel
theorem dJx4a65c_init_da8c8_11 : decode cJx4a65c_init_da8c8 11 = .ok (.return_, 1) := by decide +kernel
theorem dJx4a65c_grow_92f84_0 : decode cJx4a65c_grow_92f84 0 = .ok (.aload_n 0, 1) := by decide +kernel
theorem dJx4a65c_grow_92f84_1 : decode cJx4a65c_grow_92f84 1 = .ok (.getfield 9, 3) := by decide +kernel
theorem dJx4a65c_grow_92f84_4 : decode cJx4a65c_grow_92f84 4 = .ok (.arraylength, 1) := by decide +kernel
theorem dJx4a65c_grow_92f84_5 : decode cJx4a65c_grow_92f84 5 = .ok (.istore_n 2, 1) := by decide +kernel
theorem dJx4a65c_grow_92f84_6 : decode cJx4a65c_grow_92f84 6 = .ok (.iload_n 2, 1) := by decide +kernel
theorem dJx4a65c_grow_92f84_7 : decode cJx4a65c_grow_92f84 7 = .ok (.ifCond .gt 13, 3) := by decide +kernel
theorem dJx4a65c_grow_92f84_10 : decode cJx4a65c_grow_92f84 10 = .ok (.aload_n 0, 1) := by decide +kernel
theorem dJx4a65c_grow_92f84_11 : decode cJx4a65c_grow_92f84 11 = .ok (.getfield 9, 3) := by decide +kernel
theorem dJx4a65c_grow_92f84_14 : decode cJx4a65c_grow_92f84 14 = .ok (.getstatic 39, 3) := by decide +kernel
theorem dJx4a65c_grow_92f84_17 : decode cJx4a65c_grow_92f84 17 = .ok (.if_acmp .eq 28, 3) := by decide +kernel
theorem dJx4a65c_grow_92f84_20 : decode cJx4a65c_grow_92f84 20 = .ok (.iload_n 2, 1) := by decide +kernel
theorem dJx4a65c_grow_92f84_21 : decode cJx4a65c_grow_92f84 21 = .ok (.iload_n 1, 1) := by decide +kernel
theorem dJx4a65c_grow_92f84_22 : decode cJx4a65c_grow_92f84 22 = .ok (.iload_n 2, 1) := by decide +kernel
theorem dJx4a65c_grow_92f84_23 : decode cJx4a65c_grow_92f84 23 = .ok (.isub, 1) := by decide +kernel
theorem dJx4a65c_grow_92f84_24 : decode cJx4a65c_grow_92f84 24 = .ok (.iload_n 2, 1) := by decide +kernel
theorem dJx4a65c_grow_92f84_25 : decode cJx4a65c_grow_92f84 25 = .ok (.iconst 1, 1) := by decide +kernel
theorem dJx4a65c_grow_92f84_26 : decode cJx4a65c_grow_92f84 26 = .ok (.ishr, 1) := by decide +kernel
theorem dJx4a65c_grow_92f84_27 : decode cJx4a65c_grow_92f84 27 = .ok (.invokestatic 73, 3) := by decide +kernel
theorem dJx4a65c_grow_92f84_30 : decode cJx4a65c_grow_92f84 30 = .ok (.istore_n 3, 1) := by decide +kernel
theorem dJx4a65c_grow_92f84_31 : decode cJx4a65c_grow_92f84 31 = .ok (.aload_n 0, 1) := by decide +kernel
theorem dJx4a65c_grow_92f84_32 : decode cJx4a65c_grow_92f84 32 = .ok (.aload_n 0, 1) := by decide +kernel
theorem dJx4a65c_grow_92f84_33 : decode cJx4a65c_grow_92f84 33 = .ok (.getfield 9, 3) := by decide +kernel
theorem dJx4a65c_grow_92f84_36 : decode cJx4a65c_grow_92f84 36 = .ok (.iload_n 3, 1) := by decide +kernel
theorem dJx4a65c_grow_92f84_37 : decode cJx4a65c_grow_92f84 37 = .ok (.invokestatic 66, 3) := by decide +kernel
theorem dJx4a65c_grow_92f84_40 : decode cJx4a65c_grow_92f84 40 = .ok (.dup_x1, 1) := by decide +kernel
theorem dJx4a65c_grow_92f84_41 : decode cJx4a65c_grow_92f84 41 = .ok (.putfield 9, 3) := by decide +kernel
theorem dJx4a65c_grow_92f84_44 : decode cJx4a65c_grow_92f84 44 = .ok (.areturn, 1) := by decide +kernel
theorem dJx4a65c_grow_92f84_45 : decode cJx4a65c_grow_92f84 45 = .ok (.aload_n 0, 1) := by decide +kernel
theorem dJx4a65c_grow_92f84_46 : decode cJx4a65c_grow_92f84 46 = .ok (.bipush 10, 2) := by decide +kernel
theorem dJx4a65c_grow_92f84_48 : decode cJx4a65c_grow_92f84 48 = .ok (.iload_n 1, 1) := by decide +kernel
theorem dJx4a65c_grow_92f84_49 : decode cJx4a65c_grow_92f84 49 = .ok (.invokestatic 79, 3) := by decide +kernel
theorem dJx4a65c_grow_92f84_52 : decode cJx4a65c_grow_92f84 52 = .ok (.anewarray 7, 3) := by decide +kernel
theorem dJx4a65c_grow_92f84_55 : decode cJx4a65c_grow_92f84 55 = .ok (.dup_x1, 1) := by decide +kernel
theorem dJx4a65c_grow_92f84_56 : decode cJx4a65c_grow_92f84 56 = .ok (.putfield 9, 3) := by decide +kernel
theorem dJx4a65c_grow_92f84_59 : decode cJx4a65c_grow_92f84 59 = .ok (.areturn, 1) := by decide +kernel
theorem dJx4a65c_grow_d5877_0 : decode cJx4a65c_grow_d5877 0 = .ok (.aload_n 0, 1) := by decide +kernel
theorem dJx4a65c_grow_d5877_1 : decode cJx4a65c_grow_d5877 1 = .ok (.aload_n 0, 1) := by decide +kernel
theorem dJx4a65c_grow_d5877_2 : decode cJx4a65c_grow_d5877 2 = .ok (.getfield 48, 3) := by decide +kernel
theorem dJx4a65c_grow_d5877_5 : decode cJx4a65c_grow_d5877 5 = .ok (.iconst 1, 1) := by decide +kernel
theorem dJx4a65c_grow_d5877_6 : decode cJx4a65c_grow_d5877 6 = .ok (.iadd, 1) := by decide +kernel
theorem dJx4a65c_grow_d5877_7 : decode cJx4a65c_grow_d5877 7 = .ok (.invokevirtual 69, 3) := by decide +kernel
theorem dJx4a65c_grow_d5877_10 : decode cJx4a65c_grow_d5877 10 = .ok (.areturn, 1) := by decide +kernel
theorem dJx4a65c_size_8abf5_0 : decode cJx4a65c_size_8abf5 0 = .ok (.aload_n 0, 1) := by decide +kernel
theorem dJx4a65c_size_8abf5_1 : decode cJx4a65c_size_8abf5 1 = .ok (.getfield 48, 3) := by decide +kernel
theorem dJx4a65c_size_8abf5_4 : decode cJx4a65c_size_8abf5 4 = .ok (.ireturn, 1) := by decide +kernel
theorem dJx4a65c_elementData_915e3_0 : decode cJx4a65c_elementData_915e3 0 = .ok (.aload_n 0, 1) := by decide +kernel
theorem dJx4a65c_elementData_915e3_1 : decode cJx4a65c_elementData_915e3 1 = .ok (.getfield 9, 3) := by decide +kernel
theorem dJx4a65c_elementData_915e3_4 : decode cJx4a65c_elementData_915e3 4 = .ok (.iload_n 1, 1) := by decide +kernel
theorem dJx4a65c_elementData_915e3_5 : decode cJx4a65c_elementData_915e3 5 = .ok (.aaload, 1) := by decide +kernel
theorem dJx4a65c_elementData_915e3_6 : decode cJx4a65c_elementData_915e3 6 = .ok (.areturn, 1) := by decide +kernel
theorem dJx4a65c_get_915e3_0 : decode cJx4a65c_get_915e3 0 = .ok (.iload_n 1, 1) := by decide +kernel
theorem dJx4a65c_get_915e3_1 : decode cJx4a65c_get_915e3 1 = .ok (.aload_n 0, 1) := by decide +kernel
theorem dJx4a65c_get_915e3_2 : decode cJx4a65c_get_915e3 2 = .ok (.getfield 48, 3) := by decide +kernel
theorem dJx4a65c_get_915e3_5 : decode cJx4a65c_get_915e3 5 = .ok (.invokestatic 118, 3) := by decide +kernel
theorem dJx4a65c_get_915e3_8 : decode cJx4a65c_get_915e3 8 = .ok (.pop, 1) := by decide +kernel
theorem dJx4a65c_get_915e3_9 : decode cJx4a65c_get_915e3 9 = .ok (.aload_n 0, 1) := by decide +kernel
theorem dJx4a65c_get_915e3_10 : decode cJx4a65c_get_915e3 10 = .ok (.iload_n 1, 1) := by decide +kernel
theorem dJx4a65c_get_915e3_11 : decode cJx4a65c_get_915e3 11 = .ok (.invokevirtual 123, 3) := by decide +kernel
theorem dJx4a65c_get_915e3_14 : decode cJx4a65c_get_915e3 14 = .ok (.areturn, 1) := by decide +kernel
theorem dJx4a65c_add_72be8_0 : decode cJx4a65c_add_72be8 0 = .ok (.iload_n 3, 1) := by decide +kernel
theorem dJx4a65c_add_72be8_1 : decode cJx4a65c_add_72be8 1 = .ok (.aload_n 2, 1) := by decide +kernel
theorem dJx4a65c_add_72be8_2 : decode cJx4a65c_add_72be8 2 = .ok (.arraylength, 1) := by decide +kernel
theorem dJx4a65c_add_72be8_3 : decode cJx4a65c_add_72be8 3 = .ok (.if_icmp .ne 8, 3) := by decide +kernel
theorem dJx4a65c_add_72be8_6 : decode cJx4a65c_add_72be8 6 = .ok (.aload_n 0, 1) := by decide +kernel
theorem dJx4a65c_add_72be8_7 : decode cJx4a65c_add_72be8 7 = .ok (.invokevirtual 129, 3) := by decide +kernel
theorem dJx4a65c_add_72be8_10 : decode cJx4a65c_add_72be8 10 = .ok (.astore_n 2, 1) := by decide +kernel
theorem dJx4a65c_add_72be8_11 : decode cJx4a65c_add_72be8 11 = .ok (.aload_n 2, 1) := by decide +kernel
theorem dJx4a65c_add_72be8_12 : decode cJx4a65c_add_72be8 12 = .ok (.iload_n 3, 1) := by decide +kernel
theorem dJx4a65c_add_72be8_13 : decode cJx4a65c_add_72be8 13 = .ok (.aload_n 1, 1) := by decide +kernel
theorem dJx4a65c_add_72be8_14 : decode cJx4a65c_add_72be8 14 = .ok (.aastore, 1) := by decide +kernel
theorem dJx4a65c_add_72be8_15 : decode cJx4a65c_add_72be8 15 = .ok (.aload_n 0, 1) := by decide +kernel
theorem dJx4a65c_add_72be8_16 : decode cJx4a65c_add_72be8 16 = .ok (.iload_n 3, 1) := by decide +kernel
theorem dJx4a65c_add_72be8_17 : decode cJx4a65c_add_72be8 17 = .ok (.iconst 1, 1) := by decide +kernel
theorem dJx4a65c_add_72be8_18 : decode cJx4a65c_add_72be8 18 = .ok (.iadd, 1) := by decide +kernel
theorem dJx4a65c_add_72be8_19 : decode cJx4a65c_add_72be8 19 = .ok (.putfield 48, 3) := by decide +kernel
theorem dJx4a65c_add_72be8_22 : decode cJx4a65c_add_72be8 22 = .ok (.return_, 1) := by decide +kernel
theorem dJx4a65c_add_9ea2d_0 : decode cJx4a65c_add_9ea2d 0 = .ok (.aload_n 0, 1) := by decide +kernel
theorem dJx4a65c_add_9ea2d_1 : decode cJx4a65c_add_9ea2d 1 = .ok (.dup, 1) := by decide +kernel
theorem dJx4a65c_add_9ea2d_2 : decode cJx4a65c_add_9ea2d 2 = .ok (.getfield 63, 3) := by decide +kernel
theorem dJx4a65c_add_9ea2d_5 : decode cJx4a65c_add_9ea2d 5 = .ok (.iconst 1, 1) := by decide +kernel
theorem dJx4a65c_add_9ea2d_6 : decode cJx4a65c_add_9ea2d 6 = .ok (.iadd, 1) := by decide +kernel
theorem dJx4a65c_add_9ea2d_7 : decode cJx4a65c_add_9ea2d 7 = .ok (.putfield 63, 3) := by decide +kernel
theorem dJx4a65c_add_9ea2d_10 : decode cJx4a65c_add_9ea2d 10 = .ok (.aload_n 0, 1) := by decide +kernel
theorem dJx4a65c_add_9ea2d_11 : decode cJx4a65c_add_9ea2d 11 = .ok (.aload_n 1, 1) := by decide +kernel
theorem dJx4a65c_add_9ea2d_12 : decode cJx4a65c_add_9ea2d 12 = .ok (.aload_n 0, 1) := by decide +kernel
theorem dJx4a65c_add_9ea2d_13 : decode cJx4a65c_add_9ea2d 13 = .ok (.getfield 9, 3) := by decide +kernel
theorem dJx4a65c_add_9ea2d_16 : decode cJx4a65c_add_9ea2d 16 = .ok (.aload_n 0, 1) := by decide +kernel
theorem dJx4a65c_add_9ea2d_17 : decode cJx4a65c_add_9ea2d 17 = .ok (.getfield 48, 3) := by decide +kernel
theorem dJx4a65c_add_9ea2d_20 : decode cJx4a65c_add_9ea2d 20 = .ok (.invokevirtual 131, 3) := by decide +kernel
theorem dJx4a65c_add_9ea2d_23 : decode cJx4a65c_add_9ea2d 23 = .ok (.iconst 1, 1) := by decide +kernel
theorem dJx4a65c_add_9ea2d_24 : decode cJx4a65c_add_9ea2d 24 = .ok (.ireturn, 1) := by decide +kernel
theorem dJx4a65c_add_7a177_0 : decode cJx4a65c_add_7a177 0 = .ok (.aload_n 0, 1) := by decide +kernel
theorem dJx4a65c_add_7a177_1 : decode cJx4a65c_add_7a177 1 = .ok (.iload_n 1, 1) := by decide +kernel
theorem dJx4a65c_add_7a177_2 : decode cJx4a65c_add_7a177 2 = .ok (.invokevirtual 135, 3) := by decide +kernel
theorem dJx4a65c_add_7a177_5 : decode cJx4a65c_add_7a177 5 = .ok (.aload_n 0, 1) := by decide +kernel
theorem dJx4a65c_add_7a177_6 : decode cJx4a65c_add_7a177 6 = .ok (.dup, 1) := by decide +kernel
theorem dJx4a65c_add_7a177_7 : decode cJx4a65c_add_7a177 7 = .ok (.getfield 63, 3) := by decide +kernel
theorem dJx4a65c_add_7a177_10 : decode cJx4a65c_add_7a177 10 = .ok (.iconst 1, 1) := by decide +kernel
theorem dJx4a65c_add_7a177_11 : decode cJx4a65c_add_7a177 11 = .ok (.iadd, 1) := by decide +kernel
theorem dJx4a65c_add_7a177_12 : decode cJx4a65c_add_7a177 12 = .ok (.putfield 63, 3) := by decide +kernel
theorem dJx4a65c_add_7a177_15 : decode cJx4a65c_add_7a177 15 = .ok (.aload_n 0, 1) := by decide +kernel
theorem dJx4a65c_add_7a177_16 : decode cJx4a65c_add_7a177 16 = .ok (.getfield 48, 3) := by decide +kernel
theorem dJx4a65c_add_7a177_19 : decode cJx4a65c_add_7a177 19 = .ok (.dup, 1) := by decide +kernel
theorem dJx4a65c_add_7a177_20 : decode cJx4a65c_add_7a177 20 = .ok (.istore_n 3, 1) := by decide +kernel
theorem dJx4a65c_add_7a177_21 : decode cJx4a65c_add_7a177 21 = .ok (.aload_n 0, 1) := by decide +kernel
theorem dJx4a65c_add_7a177_22 : decode cJx4a65c_add_7a177 22 = .ok (.getfield 9, 3) := by decide +kernel
theorem dJx4a65c_add_7a177_25 : decode cJx4a65c_add_7a177 25 = .ok (.dup, 1) := by decide +kernel
theorem dJx4a65c_add_7a177_26 : decode cJx4a65c_add_7a177 26 = .ok (.astore 4, 2) := by decide +kernel
theorem dJx4a65c_add_7a177_28 : decode cJx4a65c_add_7a177 28 = .ok (.arraylength, 1) := by decide +kernel
theorem dJx4a65c_add_7a177_29 : decode cJx4a65c_add_7a177 29 = .ok (.if_icmp .ne 9, 3) := by decide +kernel
theorem dJx4a65c_add_7a177_32 : decode cJx4a65c_add_7a177 32 = .ok (.aload_n 0, 1) := by decide +kernel
theorem dJx4a65c_add_7a177_33 : decode cJx4a65c_add_7a177 33 = .ok (.invokevirtual 129, 3) := by decide +kernel
theorem dJx4a65c_add_7a177_36 : decode cJx4a65c_add_7a177 36 = .ok (.astore 4, 2) := by decide +kernel
theorem dJx4a65c_add_7a177_38 : decode cJx4a65c_add_7a177 38 = .ok (.aload 4, 2) := by decide +kernel
theorem dJx4a65c_add_7a177_40 : decode cJx4a65c_add_7a177 40 = .ok (.iload_n 1, 1) := by decide +kernel
theorem dJx4a65c_add_7a177_41 : decode cJx4a65c_add_7a177 41 = .ok (.aload 4, 2) := by decide +kernel
theorem dJx4a65c_add_7a177_43 : decode cJx4a65c_add_7a177 43 = .ok (.iload_n 1, 1) := by decide +kernel
theorem dJx4a65c_add_7a177_44 : decode cJx4a65c_add_7a177 44 = .ok (.iconst 1, 1) := by decide +kernel
theorem dJx4a65c_add_7a177_45 : decode cJx4a65c_add_7a177 45 = .ok (.iadd, 1) := by decide +kernel
theorem dJx4a65c_add_7a177_46 : decode cJx4a65c_add_7a177 46 = .ok (.iload_n 3, 1) := by decide +kernel
theorem dJx4a65c_add_7a177_47 : decode cJx4a65c_add_7a177 47 = .ok (.iload_n 1, 1) := by decide +kernel
theorem dJx4a65c_add_7a177_48 : decode cJx4a65c_add_7a177 48 = .ok (.isub, 1) := by decide +kernel
theorem dJx4a65c_add_7a177_49 : decode cJx4a65c_add_7a177 49 = .ok (.invokestatic 112, 3) := by decide +kernel
theorem dJx4a65c_add_7a177_52 : decode cJx4a65c_add_7a177 52 = .ok (.aload 4, 2) := by decide +kernel
theorem dJx4a65c_add_7a177_54 : decode cJx4a65c_add_7a177 54 = .ok (.iload_n 1, 1) := by decide +kernel
theorem dJx4a65c_add_7a177_55 : decode cJx4a65c_add_7a177 55 = .ok (.aload_n 2, 1) := by decide +kernel
theorem dJx4a65c_add_7a177_56 : decode cJx4a65c_add_7a177 56 = .ok (.aastore, 1) := by decide +kernel
theorem dJx4a65c_add_7a177_57 : decode cJx4a65c_add_7a177 57 = .ok (.aload_n 0, 1) := by decide +kernel
theorem dJx4a65c_add_7a177_58 : decode cJx4a65c_add_7a177 58 = .ok (.iload_n 3, 1) := by decide +kernel
theorem dJx4a65c_add_7a177_59 : decode cJx4a65c_add_7a177 59 = .ok (.iconst 1, 1) := by decide +kernel
theorem dJx4a65c_add_7a177_60 : decode cJx4a65c_add_7a177 60 = .ok (.iadd, 1) := by decide +kernel
theorem dJx4a65c_add_7a177_61 : decode cJx4a65c_add_7a177 61 = .ok (.putfield 48, 3) := by decide +kernel
theorem dJx4a65c_add_7a177_64 : decode cJx4a65c_add_7a177 64 = .ok (.return_, 1) := by decide +kernel
theorem dJx4a65c_remove_915e3_0 : decode cJx4a65c_remove_915e3 0 = .ok (.iload_n 1, 1) := by decide +kernel
theorem dJx4a65c_remove_915e3_1 : decode cJx4a65c_remove_915e3 1 = .ok (.aload_n 0, 1) := by decide +kernel
theorem dJx4a65c_remove_915e3_2 : decode cJx4a65c_remove_915e3 2 = .ok (.getfield 48, 3) := by decide +kernel
theorem dJx4a65c_remove_915e3_5 : decode cJx4a65c_remove_915e3 5 = .ok (.invokestatic 118, 3) := by decide +kernel
theorem dJx4a65c_remove_915e3_8 : decode cJx4a65c_remove_915e3 8 = .ok (.pop, 1) := by decide +kernel
theorem dJx4a65c_remove_915e3_9 : decode cJx4a65c_remove_915e3 9 = .ok (.aload_n 0, 1) := by decide +kernel
theorem dJx4a65c_remove_915e3_10 : decode cJx4a65c_remove_915e3 10 = .ok (.getfield 9, 3) := by decide +kernel
theorem dJx4a65c_remove_915e3_13 : decode cJx4a65c_remove_915e3 13 = .ok (.astore_n 2, 1) := by decide +kernel
theorem dJx4a65c_remove_915e3_14 : decode cJx4a65c_remove_915e3 14 = .ok (.aload_n 2, 1) := by decide +kernel
theorem dJx4a65c_remove_915e3_15 : decode cJx4a65c_remove_915e3 15 = .ok (.iload_n 1, 1) := by decide +kernel
theorem dJx4a65c_remove_915e3_16 : decode cJx4a65c_remove_915e3 16 = .ok (.aaload, 1) := by decide +kernel
theorem dJx4a65c_remove_915e3_17 : decode cJx4a65c_remove_915e3 17 = .ok (.astore_n 3, 1) := by decide +kernel
theorem dJx4a65c_remove_915e3_18 : decode cJx4a65c_remove_915e3 18 = .ok (.aload_n 0, 1) := by decide +kernel
theorem dJx4a65c_remove_915e3_19 : decode cJx4a65c_remove_915e3 19 = .ok (.aload_n 2, 1) := by decide +kernel
theorem dJx4a65c_remove_915e3_20 : decode cJx4a65c_remove_915e3 20 = .ok (.iload_n 1, 1) := by decide +kernel
theorem dJx4a65c_remove_915e3_21 : decode cJx4a65c_remove_915e3 21 = .ok (.invokevirtual 144, 3) := by decide +kernel
theorem dJx4a65c_remove_915e3_24 : decode cJx4a65c_remove_915e3 24 = .ok (.aload_n 3, 1) := by decide +kernel
theorem dJx4a65c_remove_915e3_25 : decode cJx4a65c_remove_915e3 25 = .ok (.areturn, 1) := by decide +kernel
theorem dJx4a65c_fastRemove_b59b0_0 : decode cJx4a65c_fastRemove_b59b0 0 = .ok (.aload_n 0, 1) := by decide +kernel
theorem dJx4a65c_fastRemove_b59b0_1 : decode cJx4a65c_fastRemove_b59b0 1 = .ok (.dup, 1) := by decide +kernel
theorem dJx4a65c_fastRemove_b59b0_2 : decode cJx4a65c_fastRemove_b59b0 2 = .ok (.getfield 63, 3) := by decide +kernel
theorem dJx4a65c_fastRemove_b59b0_5 : decode cJx4a65c_fastRemove_b59b0 5 = .ok (.iconst 1, 1) := by decide +kernel
theorem dJx4a65c_fastRemove_b59b0_6 : decode cJx4a65c_fastRemove_b59b0 6 = .ok (.iadd, 1) := by decide +kernel
theorem dJx4a65c_fastRemove_b59b0_7 : decode cJx4a65c_fastRemove_b59b0 7 = .ok (.putfield 63, 3) := by decide +kernel
theorem dJx4a65c_fastRemove_b59b0_10 : decode cJx4a65c_fastRemove_b59b0 10 = .ok (.aload_n 0, 1) := by decide +kernel
theorem dJx4a65c_fastRemove_b59b0_11 : decode cJx4a65c_fastRemove_b59b0 11 = .ok (.getfield 48, 3) := by decide +kernel
theorem dJx4a65c_fastRemove_b59b0_14 : decode cJx4a65c_fastRemove_b59b0 14 = .ok (.iconst 1, 1) := by decide +kernel
theorem dJx4a65c_fastRemove_b59b0_15 : decode cJx4a65c_fastRemove_b59b0 15 = .ok (.isub, 1) := by decide +kernel
theorem dJx4a65c_fastRemove_b59b0_16 : decode cJx4a65c_fastRemove_b59b0 16 = .ok (.dup, 1) := by decide +kernel
theorem dJx4a65c_fastRemove_b59b0_17 : decode cJx4a65c_fastRemove_b59b0 17 = .ok (.istore_n 3, 1) := by decide +kernel
theorem dJx4a65c_fastRemove_b59b0_18 : decode cJx4a65c_fastRemove_b59b0 18 = .ok (.iload_n 2, 1) := by decide +kernel
theorem dJx4a65c_fastRemove_b59b0_19 : decode cJx4a65c_fastRemove_b59b0 19 = .ok (.if_icmp .le 15, 3) := by decide +kernel
theorem dJx4a65c_fastRemove_b59b0_22 : decode cJx4a65c_fastRemove_b59b0 22 = .ok (.aload_n 1, 1) := by decide +kernel
theorem dJx4a65c_fastRemove_b59b0_23 : decode cJx4a65c_fastRemove_b59b0 23 = .ok (.iload_n 2, 1) := by decide +kernel
theorem dJx4a65c_fastRemove_b59b0_24 : decode cJx4a65c_fastRemove_b59b0 24 = .ok (.iconst 1, 1) := by decide +kernel
theorem dJx4a65c_fastRemove_b59b0_25 : decode cJx4a65c_fastRemove_b59b0 25 = .ok (.iadd, 1) := by decide +kernel
theorem dJx4a65c_fastRemove_b59b0_26 : decode cJx4a65c_fastRemove_b59b0 26 = .ok (.aload_n 1, 1) := by decide +kernel
theorem dJx4a65c_fastRemove_b59b0_27 : decode cJx4a65c_fastRemove_b59b0 27 = .ok (.iload_n 2, 1) := by decide +kernel
theorem dJx4a65c_fastRemove_b59b0_28 : decode cJx4a65c_fastRemove_b59b0 28 = .ok (.iload_n 3, 1) := by decide +kernel
theorem dJx4a65c_fastRemove_b59b0_29 : decode cJx4a65c_fastRemove_b59b0 29 = .ok (.iload_n 2, 1) := by decide +kernel
theorem dJx4a65c_fastRemove_b59b0_30 : decode cJx4a65c_fastRemove_b59b0 30 = .ok (.isub, 1) := by decide +kernel
theorem dJx4a65c_fastRemove_b59b0_31 : decode cJx4a65c_fastRemove_b59b0 31 = .ok (.invokestatic 112, 3) := by decide +kernel
theorem dJx4a65c_fastRemove_b59b0_34 : decode cJx4a65c_fastRemove_b59b0 34 = .ok (.aload_n 1, 1) := by decide +kernel
theorem dJx4a65c_fastRemove_b59b0_35 : decode cJx4a65c_fastRemove_b59b0 35 = .ok (.aload_n 0, 1) := by decide +kernel
theorem dJx4a65c_fastRemove_b59b0_36 : decode cJx4a65c_fastRemove_b59b0 36 = .ok (.iload_n 3, 1) := by decide +kernel
theorem dJx4a65c_fastRemove_b59b0_37 : decode cJx4a65c_fastRemove_b59b0 37 = .ok (.dup_x1, 1) := by decide +kernel
theorem dJx4a65c_fastRemove_b59b0_38 : decode cJx4a65c_fastRemove_b59b0 38 = .ok (.putfield 48, 3) := by decide +kernel
theorem dJx4a65c_fastRemove_b59b0_41 : decode cJx4a65c_fastRemove_b59b0 41 = .ok (.aconst_null, 1) := by decide +kernel
theorem dJx4a65c_fastRemove_b59b0_42 : decode cJx4a65c_fastRemove_b59b0 42 = .ok (.aastore, 1) := by decide +kernel
theorem dJx4a65c_fastRemove_b59b0_43 : decode cJx4a65c_fastRemove_b59b0 43 = .ok (.return_, 1) := by decide +kernel
theorem dJx4a65c_clear_da8c8_0 : decode cJx4a65c_clear_da8c8 0 = .ok (.aload_n 0, 1) := by decide +kernel
theorem dJx4a65c_clear_da8c8_1 : decode cJx4a65c_clear_da8c8 1 = .ok (.dup, 1) := by decide +kernel
theorem dJx4a65c_clear_da8c8_2 : decode cJx4a65c_clear_da8c8 2 = .ok (.getfield 63, 3) := by decide +kernel
theorem dJx4a65c_clear_da8c8_5 : decode cJx4a65c_clear_da8c8 5 = .ok (.iconst 1, 1) := by decide +kernel
theorem dJx4a65c_clear_da8c8_6 : decode cJx4a65c_clear_da8c8 6 = .ok (.iadd, 1) := by decide +kernel
theorem dJx4a65c_clear_da8c8_7 : decode cJx4a65c_clear_da8c8 7 = .ok (.putfield 63, 3) := by decide +kernel
theorem dJx4a65c_clear_da8c8_10 : decode cJx4a65c_clear_da8c8 10 = .ok (.aload_n 0, 1) := by decide +kernel
theorem dJx4a65c_clear_da8c8_11 : decode cJx4a65c_clear_da8c8 11 = .ok (.getfield 9, 3) := by decide +kernel
theorem dJx4a65c_clear_da8c8_14 : decode cJx4a65c_clear_da8c8 14 = .ok (.astore_n 1, 1) := by decide +kernel
theorem dJx4a65c_clear_da8c8_15 : decode cJx4a65c_clear_da8c8 15 = .ok (.aload_n 0, 1) := by decide +kernel
theorem dJx4a65c_clear_da8c8_16 : decode cJx4a65c_clear_da8c8 16 = .ok (.getfield 48, 3) := by decide +kernel
theorem dJx4a65c_clear_da8c8_19 : decode cJx4a65c_clear_da8c8 19 = .ok (.istore_n 2, 1) := by decide +kernel
theorem dJx4a65c_clear_da8c8_20 : decode cJx4a65c_clear_da8c8 20 = .ok (.aload_n 0, 1) := by decide +kernel
theorem dJx4a65c_clear_da8c8_21 : decode cJx4a65c_clear_da8c8 21 = .ok (.iconst 0, 1) := by decide +kernel
theorem dJx4a65c_clear_da8c8_22 : decode cJx4a65c_clear_da8c8 22 = .ok (.dup_x1, 1) := by decide +kernel
theorem dJx4a65c_clear_da8c8_23 : decode cJx4a65c_clear_da8c8 23 = .ok (.putfield 48, 3) := by decide +kernel
theorem dJx4a65c_clear_da8c8_26 : decode cJx4a65c_clear_da8c8 26 = .ok (.istore_n 3, 1) := by decide +kernel
theorem dJx4a65c_clear_da8c8_27 : decode cJx4a65c_clear_da8c8 27 = .ok (.iload_n 3, 1) := by decide +kernel
theorem dJx4a65c_clear_da8c8_28 : decode cJx4a65c_clear_da8c8 28 = .ok (.iload_n 2, 1) := by decide +kernel
theorem dJx4a65c_clear_da8c8_29 : decode cJx4a65c_clear_da8c8 29 = .ok (.if_icmp .ge 13, 3) := by decide +kernel
theorem dJx4a65c_clear_da8c8_32 : decode cJx4a65c_clear_da8c8 32 = .ok (.aload_n 1, 1) := by decide +kernel
theorem dJx4a65c_clear_da8c8_33 : decode cJx4a65c_clear_da8c8 33 = .ok (.iload_n 3, 1) := by decide +kernel
theorem dJx4a65c_clear_da8c8_34 : decode cJx4a65c_clear_da8c8 34 = .ok (.aconst_null, 1) := by decide +kernel
theorem dJx4a65c_clear_da8c8_35 : decode cJx4a65c_clear_da8c8 35 = .ok (.aastore, 1) := by decide +kernel
theorem dJx4a65c_clear_da8c8_36 : decode cJx4a65c_clear_da8c8 36 = .ok (.iinc 3 1, 3) := by decide +kernel
theorem dJx4a65c_clear_da8c8_39 : decode cJx4a65c_clear_da8c8 39 = .ok (.goto (-12), 3) := by decide +kernel
theorem dJx4a65c_clear_da8c8_42 : decode cJx4a65c_clear_da8c8 42 = .ok (.return_, 1) := by decide +kernel
theorem dJx4a65c_rangeCheckForAdd_d00df_0 : decode cJx4a65c_rangeCheckForAdd_d00df 0 = .ok (.iload_n 1, 1) := by decide +kernel
theorem dJx4a65c_rangeCheckForAdd_d00df_1 : decode cJx4a65c_rangeCheckForAdd_d00df 1 = .ok (.aload_n 0, 1) := by decide +kernel
theorem dJx4a65c_rangeCheckForAdd_d00df_2 : decode cJx4a65c_rangeCheckForAdd_d00df 2 = .ok (.getfield 48, 3) := by decide +kernel
theorem dJx4a65c_rangeCheckForAdd_d00df_5 : decode cJx4a65c_rangeCheckForAdd_d00df 5 = .ok (.if_icmp .gt 7, 3) := by decide +kernel
theorem dJx4a65c_rangeCheckForAdd_d00df_8 : decode cJx4a65c_rangeCheckForAdd_d00df 8 = .ok (.iload_n 1, 1) := by decide +kernel
theorem dJx4a65c_rangeCheckForAdd_d00df_9 : decode cJx4a65c_rangeCheckForAdd_d00df 9 = .ok (.ifCond .ge 16, 3) := by decide +kernel
theorem dJx4a65c_rangeCheckForAdd_d00df_12 : decode cJx4a65c_rangeCheckForAdd_d00df 12 = .ok (.new 187, 3) := by decide +kernel
theorem dJx4a65c_rangeCheckForAdd_d00df_15 : decode cJx4a65c_rangeCheckForAdd_d00df 15 = .ok (.dup, 1) := by decide +kernel
theorem dJx4a65c_rangeCheckForAdd_d00df_16 : decode cJx4a65c_rangeCheckForAdd_d00df 16 = .ok (.aload_n 0, 1) := by decide +kernel
theorem dJx4a65c_rangeCheckForAdd_d00df_17 : decode cJx4a65c_rangeCheckForAdd_d00df 17 = .ok (.iload_n 1, 1) := by decide +kernel
theorem dJx4a65c_rangeCheckForAdd_d00df_18 : decode cJx4a65c_rangeCheckForAdd_d00df 18 = .ok (.invokevirtual 198, 3) := by decide +kernel
theorem dJx4a65c_rangeCheckForAdd_d00df_21 : decode cJx4a65c_rangeCheckForAdd_d00df 21 = .ok (.invokespecial 193, 3) := by decide +kernel
theorem dJx4a65c_rangeCheckForAdd_d00df_24 : decode cJx4a65c_rangeCheckForAdd_d00df 24 = .ok (.athrow, 1) := by decide +kernel
theorem dJx4a65c_rangeCheckForAdd_d00df_25 : decode cJx4a65c_rangeCheckForAdd_d00df 25 = .ok (.return_, 1) := by decide +kernel
theorem dJ7_copyOf_1904c_0 : decode cJ7_copyOf_1904c 0 = .ok (.aload_n 0, 1) := by decide +kernel
theorem dJ7_copyOf_1904c_1 : decode cJ7_copyOf_1904c 1 = .ok (.iload_n 1, 1) := by decide +kernel
theorem dJ7_copyOf_1904c_2 : decode cJ7_copyOf_1904c 2 = .ok (.aload_n 0, 1) := by decide +kernel
theorem dJ7_copyOf_1904c_3 : decode cJ7_copyOf_1904c 3 = .ok (.invokevirtual 86, 3) := by decide +kernel
theorem dJ7_copyOf_1904c_6 : decode cJ7_copyOf_1904c 6 = .ok (.invokestatic 300, 3) := by decide +kernel
theorem dJ7_copyOf_1904c_9 : decode cJ7_copyOf_1904c 9 = .ok (.areturn, 1) := by decide +kernel
theorem dJ7_copyOf_6403c_0 : decode cJ7_copyOf_6403c 0 = .ok (.aload_n 2, 1) := by decide +kernel
theorem dJ7_copyOf_6403c_1 : decode cJ7_copyOf_6403c 1 = .ok (.ldc 110, 2) := by decide +kernel
theorem dJ7_copyOf_6403c_3 : decode cJ7_copyOf_6403c 3 = .ok (.if_acmp .ne 10, 3) := by decide +kernel
theorem dJ7_copyOf_6403c_6 : decode cJ7_copyOf_6403c 6 = .ok (.iload_n 1, 1) := by decide +kernel
theorem dJ7_copyOf_6403c_7 : decode cJ7_copyOf_6403c 7 = .ok (.anewarray 2, 3) := by decide +kernel
theorem dJ7_copyOf_6403c_10 : decode cJ7_copyOf_6403c 10 = .ok (.goto 14, 3) := by decide +kernel
theorem dJ7_copyOf_6403c_13 : decode cJ7_copyOf_6403c 13 = .ok (.aload_n 2, 1) := by decide +kernel
theorem dJ7_copyOf_6403c_14 : decode cJ7_copyOf_6403c 14 = .ok (.invokevirtual 90, 3) := by decide +kernel
theorem dJ7_copyOf_6403c_17 : decode cJ7_copyOf_6403c 17 = .ok (.iload_n 1, 1) := by decide +kernel
theorem dJ7_copyOf_6403c_18 : decode cJ7_copyOf_6403c 18 = .ok (.invokestatic 95, 3) := by decide +kernel
theorem dJ7_copyOf_6403c_21 : decode cJ7_copyOf_6403c 21 = .ok (.checkcast 110, 3) := by decide +kernel
theorem dJ7_copyOf_6403c_24 : decode cJ7_copyOf_6403c 24 = .ok (.astore_n 3, 1) := by decide +kernel
theorem dJ7_copyOf_6403c_25 : decode cJ7_copyOf_6403c 25 = .ok (.aload_n 0, 1) := by decide +kernel
theorem dJ7_copyOf_6403c_26 : decode cJ7_copyOf_6403c 26 = .ok (.iconst 0, 1) := by decide +kernel
theorem dJ7_copyOf_6403c_27 : decode cJ7_copyOf_6403c 27 = .ok (.aload_n 3, 1) := by decide +kernel
theorem dJ7_copyOf_6403c_28 : decode cJ7_copyOf_6403c 28 = .ok (.iconst 0, 1) := by decide +kernel
theorem dJ7_copyOf_6403c_29 : decode cJ7_copyOf_6403c 29 = .ok (.aload_n 0, 1) := by decide +kernel
theorem dJ7_copyOf_6403c_30 : decode cJ7_copyOf_6403c 30 = .ok (.arraylength, 1) := by decide +kernel
theorem dJ7_copyOf_6403c_31 : decode cJ7_copyOf_6403c 31 = .ok (.iload_n 1, 1) := by decide +kernel
theorem dJ7_copyOf_6403c_32 : decode cJ7_copyOf_6403c 32 = .ok (.invokestatic 304, 3) := by decide +kernel
theorem dJ7_copyOf_6403c_35 : decode cJ7_copyOf_6403c 35 = .ok (.invokestatic 150, 3) := by decide +kernel
theorem dJ7_copyOf_6403c_38 : decode cJ7_copyOf_6403c 38 = .ok (.aload_n 3, 1) := by decide +kernel
theorem dJ7_copyOf_6403c_39 : decode cJ7_copyOf_6403c 39 = .ok (.areturn, 1) := by decide +kernel
theorem dJ7_copyOf_9075b_0 : decode cJ7_copyOf_9075b 0 = .ok (.iload_n 1, 1) := by decide +kernel
theorem dJ7_copyOf_9075b_1 : decode cJ7_copyOf_9075b 1 = .ok (.aload_n 0, 1) := by decide +kernel
theorem dJ7_copyOf_9075b_2 : decode cJ7_copyOf_9075b 2 = .ok (.arraylength, 1) := by decide +kernel
theorem dJ7_copyOf_9075b_3 : decode cJ7_copyOf_9075b 3 = .ok (.if_icmp .ne 11, 3) := by decide +kernel
theorem dJ7_copyOf_9075b_6 : decode cJ7_copyOf_9075b 6 = .ok (.aload_n 0, 1) := by decide +kernel
theorem dJ7_copyOf_9075b_7 : decode cJ7_copyOf_9075b 7 = .ok (.invokevirtual 310, 3) := by decide +kernel
theorem dJ7_copyOf_9075b_10 : decode cJ7_copyOf_9075b 10 = .ok (.checkcast 311, 3) := by decide +kernel
theorem dJ7_copyOf_9075b_13 : decode cJ7_copyOf_9075b 13 = .ok (.areturn, 1) := by decide +kernel
theorem dJ7_copyOf_9075b_14 : decode cJ7_copyOf_9075b 14 = .ok (.iload_n 1, 1) := by decide +kernel
theorem dJ7_copyOf_9075b_15 : decode cJ7_copyOf_9075b 15 = .ok (.newarray .byte, 2) := by decide +kernel
theorem dJ7_copyOf_9075b_17 : decode cJ7_copyOf_9075b 17 = .ok (.astore_n 2, 1) := by decide +kernel
theorem dJ7_copyOf_9075b_18 : decode cJ7_copyOf_9075b 18 = .ok (.aload_n 0, 1) := by decide +kernel
theorem dJ7_copyOf_9075b_19 : decode cJ7_copyOf_9075b 19 = .ok (.iconst 0, 1) := by decide +kernel
theorem dJ7_copyOf_9075b_20 : decode cJ7_copyOf_9075b 20 = .ok (.aload_n 2, 1) := by decide +kernel
theorem dJ7_copyOf_9075b_21 : decode cJ7_copyOf_9075b 21 = .ok (.iconst 0, 1) := by decide +kernel
theorem dJ7_copyOf_9075b_22 : decode cJ7_copyOf_9075b 22 = .ok (.aload_n 0, 1) := by decide +kernel
theorem dJ7_copyOf_9075b_23 : decode cJ7_copyOf_9075b 23 = .ok (.arraylength, 1) := by decide +kernel
theorem dJ7_copyOf_9075b_24 : decode cJ7_copyOf_9075b 24 = .ok (.iload_n 1, 1) := by decide +kernel
theorem dJ7_copyOf_9075b_25 : decode cJ7_copyOf_9075b 25 = .ok (.invokestatic 304, 3) := by decide +kernel
theorem dJ7_copyOf_9075b_28 : decode cJ7_copyOf_9075b 28 = .ok (.invokestatic 150, 3) := by decide +kernel
theorem dJ7_copyOf_9075b_31 : decode cJ7_copyOf_9075b 31 = .ok (.aload_n 2, 1) := by decide +kernel
theorem dJ7_copyOf_9075b_32 : decode cJ7_copyOf_9075b 32 = .ok (.areturn, 1) := by decide +kernel
theorem dJ15_checkIndex_7cf53_0 : decode cJ15_checkIndex_7cf53 0 = .ok (.iload_n 0, 1) := by decide +kernel
theorem dJ15_checkIndex_7cf53_1 : decode cJ15_checkIndex_7cf53 1 = .ok (.iload_n 1, 1) := by decide +kernel
theorem dJ15_checkIndex_7cf53_2 : decode cJ15_checkIndex_7cf53 2 = .ok (.aconst_null, 1) := by decide +kernel
theorem dJ15_checkIndex_7cf53_3 : decode cJ15_checkIndex_7cf53 3 = .ok (.invokestatic 105, 3) := by decide +kernel
theorem dJ15_checkIndex_7cf53_6 : decode cJ15_checkIndex_7cf53 6 = .ok (.ireturn, 1) := by decide +kernel
theorem dJ8_newLength_cabcc_0 : decode cJ8_newLength_cabcc 0 = .ok (.iload_n 0, 1) := by decide +kernel
theorem dJ8_newLength_cabcc_1 : decode cJ8_newLength_cabcc 1 = .ok (.iload_n 1, 1) := by decide +kernel
theorem dJ8_newLength_cabcc_2 : decode cJ8_newLength_cabcc 2 = .ok (.iload_n 2, 1) := by decide +kernel
theorem dJ8_newLength_cabcc_3 : decode cJ8_newLength_cabcc 3 = .ok (.invokestatic 194, 3) := by decide +kernel
theorem dJ8_newLength_cabcc_6 : decode cJ8_newLength_cabcc 6 = .ok (.iadd, 1) := by decide +kernel
theorem dJ8_newLength_cabcc_7 : decode cJ8_newLength_cabcc 7 = .ok (.istore_n 3, 1) := by decide +kernel
theorem dJ8_newLength_cabcc_8 : decode cJ8_newLength_cabcc 8 = .ok (.iconst 0, 1) := by decide +kernel
theorem dJ8_newLength_cabcc_9 : decode cJ8_newLength_cabcc 9 = .ok (.iload_n 3, 1) := by decide +kernel
theorem dJ8_newLength_cabcc_10 : decode cJ8_newLength_cabcc 10 = .ok (.if_icmp .ge 11, 3) := by decide +kernel
theorem dJ8_newLength_cabcc_13 : decode cJ8_newLength_cabcc 13 = .ok (.iload_n 3, 1) := by decide +kernel
theorem dJ8_newLength_cabcc_14 : decode cJ8_newLength_cabcc 14 = .ok (.ldc 200, 2) := by decide +kernel
theorem dJ8_newLength_cabcc_16 : decode cJ8_newLength_cabcc 16 = .ok (.if_icmp .gt 5, 3) := by decide +kernel
theorem dJ8_newLength_cabcc_19 : decode cJ8_newLength_cabcc 19 = .ok (.iload_n 3, 1) := by decide +kernel
theorem dJ8_newLength_cabcc_20 : decode cJ8_newLength_cabcc 20 = .ok (.ireturn, 1) := by decide +kernel
theorem dJ8_newLength_cabcc_21 : decode cJ8_newLength_cabcc 21 = .ok (.iload_n 0, 1) := by decide +kernel
theorem dJ8_newLength_cabcc_22 : decode cJ8_newLength_cabcc 22 = .ok (.iload_n 1, 1) := by decide +kernel
theorem dJ8_newLength_cabcc_23 : decode cJ8_newLength_cabcc 23 = .ok (.invokestatic 201, 3) := by decide +kernel
theorem dJ8_newLength_cabcc_26 : decode cJ8_newLength_cabcc 26 = .ok (.ireturn, 1) := by decide +kernel
theorem dJ3_checkIndex_8e157_0 : decode cJ3_checkIndex_8e157 0 = .ok (.iload_n 0, 1) := by decide +kernel
theorem dJ3_checkIndex_8e157_1 : decode cJ3_checkIndex_8e157 1 = .ok (.ifCond .lt 8, 3) := by decide +kernel
theorem dJ3_checkIndex_8e157_4 : decode cJ3_checkIndex_8e157 4 = .ok (.iload_n 0, 1) := by decide +kernel
theorem dJ3_checkIndex_8e157_5 : decode cJ3_checkIndex_8e157 5 = .ok (.iload_n 1, 1) := by decide +kernel
theorem dJ3_checkIndex_8e157_6 : decode cJ3_checkIndex_8e157 6 = .ok (.if_icmp .lt 10, 3) := by decide +kernel
theorem dJ3_checkIndex_8e157_9 : decode cJ3_checkIndex_8e157 9 = .ok (.aload_n 2, 1) := by decide +kernel
theorem dJ3_checkIndex_8e157_10 : decode cJ3_checkIndex_8e157 10 = .ok (.iload_n 0, 1) := by decide +kernel
theorem dJ3_checkIndex_8e157_11 : decode cJ3_checkIndex_8e157 11 = .ok (.iload_n 1, 1) := by decide +kernel
theorem dJ3_checkIndex_8e157_12 : decode cJ3_checkIndex_8e157 12 = .ok (.invokestatic 95, 3) := by decide +kernel
theorem dJ3_checkIndex_8e157_15 : decode cJ3_checkIndex_8e157 15 = .ok (.athrow, 1) := by decide +kernel
theorem dJ3_checkIndex_8e157_16 : decode cJ3_checkIndex_8e157 16 = .ok (.iload_n 0, 1) := by decide +kernel
theorem dJ3_checkIndex_8e157_17 : decode cJ3_checkIndex_8e157 17 = .ok (.ireturn, 1) := by decide +kernel
end
section
theorem dX6_init_0 : decode cX6_init 0 = .ok (.aload_n 0, 1) := by decide +kernel
theorem dX6_init_1 : decode cX6_init 1 = .ok (.invokespecial 1, 3) := by decide +kernel
theorem dX6_init_4 : decode cX6_init 4 = .ok (.aload_n 0, 1) := by decide +kernel
theorem dX6_init_5 : decode cX6_init 5 = .ok (.bipush 6, 2) := by decide +kernel
theorem dX6_init_7 : decode cX6_init 7 = .ok (.newarray .int, 2) := by decide +kernel
theorem dX6_init_9 : decode cX6_init 9 = .ok (.putfield 7, 3) := by decide +kernel
theorem dX6_init_12 : decode cX6_init 12 = .ok (.aload_n 0, 1) := by decide +kernel
theorem dX6_init_13 : decode cX6_init 13 = .ok (.bipush 6, 2) := by decide +kernel
theorem dX6_init_15 : decode cX6_init 15 = .ok (.newarray .int, 2) := by decide +kernel
theorem dX6_init_17 : decode cX6_init 17 = .ok (.putfield 13, 3) := by decide +kernel
theorem dX6_init_20 : decode cX6_init 20 = .ok (.aload_n 0, 1) := by decide +kernel
theorem dX6_init_21 : decode cX6_init 21 = .ok (.bipush 6, 2) := by decide +kernel
theorem dX6_init_23 : decode cX6_init 23 = .ok (.newarray .int, 2) := by decide +kernel
theorem dX6_init_25 : decode cX6_init 25 = .ok (.putfield 16, 3) := by decide +kernel
theorem dX6_init_28 : decode cX6_init 28 = .ok (.aload_n 0, 1) := by decide +kernel
theorem dX6_init_29 : decode cX6_init 29 = .ok (.bipush 6, 2) := by decide +kernel
theorem dX6_init_31 : decode cX6_init 31 = .ok (.newarray .int, 2) := by decide +kernel
theorem dX6_init_33 : decode cX6_init 33 = .ok (.putfield 19, 3) := by decide +kernel
theorem dX6_init_36 : decode cX6_init 36 = .ok (.aload_n 0, 1) := by decide +kernel
theorem dX6_init_37 : decode cX6_init 37 = .ok (.bipush 6, 2) := by decide +kernel
theorem dX6_init_39 : decode cX6_init 39 = .ok (.newarray .int, 2) := by decide +kernel
theorem dX6_init_41 : decode cX6_init 41 = .ok (.putfield 22, 3) := by decide +kernel
theorem dX6_init_44 : decode cX6_init 44 = .ok (.aload_n 0, 1) := by decide +kernel
theorem dX6_init_45 : decode cX6_init 45 = .ok (.bipush 6, 2) := by decide +kernel
theorem dX6_init_47 : decode cX6_init 47 = .ok (.newarray .int, 2) := by decide +kernel
theorem dX6_init_49 : decode cX6_init 49 = .ok (.putfield 25, 3) := by decide +kernel
theorem dX6_init_52 : decode cX6_init 52 = .ok (.aload_n 0, 1) := by decide +kernel
theorem dX6_init_53 : decode cX6_init 53 = .ok (.bipush 6, 2) := by decide +kernel
theorem dX6_init_55 : decode cX6_init 55 = .ok (.newarray .int, 2) := by decide +kernel
theorem dX6_init_57 : decode cX6_init 57 = .ok (.putfield 28, 3) := by decide +kernel
theorem dX6_init_60 : decode cX6_init 60 = .ok (.aload_n 0, 1) := by decide +kernel
theorem dX6_init_61 : decode cX6_init 61 = .ok (.bipush 6, 2) := by decide +kernel
theorem dX6_init_63 : decode cX6_init 63 = .ok (.newarray .int, 2) := by decide +kernel
theorem dX6_init_65 : decode cX6_init 65 = .ok (.putfield 31, 3) := by decide +kernel
theorem dX6_init_68 : decode cX6_init 68 = .ok (.aload_n 0, 1) := by decide +kernel
theorem dX6_init_69 : decode cX6_init 69 = .ok (.bipush 6, 2) := by decide +kernel
theorem dX6_init_71 : decode cX6_init 71 = .ok (.newarray .int, 2) := by decide +kernel
theorem dX6_init_73 : decode cX6_init 73 = .ok (.putfield 34, 3) := by decide +kernel
theorem dX6_init_76 : decode cX6_init 76 = .ok (.aload_n 0, 1) := by decide +kernel
theorem dX6_init_77 : decode cX6_init 77 = .ok (.bipush 6, 2) := by decide +kernel
theorem dX6_init_79 : decode cX6_init 79 = .ok (.newarray .int, 2) := by decide +kernel
theorem dX6_init_81 : decode cX6_init 81 = .ok (.putfield 37, 3) := by decide +kernel
theorem dX6_init_84 : decode cX6_init 84 = .ok (.aload_n 0, 1) := by decide +kernel
theorem dX6_init_85 : decode cX6_init 85 = .ok (.bipush 16, 2) := by decide +kernel
theorem dX6_init_87 : decode cX6_init 87 = .ok (.newarray .int, 2) := by decide +kernel
theorem dX6_init_89 : decode cX6_init 89 = .ok (.putfield 40, 3) := by decide +kernel
theorem dX6_init_92 : decode cX6_init 92 = .ok (.aload_n 0, 1) := by decide +kernel
theorem dX6_init_93 : decode cX6_init 93 = .ok (.bipush 16, 2) := by decide +kernel
theorem dX6_init_95 : decode cX6_init 95 = .ok (.newarray .int, 2) := by decide +kernel
theorem dX6_init_97 : decode cX6_init 97 = .ok (.putfield 43, 3) := by decide +kernel
theorem dX6_init_100 : decode cX6_init 100 = .ok (.aload_n 0, 1) := by decide +kernel
theorem dX6_init_101 : decode cX6_init 101 = .ok (.bipush 16, 2) := by decide +kernel
theorem dX6_init_103 : decode cX6_init 103 = .ok (.newarray .int, 2) := by decide +kernel
theorem dX6_init_105 : decode cX6_init 105 = .ok (.putfield 46, 3) := by decide +kernel
theorem dX6_init_108 : decode cX6_init 108 = .ok (.aload_n 0, 1) := by decide +kernel
theorem dX6_init_109 : decode cX6_init 109 = .ok (.bipush 96, 2) := by decide +kernel
theorem dX6_init_111 : decode cX6_init 111 = .ok (.newarray .int, 2) := by decide +kernel
theorem dX6_init_113 : decode cX6_init 113 = .ok (.putfield 49, 3) := by decide +kernel
theorem dX6_init_116 : decode cX6_init 116 = .ok (.aload_n 0, 1) := by decide +kernel
theorem dX6_init_117 : decode cX6_init 117 = .ok (.bipush 12, 2) := by decide +kernel
theorem dX6_init_119 : decode cX6_init 119 = .ok (.newarray .int, 2) := by decide +kernel
theorem dX6_init_121 : decode cX6_init 121 = .ok (.putfield 52, 3) := by decide +kernel
theorem dX6_init_124 : decode cX6_init 124 = .ok (.aload_n 0, 1) := by decide +kernel
theorem dX6_init_125 : decode cX6_init 125 = .ok (.bipush 12, 2) := by decide +kernel
theorem dX6_init_127 : decode cX6_init 127 = .ok (.newarray .int, 2) := by decide +kernel
theorem dX6_init_129 : decode cX6_init 129 = .ok (.putfield 55, 3) := by decide +kernel
theorem dX6_init_132 : decode cX6_init 132 = .ok (.aload_n 0, 1) := by decide +kernel
theorem dX6_init_133 : decode cX6_init 133 = .ok (.bipush 12, 2) := by decide +kernel
theorem dX6_init_135 : decode cX6_init 135 = .ok (.newarray .int, 2) := by decide +kernel
theorem dX6_init_137 : decode cX6_init 137 = .ok (.putfield 58, 3) := by decide +kernel
theorem dX6_init_140 : decode cX6_init 140 = .ok (.aload_n 0, 1) := by decide +kernel
theorem dX6_init_141 : decode cX6_init 141 = .ok (.bipush 12, 2) := by decide +kernel
theorem dX6_init_143 : decode cX6_init 143 = .ok (.newarray .int, 2) := by decide +kernel
theorem dX6_init_145 : decode cX6_init 145 = .ok (.putfield 61, 3) := by decide +kernel
theorem dX6_init_148 : decode cX6_init 148 = .ok (.aload_n 0, 1) := by decide +kernel
theorem dX6_init_149 : decode cX6_init 149 = .ok (.bipush 16, 2) := by decide +kernel
theorem dX6_init_151 : decode cX6_init 151 = .ok (.newarray .int, 2) := by decide +kernel
theorem dX6_init_153 : decode cX6_init 153 = .ok (.putfield 64, 3) := by decide +kernel
theorem dX6_init_156 : decode cX6_init 156 = .ok (.aload_n 0, 1) := by decide +kernel
theorem dX6_init_157 : decode cX6_init 157 = .ok (.bipush 12, 2) := by decide +kernel
theorem dX6_init_159 : decode cX6_init 159 = .ok (.newarray .int, 2) := by decide +kernel
theorem dX6_init_161 : decode cX6_init 161 = .ok (.putfield 67, 3) := by decide +kernel
theorem dX6_init_164 : decode cX6_init 164 = .ok (.aload_n 0, 1) := by decide +kernel
theorem dX6_init_165 : decode cX6_init 165 = .ok (.sipush 192, 3) := by decide +kernel
theorem dX6_init_168 : decode cX6_init 168 = .ok (.newarray .int, 2) := by decide +kernel
theorem dX6_init_170 : decode cX6_init 170 = .ok (.putfield 70, 3) := by decide +kernel
theorem dX6_init_173 : decode cX6_init 173 = .ok (.aload_n 0, 1) := by decide +kernel
theorem dX6_init_174 : decode cX6_init 174 = .ok (.sipush 4096, 3) := by decide +kernel
theorem dX6_init_177 : decode cX6_init 177 = .ok (.newarray .int, 2) := by decide +kernel
theorem dX6_init_179 : decode cX6_init 179 = .ok (.putfield 73, 3) := by decide +kernel
theorem dX6_init_182 : decode cX6_init 182 = .ok (.aload_n 0, 1) := by decide +kernel
theorem dX6_init_183 : decode cX6_init 183 = .ok (.sipush 4096, 3) := by decide +kernel
theorem dX6_init_186 : decode cX6_init 186 = .ok (.newarray .int, 2) := by decide +kernel
theorem dX6_init_188 : decode cX6_init 188 = .ok (.putfield 76, 3) := by decide +kernel
theorem dX6_init_191 : decode cX6_init 191 = .ok (.aload_n 0, 1) := by decide +kernel
theorem dX6_init_192 : decode cX6_init 192 = .ok (.bipush 6, 2) := by decide +kernel
theorem dX6_init_194 : decode cX6_init 194 = .ok (.newarray .int, 2) := by decide +kernel
theorem dX6_init_196 : decode cX6_init 196 = .ok (.putfield 79, 3) := by decide +kernel
theorem dX6_init_199 : decode cX6_init 199 = .ok (.return_, 1) := by decide +kernel
theorem dX6_thrown_0 : decode cX6_thrown 0 = .ok (.aload_n 0, 1) := by decide +kernel
theorem dX6_thrown_1 : decode cX6_thrown 1 = .ok (.getfield 82, 3) := by decide +kernel
theorem dX6_thrown_4 : decode cX6_thrown 4 = .ok (.ireturn, 1) := by decide +kernel
theorem dX6_fails_0 : decode cX6_fails 0 = .ok (.aload_n 0, 1) := by decide +kernel
theorem dX6_fails_1 : decode cX6_fails 1 = .ok (.iload_n 1, 1) := by decide +kernel
theorem dX6_fails_2 : decode cX6_fails 2 = .ok (.putfield 82, 3) := by decide +kernel
theorem dX6_fails_5 : decode cX6_fails 5 = .ok (.iconst 0, 1) := by decide +kernel
theorem dX6_fails_6 : decode cX6_fails 6 = .ok (.ireturn, 1) := by decide +kernel
theorem dX6_in_0 : decode cX6_in 0 = .ok (.lload_n 0, 1) := by decide +kernel
theorem dX6_in_1 : decode cX6_in 1 = .ok (.lload_n 2, 1) := by decide +kernel
theorem dX6_in_2 : decode cX6_in 2 = .ok (.lcmp, 1) := by decide +kernel
theorem dX6_in_3 : decode cX6_in 3 = .ok (.ifCond .lt 14, 3) := by decide +kernel
theorem dX6_in_6 : decode cX6_in 6 = .ok (.lload_n 0, 1) := by decide +kernel
theorem dX6_in_7 : decode cX6_in 7 = .ok (.lload 4, 2) := by decide +kernel
theorem dX6_in_9 : decode cX6_in 9 = .ok (.lcmp, 1) := by decide +kernel
theorem dX6_in_10 : decode cX6_in 10 = .ok (.ifCond .gt 7, 3) := by decide +kernel
theorem dX6_in_13 : decode cX6_in 13 = .ok (.iconst 1, 1) := by decide +kernel
theorem dX6_in_14 : decode cX6_in 14 = .ok (.goto 4, 3) := by decide +kernel
theorem dX6_in_17 : decode cX6_in 17 = .ok (.iconst 0, 1) := by decide +kernel
theorem dX6_in_18 : decode cX6_in 18 = .ok (.ireturn, 1) := by decide +kernel
theorem dX6_isFund_0 : decode cX6_isFund 0 = .ok (.aload_n 0, 1) := by decide +kernel
theorem dX6_isFund_1 : decode cX6_isFund 1 = .ok (.iload_n 1, 1) := by decide +kernel
theorem dX6_isFund_2 : decode cX6_isFund 2 = .ok (.i2l, 1) := by decide +kernel
theorem dX6_isFund_3 : decode cX6_isFund 3 = .ok (.lconst 0, 1) := by decide +kernel
theorem dX6_isFund_4 : decode cX6_isFund 4 = .ok (.aload_n 0, 1) := by decide +kernel
theorem dX6_isFund_5 : decode cX6_isFund 5 = .ok (.getfield 86, 3) := by decide +kernel
theorem dX6_isFund_8 : decode cX6_isFund 8 = .ok (.iconst 1, 1) := by decide +kernel
theorem dX6_isFund_9 : decode cX6_isFund 9 = .ok (.isub, 1) := by decide +kernel
theorem dX6_isFund_10 : decode cX6_isFund 10 = .ok (.i2l, 1) := by decide +kernel
theorem dX6_isFund_11 : decode cX6_isFund 11 = .ok (.invokestatic 89, 3) := by decide +kernel
theorem dX6_isFund_14 : decode cX6_isFund 14 = .ok (.ifCond .eq 7, 3) := by decide +kernel
theorem dX6_isFund_17 : decode cX6_isFund 17 = .ok (.iconst 0, 1) := by decide +kernel
theorem dX6_isFund_18 : decode cX6_isFund 18 = .ok (.goto 4, 3) := by decide +kernel
theorem dX6_isFund_21 : decode cX6_isFund 21 = .ok (.iconst 1, 1) := by decide +kernel
theorem dX6_isFund_22 : decode cX6_isFund 22 = .ok (.putfield 82, 3) := by decide +kernel
theorem dX6_isFund_25 : decode cX6_isFund 25 = .ok (.aload_n 0, 1) := by decide +kernel
theorem dX6_isFund_26 : decode cX6_isFund 26 = .ok (.getfield 82, 3) := by decide +kernel
theorem dX6_isFund_29 : decode cX6_isFund 29 = .ok (.ifCond .ne 7, 3) := by decide +kernel
theorem dX6_isFund_32 : decode cX6_isFund 32 = .ok (.iconst 1, 1) := by decide +kernel
theorem dX6_isFund_33 : decode cX6_isFund 33 = .ok (.goto 4, 3) := by decide +kernel
theorem dX6_isFund_36 : decode cX6_isFund 36 = .ok (.iconst 0, 1) := by decide +kernel
theorem dX6_isFund_37 : decode cX6_isFund 37 = .ok (.ireturn, 1) := by decide +kernel
theorem dX6_isCommitment_0 : decode cX6_isCommitment 0 = .ok (.aload_n 0, 1) := by decide +kernel
theorem dX6_isCommitment_1 : decode cX6_isCommitment 1 = .ok (.iload_n 1, 1) := by decide +kernel
theorem dX6_isCommitment_2 : decode cX6_isCommitment 2 = .ok (.i2l, 1) := by decide +kernel
theorem dX6_isCommitment_3 : decode cX6_isCommitment 3 = .ok (.lconst 0, 1) := by decide +kernel
theorem dX6_isCommitment_4 : decode cX6_isCommitment 4 = .ok (.aload_n 0, 1) := by decide +kernel
theorem dX6_isCommitment_5 : decode cX6_isCommitment 5 = .ok (.getfield 93, 3) := by decide +kernel
theorem dX6_isCommitment_8 : decode cX6_isCommitment 8 = .ok (.iconst 1, 1) := by decide +kernel
theorem dX6_isCommitment_9 : decode cX6_isCommitment 9 = .ok (.isub, 1) := by decide +kernel
theorem dX6_isCommitment_10 : decode cX6_isCommitment 10 = .ok (.i2l, 1) := by decide +kernel
theorem dX6_isCommitment_11 : decode cX6_isCommitment 11 = .ok (.invokestatic 89, 3) := by decide +kernel
theorem dX6_isCommitment_14 : decode cX6_isCommitment 14 = .ok (.ifCond .eq 7, 3) := by decide +kernel
theorem dX6_isCommitment_17 : decode cX6_isCommitment 17 = .ok (.iconst 0, 1) := by decide +kernel
theorem dX6_isCommitment_18 : decode cX6_isCommitment 18 = .ok (.goto 4, 3) := by decide +kernel
theorem dX6_isCommitment_21 : decode cX6_isCommitment 21 = .ok (.iconst 1, 1) := by decide +kernel
theorem dX6_isCommitment_22 : decode cX6_isCommitment 22 = .ok (.putfield 82, 3) := by decide +kernel
theorem dX6_isCommitment_25 : decode cX6_isCommitment 25 = .ok (.aload_n 0, 1) := by decide +kernel
theorem dX6_isCommitment_26 : decode cX6_isCommitment 26 = .ok (.getfield 82, 3) := by decide +kernel
theorem dX6_isCommitment_29 : decode cX6_isCommitment 29 = .ok (.ifCond .ne 7, 3) := by decide +kernel
theorem dX6_isCommitment_32 : decode cX6_isCommitment 32 = .ok (.iconst 1, 1) := by decide +kernel
theorem dX6_isCommitment_33 : decode cX6_isCommitment 33 = .ok (.goto 4, 3) := by decide +kernel
theorem dX6_isCommitment_36 : decode cX6_isCommitment 36 = .ok (.iconst 0, 1) := by decide +kernel
theorem dX6_isCommitment_37 : decode cX6_isCommitment 37 = .ok (.ireturn, 1) := by decide +kernel
theorem dX6_isCost_0 : decode cX6_isCost 0 = .ok (.aload_n 0, 1) := by decide +kernel
theorem dX6_isCost_1 : decode cX6_isCost 1 = .ok (.iload_n 1, 1) := by decide +kernel
theorem dX6_isCost_2 : decode cX6_isCost 2 = .ok (.i2l, 1) := by decide +kernel
theorem dX6_isCost_3 : decode cX6_isCost 3 = .ok (.lconst 0, 1) := by decide +kernel
theorem dX6_isCost_4 : decode cX6_isCost 4 = .ok (.aload_n 0, 1) := by decide +kernel
theorem dX6_isCost_5 : decode cX6_isCost 5 = .ok (.getfield 96, 3) := by decide +kernel
theorem dX6_isCost_8 : decode cX6_isCost 8 = .ok (.iconst 1, 1) := by decide +kernel
theorem dX6_isCost_9 : decode cX6_isCost 9 = .ok (.isub, 1) := by decide +kernel
theorem dX6_isCost_10 : decode cX6_isCost 10 = .ok (.i2l, 1) := by decide +kernel
theorem dX6_isCost_11 : decode cX6_isCost 11 = .ok (.invokestatic 89, 3) := by decide +kernel
theorem dX6_isCost_14 : decode cX6_isCost 14 = .ok (.ifCond .eq 7, 3) := by decide +kernel
theorem dX6_isCost_17 : decode cX6_isCost 17 = .ok (.iconst 0, 1) := by decide +kernel
theorem dX6_isCost_18 : decode cX6_isCost 18 = .ok (.goto 4, 3) := by decide +kernel
theorem dX6_isCost_21 : decode cX6_isCost 21 = .ok (.iconst 1, 1) := by decide +kernel
theorem dX6_isCost_22 : decode cX6_isCost 22 = .ok (.putfield 82, 3) := by decide +kernel
theorem dX6_isCost_25 : decode cX6_isCost 25 = .ok (.aload_n 0, 1) := by decide +kernel
theorem dX6_isCost_26 : decode cX6_isCost 26 = .ok (.getfield 82, 3) := by decide +kernel
theorem dX6_isCost_29 : decode cX6_isCost 29 = .ok (.ifCond .ne 7, 3) := by decide +kernel
theorem dX6_isCost_32 : decode cX6_isCost 32 = .ok (.iconst 1, 1) := by decide +kernel
theorem dX6_isCost_33 : decode cX6_isCost 33 = .ok (.goto 4, 3) := by decide +kernel
theorem dX6_isCost_36 : decode cX6_isCost 36 = .ok (.iconst 0, 1) := by decide +kernel
theorem dX6_isCost_37 : decode cX6_isCost 37 = .ok (.ireturn, 1) := by decide +kernel
theorem dX6_allows_0 : decode cX6_allows 0 = .ok (.aload_n 0, 1) := by decide +kernel
theorem dX6_allows_1 : decode cX6_allows 1 = .ok (.getfield 13, 3) := by decide +kernel
theorem dX6_allows_4 : decode cX6_allows 4 = .ok (.iload_n 1, 1) := by decide +kernel
theorem dX6_allows_5 : decode cX6_allows 5 = .ok (.iaload, 1) := by decide +kernel
theorem dX6_allows_6 : decode cX6_allows 6 = .ok (.iload_n 2, 1) := by decide +kernel
theorem dX6_allows_7 : decode cX6_allows 7 = .ok (.ishr, 1) := by decide +kernel
theorem dX6_allows_8 : decode cX6_allows 8 = .ok (.iconst 1, 1) := by decide +kernel
theorem dX6_allows_9 : decode cX6_allows 9 = .ok (.iand, 1) := by decide +kernel
theorem dX6_allows_10 : decode cX6_allows 10 = .ok (.iconst 1, 1) := by decide +kernel
theorem dX6_allows_11 : decode cX6_allows 11 = .ok (.if_icmp .ne 7, 3) := by decide +kernel
theorem dX6_allows_14 : decode cX6_allows 14 = .ok (.iconst 1, 1) := by decide +kernel
theorem dX6_allows_15 : decode cX6_allows 15 = .ok (.goto 4, 3) := by decide +kernel
theorem dX6_allows_18 : decode cX6_allows 18 = .ok (.iconst 0, 1) := by decide +kernel
theorem dX6_allows_19 : decode cX6_allows 19 = .ok (.ireturn, 1) := by decide +kernel
theorem dX6_suits_0 : decode cX6_suits 0 = .ok (.aload_n 0, 1) := by decide +kernel
theorem dX6_suits_1 : decode cX6_suits 1 = .ok (.iload_n 1, 1) := by decide +kernel
theorem dX6_suits_2 : decode cX6_suits 2 = .ok (.aload_n 0, 1) := by decide +kernel
theorem dX6_suits_3 : decode cX6_suits 3 = .ok (.getfield 40, 3) := by decide +kernel
theorem dX6_suits_6 : decode cX6_suits 6 = .ok (.iload_n 2, 1) := by decide +kernel
theorem dX6_suits_7 : decode cX6_suits 7 = .ok (.iaload, 1) := by decide +kernel
theorem dX6_suits_8 : decode cX6_suits 8 = .ok (.invokevirtual 99, 3) := by decide +kernel
theorem dX6_suits_11 : decode cX6_suits 11 = .ok (.ifCond .eq 22, 3) := by decide +kernel
theorem dX6_suits_14 : decode cX6_suits 14 = .ok (.aload_n 0, 1) := by decide +kernel
theorem dX6_suits_15 : decode cX6_suits 15 = .ok (.getfield 43, 3) := by decide +kernel
theorem dX6_suits_18 : decode cX6_suits 18 = .ok (.iload_n 2, 1) := by decide +kernel
theorem dX6_suits_19 : decode cX6_suits 19 = .ok (.iaload, 1) := by decide +kernel
theorem dX6_suits_20 : decode cX6_suits 20 = .ok (.aload_n 0, 1) := by decide +kernel
theorem dX6_suits_21 : decode cX6_suits 21 = .ok (.getfield 16, 3) := by decide +kernel
theorem dX6_suits_24 : decode cX6_suits 24 = .ok (.iload_n 1, 1) := by decide +kernel
theorem dX6_suits_25 : decode cX6_suits 25 = .ok (.iaload, 1) := by decide +kernel
theorem dX6_suits_26 : decode cX6_suits 26 = .ok (.if_icmp .gt 7, 3) := by decide +kernel
theorem dX6_suits_29 : decode cX6_suits 29 = .ok (.iconst 1, 1) := by decide +kernel
theorem dX6_suits_30 : decode cX6_suits 30 = .ok (.goto 4, 3) := by decide +kernel
theorem dX6_suits_33 : decode cX6_suits 33 = .ok (.iconst 0, 1) := by decide +kernel
theorem dX6_suits_34 : decode cX6_suits 34 = .ok (.ireturn, 1) := by decide +kernel
theorem dX6_addFund_0 : decode cX6_addFund 0 = .ok (.aload_n 0, 1) := by decide +kernel
theorem dX6_addFund_1 : decode cX6_addFund 1 = .ok (.iconst 0, 1) := by decide +kernel
theorem dX6_addFund_2 : decode cX6_addFund 2 = .ok (.putfield 82, 3) := by decide +kernel
theorem dX6_addFund_5 : decode cX6_addFund 5 = .ok (.iload_n 1, 1) := by decide +kernel
theorem dX6_addFund_6 : decode cX6_addFund 6 = .ok (.i2l, 1) := by decide +kernel
theorem dX6_addFund_7 : decode cX6_addFund 7 = .ok (.lconst 0, 1) := by decide +kernel
theorem dX6_addFund_8 : decode cX6_addFund 8 = .ok (.ldc2_w 103, 3) := by decide +kernel
theorem dX6_addFund_11 : decode cX6_addFund 11 = .ok (.invokestatic 89, 3) := by decide +kernel
theorem dX6_addFund_14 : decode cX6_addFund 14 = .ok (.ifCond .eq 40, 3) := by decide +kernel
theorem dX6_addFund_17 : decode cX6_addFund 17 = .ok (.iload_n 2, 1) := by decide +kernel
theorem dX6_addFund_18 : decode cX6_addFund 18 = .ok (.i2l, 1) := by decide +kernel
theorem dX6_addFund_19 : decode cX6_addFund 19 = .ok (.lconst 0, 1) := by decide +kernel
theorem dX6_addFund_20 : decode cX6_addFund 20 = .ok (.ldc2_w 105, 3) := by decide +kernel
theorem dX6_addFund_23 : decode cX6_addFund 23 = .ok (.invokestatic 89, 3) := by decide +kernel
theorem dX6_addFund_26 : decode cX6_addFund 26 = .ok (.ifCond .eq 28, 3) := by decide +kernel
theorem dX6_addFund_29 : decode cX6_addFund 29 = .ok (.iload_n 3, 1) := by decide +kernel
theorem dX6_addFund_30 : decode cX6_addFund 30 = .ok (.i2l, 1) := by decide +kernel
theorem dX6_addFund_31 : decode cX6_addFund 31 = .ok (.lconst 0, 1) := by decide +kernel
theorem dX6_addFund_32 : decode cX6_addFund 32 = .ok (.ldc2_w 107, 3) := by decide +kernel
theorem dX6_addFund_35 : decode cX6_addFund 35 = .ok (.invokestatic 89, 3) := by decide +kernel
theorem dX6_addFund_38 : decode cX6_addFund 38 = .ok (.ifCond .eq 16, 3) := by decide +kernel
theorem dX6_addFund_41 : decode cX6_addFund 41 = .ok (.iload 4, 2) := by decide +kernel
theorem dX6_addFund_43 : decode cX6_addFund 43 = .ok (.i2l, 1) := by decide +kernel
theorem dX6_addFund_44 : decode cX6_addFund 44 = .ok (.lconst 0, 1) := by decide +kernel
theorem dX6_addFund_45 : decode cX6_addFund 45 = .ok (.ldc2_w 109, 3) := by decide +kernel
theorem dX6_addFund_48 : decode cX6_addFund 48 = .ok (.invokestatic 89, 3) := by decide +kernel
theorem dX6_addFund_51 : decode cX6_addFund 51 = .ok (.ifCond .ne 9, 3) := by decide +kernel
theorem dX6_addFund_54 : decode cX6_addFund 54 = .ok (.aload_n 0, 1) := by decide +kernel
theorem dX6_addFund_55 : decode cX6_addFund 55 = .ok (.iconst 1, 1) := by decide +kernel
theorem dX6_addFund_56 : decode cX6_addFund 56 = .ok (.invokevirtual 111, 3) := by decide +kernel
theorem dX6_addFund_59 : decode cX6_addFund 59 = .ok (.ireturn, 1) := by decide +kernel
theorem dX6_addFund_60 : decode cX6_addFund 60 = .ok (.aload_n 0, 1) := by decide +kernel
theorem dX6_addFund_61 : decode cX6_addFund 61 = .ok (.getfield 86, 3) := by decide +kernel
theorem dX6_addFund_64 : decode cX6_addFund 64 = .ok (.bipush 6, 2) := by decide +kernel
theorem dX6_addFund_66 : decode cX6_addFund 66 = .ok (.if_icmp .ne 9, 3) := by decide +kernel
theorem dX6_addFund_69 : decode cX6_addFund 69 = .ok (.aload_n 0, 1) := by decide +kernel
theorem dX6_addFund_70 : decode cX6_addFund 70 = .ok (.iconst 2, 1) := by decide +kernel
theorem dX6_addFund_71 : decode cX6_addFund 71 = .ok (.invokevirtual 111, 3) := by decide +kernel
theorem dX6_addFund_74 : decode cX6_addFund 74 = .ok (.ireturn, 1) := by decide +kernel
theorem dX6_addFund_75 : decode cX6_addFund 75 = .ok (.aload_n 0, 1) := by decide +kernel
theorem dX6_addFund_76 : decode cX6_addFund 76 = .ok (.getfield 7, 3) := by decide +kernel
theorem dX6_addFund_79 : decode cX6_addFund 79 = .ok (.aload_n 0, 1) := by decide +kernel
theorem dX6_addFund_80 : decode cX6_addFund 80 = .ok (.getfield 86, 3) := by decide +kernel
theorem dX6_addFund_83 : decode cX6_addFund 83 = .ok (.iload_n 1, 1) := by decide +kernel
theorem dX6_addFund_84 : decode cX6_addFund 84 = .ok (.iastore, 1) := by decide +kernel
theorem dX6_addFund_85 : decode cX6_addFund 85 = .ok (.aload_n 0, 1) := by decide +kernel
theorem dX6_addFund_86 : decode cX6_addFund 86 = .ok (.getfield 13, 3) := by decide +kernel
theorem dX6_addFund_89 : decode cX6_addFund 89 = .ok (.aload_n 0, 1) := by decide +kernel
theorem dX6_addFund_90 : decode cX6_addFund 90 = .ok (.getfield 86, 3) := by decide +kernel
theorem dX6_addFund_93 : decode cX6_addFund 93 = .ok (.iload_n 2, 1) := by decide +kernel
theorem dX6_addFund_94 : decode cX6_addFund 94 = .ok (.iastore, 1) := by decide +kernel
theorem dX6_addFund_95 : decode cX6_addFund 95 = .ok (.aload_n 0, 1) := by decide +kernel
theorem dX6_addFund_96 : decode cX6_addFund 96 = .ok (.getfield 16, 3) := by decide +kernel
theorem dX6_addFund_99 : decode cX6_addFund 99 = .ok (.aload_n 0, 1) := by decide +kernel
theorem dX6_addFund_100 : decode cX6_addFund 100 = .ok (.getfield 86, 3) := by decide +kernel
theorem dX6_addFund_103 : decode cX6_addFund 103 = .ok (.iload_n 3, 1) := by decide +kernel
theorem dX6_addFund_104 : decode cX6_addFund 104 = .ok (.iastore, 1) := by decide +kernel
theorem dX6_addFund_105 : decode cX6_addFund 105 = .ok (.aload_n 0, 1) := by decide +kernel
theorem dX6_addFund_106 : decode cX6_addFund 106 = .ok (.getfield 19, 3) := by decide +kernel
theorem dX6_addFund_109 : decode cX6_addFund 109 = .ok (.aload_n 0, 1) := by decide +kernel
theorem dX6_addFund_110 : decode cX6_addFund 110 = .ok (.getfield 86, 3) := by decide +kernel
theorem dX6_addFund_113 : decode cX6_addFund 113 = .ok (.iload 4, 2) := by decide +kernel
theorem dX6_addFund_115 : decode cX6_addFund 115 = .ok (.iastore, 1) := by decide +kernel
theorem dX6_addFund_116 : decode cX6_addFund 116 = .ok (.aload_n 0, 1) := by decide +kernel
theorem dX6_addFund_117 : decode cX6_addFund 117 = .ok (.dup, 1) := by decide +kernel
theorem dX6_addFund_118 : decode cX6_addFund 118 = .ok (.getfield 86, 3) := by decide +kernel
theorem dX6_addFund_121 : decode cX6_addFund 121 = .ok (.iconst 1, 1) := by decide +kernel
theorem dX6_addFund_122 : decode cX6_addFund 122 = .ok (.iadd, 1) := by decide +kernel
theorem dX6_addFund_123 : decode cX6_addFund 123 = .ok (.putfield 86, 3) := by decide +kernel
theorem dX6_addFund_126 : decode cX6_addFund 126 = .ok (.aload_n 0, 1) := by decide +kernel
theorem dX6_addFund_127 : decode cX6_addFund 127 = .ok (.getfield 86, 3) := by decide +kernel
theorem dX6_addFund_130 : decode cX6_addFund 130 = .ok (.iconst 1, 1) := by decide +kernel
theorem dX6_addFund_131 : decode cX6_addFund 131 = .ok (.isub, 1) := by decide +kernel
theorem dX6_addFund_132 : decode cX6_addFund 132 = .ok (.ireturn, 1) := by decide +kernel
theorem dX6_deposit_0 : decode cX6_deposit 0 = .ok (.aload_n 0, 1) := by decide +kernel
theorem dX6_deposit_1 : decode cX6_deposit 1 = .ok (.iload_n 1, 1) := by decide +kernel
theorem dX6_deposit_2 : decode cX6_deposit 2 = .ok (.invokevirtual 115, 3) := by decide +kernel
theorem dX6_deposit_5 : decode cX6_deposit 5 = .ok (.ifCond .ne 5, 3) := by decide +kernel
theorem dX6_deposit_8 : decode cX6_deposit 8 = .ok (.iconst 0, 1) := by decide +kernel
theorem dX6_deposit_9 : decode cX6_deposit 9 = .ok (.ireturn, 1) := by decide +kernel
theorem dX6_deposit_10 : decode cX6_deposit 10 = .ok (.iload_n 2, 1) := by decide +kernel
theorem dX6_deposit_11 : decode cX6_deposit 11 = .ok (.i2l, 1) := by decide +kernel
theorem dX6_deposit_12 : decode cX6_deposit 12 = .ok (.lconst 1, 1) := by decide +kernel
theorem dX6_deposit_13 : decode cX6_deposit 13 = .ok (.ldc2_w 103, 3) := by decide +kernel
theorem dX6_deposit_16 : decode cX6_deposit 16 = .ok (.invokestatic 89, 3) := by decide +kernel
theorem dX6_deposit_19 : decode cX6_deposit 19 = .ok (.ifCond .ne 9, 3) := by decide +kernel
theorem dX6_deposit_22 : decode cX6_deposit 22 = .ok (.aload_n 0, 1) := by decide +kernel
theorem dX6_deposit_23 : decode cX6_deposit 23 = .ok (.iconst 2, 1) := by decide +kernel
theorem dX6_deposit_24 : decode cX6_deposit 24 = .ok (.invokevirtual 111, 3) := by decide +kernel
theorem dX6_deposit_27 : decode cX6_deposit 27 = .ok (.ireturn, 1) := by decide +kernel
theorem dX6_deposit_28 : decode cX6_deposit 28 = .ok (.aload_n 0, 1) := by decide +kernel
theorem dX6_deposit_29 : decode cX6_deposit 29 = .ok (.getfield 7, 3) := by decide +kernel
theorem dX6_deposit_32 : decode cX6_deposit 32 = .ok (.iload_n 1, 1) := by decide +kernel
theorem dX6_deposit_33 : decode cX6_deposit 33 = .ok (.dup2, 1) := by decide +kernel
theorem dX6_deposit_34 : decode cX6_deposit 34 = .ok (.iaload, 1) := by decide +kernel
theorem dX6_deposit_35 : decode cX6_deposit 35 = .ok (.iload_n 2, 1) := by decide +kernel
theorem dX6_deposit_36 : decode cX6_deposit 36 = .ok (.iadd, 1) := by decide +kernel
theorem dX6_deposit_37 : decode cX6_deposit 37 = .ok (.iastore, 1) := by decide +kernel
theorem dX6_deposit_38 : decode cX6_deposit 38 = .ok (.aload_n 0, 1) := by decide +kernel
theorem dX6_deposit_39 : decode cX6_deposit 39 = .ok (.getfield 7, 3) := by decide +kernel
theorem dX6_deposit_42 : decode cX6_deposit 42 = .ok (.iload_n 1, 1) := by decide +kernel
theorem dX6_deposit_43 : decode cX6_deposit 43 = .ok (.iaload, 1) := by decide +kernel
theorem dX6_deposit_44 : decode cX6_deposit 44 = .ok (.ireturn, 1) := by decide +kernel
theorem dX6_commit_0 : decode cX6_commit 0 = .ok (.aload_n 0, 1) := by decide +kernel
theorem dX6_commit_1 : decode cX6_commit 1 = .ok (.iload_n 1, 1) := by decide +kernel
theorem dX6_commit_2 : decode cX6_commit 2 = .ok (.invokevirtual 115, 3) := by decide +kernel
theorem dX6_commit_5 : decode cX6_commit 5 = .ok (.ifCond .ne 5, 3) := by decide +kernel
theorem dX6_commit_8 : decode cX6_commit 8 = .ok (.iconst 0, 1) := by decide +kernel
theorem dX6_commit_9 : decode cX6_commit 9 = .ok (.ireturn, 1) := by decide +kernel
theorem dX6_commit_10 : decode cX6_commit 10 = .ok (.iload_n 2, 1) := by decide +kernel
theorem dX6_commit_11 : decode cX6_commit 11 = .ok (.i2l, 1) := by decide +kernel
theorem dX6_commit_12 : decode cX6_commit 12 = .ok (.lconst 0, 1) := by decide +kernel
theorem dX6_commit_13 : decode cX6_commit 13 = .ok (.ldc2_w 119, 3) := by decide +kernel
theorem dX6_commit_16 : decode cX6_commit 16 = .ok (.invokestatic 89, 3) := by decide +kernel
theorem dX6_commit_19 : decode cX6_commit 19 = .ok (.ifCond .eq 32, 3) := by decide +kernel
theorem dX6_commit_22 : decode cX6_commit 22 = .ok (.iload_n 3, 1) := by decide +kernel
theorem dX6_commit_23 : decode cX6_commit 23 = .ok (.i2l, 1) := by decide +kernel
theorem dX6_commit_24 : decode cX6_commit 24 = .ok (.lconst 1, 1) := by decide +kernel
theorem dX6_commit_25 : decode cX6_commit 25 = .ok (.ldc2_w 103, 3) := by decide +kernel
theorem dX6_commit_28 : decode cX6_commit 28 = .ok (.invokestatic 89, 3) := by decide +kernel
theorem dX6_commit_31 : decode cX6_commit 31 = .ok (.ifCond .eq 20, 3) := by decide +kernel
theorem dX6_commit_34 : decode cX6_commit 34 = .ok (.iload 4, 2) := by decide +kernel
theorem dX6_commit_36 : decode cX6_commit 36 = .ok (.i2l, 1) := by decide +kernel
theorem dX6_commit_37 : decode cX6_commit 37 = .ok (.aload_n 0, 1) := by decide +kernel
theorem dX6_commit_38 : decode cX6_commit 38 = .ok (.getfield 121, 3) := by decide +kernel
theorem dX6_commit_41 : decode cX6_commit 41 = .ok (.i2l, 1) := by decide +kernel
theorem dX6_commit_42 : decode cX6_commit 42 = .ok (.ldc2_w 107, 3) := by decide +kernel
theorem dX6_commit_45 : decode cX6_commit 45 = .ok (.invokestatic 89, 3) := by decide +kernel
theorem dX6_commit_48 : decode cX6_commit 48 = .ok (.ifCond .ne 9, 3) := by decide +kernel
theorem dX6_commit_51 : decode cX6_commit 51 = .ok (.aload_n 0, 1) := by decide +kernel
theorem dX6_commit_52 : decode cX6_commit 52 = .ok (.iconst 2, 1) := by decide +kernel
theorem dX6_commit_53 : decode cX6_commit 53 = .ok (.invokevirtual 111, 3) := by decide +kernel
theorem dX6_commit_56 : decode cX6_commit 56 = .ok (.ireturn, 1) := by decide +kernel
theorem dX6_commit_57 : decode cX6_commit 57 = .ok (.aload_n 0, 1) := by decide +kernel
theorem dX6_commit_58 : decode cX6_commit 58 = .ok (.iload_n 1, 1) := by decide +kernel
theorem dX6_commit_59 : decode cX6_commit 59 = .ok (.iload_n 2, 1) := by decide +kernel
theorem dX6_commit_60 : decode cX6_commit 60 = .ok (.invokevirtual 99, 3) := by decide +kernel
theorem dX6_commit_63 : decode cX6_commit 63 = .ok (.ifCond .eq 22, 3) := by decide +kernel
theorem dX6_commit_66 : decode cX6_commit 66 = .ok (.aload_n 0, 1) := by decide +kernel
theorem dX6_commit_67 : decode cX6_commit 67 = .ok (.getfield 7, 3) := by decide +kernel
theorem dX6_commit_70 : decode cX6_commit 70 = .ok (.iload_n 1, 1) := by decide +kernel
theorem dX6_commit_71 : decode cX6_commit 71 = .ok (.iaload, 1) := by decide +kernel
theorem dX6_commit_72 : decode cX6_commit 72 = .ok (.iload_n 3, 1) := by decide +kernel
theorem dX6_commit_73 : decode cX6_commit 73 = .ok (.if_icmp .lt 12, 3) := by decide +kernel
theorem dX6_commit_76 : decode cX6_commit 76 = .ok (.aload_n 0, 1) := by decide +kernel
theorem dX6_commit_77 : decode cX6_commit 77 = .ok (.getfield 93, 3) := by decide +kernel
theorem dX6_commit_80 : decode cX6_commit 80 = .ok (.bipush 6, 2) := by decide +kernel
theorem dX6_commit_82 : decode cX6_commit 82 = .ok (.if_icmp .ne 9, 3) := by decide +kernel
theorem dX6_commit_85 : decode cX6_commit 85 = .ok (.aload_n 0, 1) := by decide +kernel
theorem dX6_commit_86 : decode cX6_commit 86 = .ok (.iconst 3, 1) := by decide +kernel
theorem dX6_commit_87 : decode cX6_commit 87 = .ok (.invokevirtual 111, 3) := by decide +kernel
theorem dX6_commit_90 : decode cX6_commit 90 = .ok (.ireturn, 1) := by decide +kernel
theorem dX6_commit_91 : decode cX6_commit 91 = .ok (.aload_n 0, 1) := by decide +kernel
theorem dX6_commit_92 : decode cX6_commit 92 = .ok (.getfield 7, 3) := by decide +kernel
theorem dX6_commit_95 : decode cX6_commit 95 = .ok (.iload_n 1, 1) := by decide +kernel
theorem dX6_commit_96 : decode cX6_commit 96 = .ok (.dup2, 1) := by decide +kernel
theorem dX6_commit_97 : decode cX6_commit 97 = .ok (.iaload, 1) := by decide +kernel
theorem dX6_commit_98 : decode cX6_commit 98 = .ok (.iload_n 3, 1) := by decide +kernel
theorem dX6_commit_99 : decode cX6_commit 99 = .ok (.isub, 1) := by decide +kernel
theorem dX6_commit_100 : decode cX6_commit 100 = .ok (.iastore, 1) := by decide +kernel
theorem dX6_commit_101 : decode cX6_commit 101 = .ok (.aload_n 0, 1) := by decide +kernel
theorem dX6_commit_102 : decode cX6_commit 102 = .ok (.getfield 28, 3) := by decide +kernel
theorem dX6_commit_105 : decode cX6_commit 105 = .ok (.aload_n 0, 1) := by decide +kernel
theorem dX6_commit_106 : decode cX6_commit 106 = .ok (.getfield 93, 3) := by decide +kernel
theorem dX6_commit_109 : decode cX6_commit 109 = .ok (.iload_n 1, 1) := by decide +kernel
theorem dX6_commit_110 : decode cX6_commit 110 = .ok (.iastore, 1) := by decide +kernel
theorem dX6_commit_111 : decode cX6_commit 111 = .ok (.aload_n 0, 1) := by decide +kernel
theorem dX6_commit_112 : decode cX6_commit 112 = .ok (.getfield 31, 3) := by decide +kernel
theorem dX6_commit_115 : decode cX6_commit 115 = .ok (.aload_n 0, 1) := by decide +kernel
theorem dX6_commit_116 : decode cX6_commit 116 = .ok (.getfield 93, 3) := by decide +kernel
theorem dX6_commit_119 : decode cX6_commit 119 = .ok (.iload_n 2, 1) := by decide +kernel
theorem dX6_commit_120 : decode cX6_commit 120 = .ok (.iastore, 1) := by decide +kernel
theorem dX6_commit_121 : decode cX6_commit 121 = .ok (.aload_n 0, 1) := by decide +kernel
theorem dX6_commit_122 : decode cX6_commit 122 = .ok (.getfield 34, 3) := by decide +kernel
theorem dX6_commit_125 : decode cX6_commit 125 = .ok (.aload_n 0, 1) := by decide +kernel
theorem dX6_commit_126 : decode cX6_commit 126 = .ok (.getfield 93, 3) := by decide +kernel
theorem dX6_commit_129 : decode cX6_commit 129 = .ok (.iload_n 3, 1) := by decide +kernel
theorem dX6_commit_130 : decode cX6_commit 130 = .ok (.iastore, 1) := by decide +kernel
theorem dX6_commit_131 : decode cX6_commit 131 = .ok (.aload_n 0, 1) := by decide +kernel
theorem dX6_commit_132 : decode cX6_commit 132 = .ok (.getfield 37, 3) := by decide +kernel
theorem dX6_commit_135 : decode cX6_commit 135 = .ok (.aload_n 0, 1) := by decide +kernel
theorem dX6_commit_136 : decode cX6_commit 136 = .ok (.getfield 93, 3) := by decide +kernel
theorem dX6_commit_139 : decode cX6_commit 139 = .ok (.iload 4, 2) := by decide +kernel
theorem dX6_commit_141 : decode cX6_commit 141 = .ok (.iastore, 1) := by decide +kernel
theorem dX6_commit_142 : decode cX6_commit 142 = .ok (.aload_n 0, 1) := by decide +kernel
theorem dX6_commit_143 : decode cX6_commit 143 = .ok (.dup, 1) := by decide +kernel
theorem dX6_commit_144 : decode cX6_commit 144 = .ok (.getfield 93, 3) := by decide +kernel
theorem dX6_commit_147 : decode cX6_commit 147 = .ok (.iconst 1, 1) := by decide +kernel
theorem dX6_commit_148 : decode cX6_commit 148 = .ok (.iadd, 1) := by decide +kernel
theorem dX6_commit_149 : decode cX6_commit 149 = .ok (.putfield 93, 3) := by decide +kernel
theorem dX6_commit_152 : decode cX6_commit 152 = .ok (.aload_n 0, 1) := by decide +kernel
theorem dX6_commit_153 : decode cX6_commit 153 = .ok (.getfield 93, 3) := by decide +kernel
theorem dX6_commit_156 : decode cX6_commit 156 = .ok (.ireturn, 1) := by decide +kernel
theorem dX6_ends_0 : decode cX6_ends 0 = .ok (.aload_n 0, 1) := by decide +kernel
theorem dX6_ends_1 : decode cX6_ends 1 = .ok (.getfield 7, 3) := by decide +kernel
theorem dX6_ends_4 : decode cX6_ends 4 = .ok (.aload_n 0, 1) := by decide +kernel
theorem dX6_ends_5 : decode cX6_ends 5 = .ok (.getfield 28, 3) := by decide +kernel
theorem dX6_ends_8 : decode cX6_ends 8 = .ok (.iload_n 1, 1) := by decide +kernel
theorem dX6_ends_9 : decode cX6_ends 9 = .ok (.iaload, 1) := by decide +kernel
theorem dX6_ends_10 : decode cX6_ends 10 = .ok (.dup2, 1) := by decide +kernel
theorem dX6_ends_11 : decode cX6_ends 11 = .ok (.iaload, 1) := by decide +kernel
theorem dX6_ends_12 : decode cX6_ends 12 = .ok (.aload_n 0, 1) := by decide +kernel
theorem dX6_ends_13 : decode cX6_ends 13 = .ok (.getfield 34, 3) := by decide +kernel
theorem dX6_ends_16 : decode cX6_ends 16 = .ok (.iload_n 1, 1) := by decide +kernel
theorem dX6_ends_17 : decode cX6_ends 17 = .ok (.iaload, 1) := by decide +kernel
theorem dX6_ends_18 : decode cX6_ends 18 = .ok (.iadd, 1) := by decide +kernel
theorem dX6_ends_19 : decode cX6_ends 19 = .ok (.iastore, 1) := by decide +kernel
theorem dX6_ends_20 : decode cX6_ends 20 = .ok (.aload_n 0, 1) := by decide +kernel
theorem dX6_ends_21 : decode cX6_ends 21 = .ok (.dup, 1) := by decide +kernel
theorem dX6_ends_22 : decode cX6_ends 22 = .ok (.getfield 93, 3) := by decide +kernel
theorem dX6_ends_25 : decode cX6_ends 25 = .ok (.iconst 1, 1) := by decide +kernel
theorem dX6_ends_26 : decode cX6_ends 26 = .ok (.isub, 1) := by decide +kernel
theorem dX6_ends_27 : decode cX6_ends 27 = .ok (.putfield 93, 3) := by decide +kernel
theorem dX6_ends_30 : decode cX6_ends 30 = .ok (.iload_n 1, 1) := by decide +kernel
theorem dX6_ends_31 : decode cX6_ends 31 = .ok (.istore_n 2, 1) := by decide +kernel
theorem dX6_ends_32 : decode cX6_ends 32 = .ok (.iload_n 2, 1) := by decide +kernel
theorem dX6_ends_33 : decode cX6_ends 33 = .ok (.aload_n 0, 1) := by decide +kernel
theorem dX6_ends_34 : decode cX6_ends 34 = .ok (.getfield 93, 3) := by decide +kernel
theorem dX6_ends_37 : decode cX6_ends 37 = .ok (.if_icmp .ge 65, 3) := by decide +kernel
theorem dX6_ends_40 : decode cX6_ends 40 = .ok (.aload_n 0, 1) := by decide +kernel
theorem dX6_ends_41 : decode cX6_ends 41 = .ok (.getfield 28, 3) := by decide +kernel
theorem dX6_ends_44 : decode cX6_ends 44 = .ok (.iload_n 2, 1) := by decide +kernel
theorem dX6_ends_45 : decode cX6_ends 45 = .ok (.aload_n 0, 1) := by decide +kernel
theorem dX6_ends_46 : decode cX6_ends 46 = .ok (.getfield 28, 3) := by decide +kernel
theorem dX6_ends_49 : decode cX6_ends 49 = .ok (.iload_n 2, 1) := by decide +kernel
theorem dX6_ends_50 : decode cX6_ends 50 = .ok (.iconst 1, 1) := by decide +kernel
theorem dX6_ends_51 : decode cX6_ends 51 = .ok (.iadd, 1) := by decide +kernel
theorem dX6_ends_52 : decode cX6_ends 52 = .ok (.iaload, 1) := by decide +kernel
theorem dX6_ends_53 : decode cX6_ends 53 = .ok (.iastore, 1) := by decide +kernel
theorem dX6_ends_54 : decode cX6_ends 54 = .ok (.aload_n 0, 1) := by decide +kernel
theorem dX6_ends_55 : decode cX6_ends 55 = .ok (.getfield 31, 3) := by decide +kernel
theorem dX6_ends_58 : decode cX6_ends 58 = .ok (.iload_n 2, 1) := by decide +kernel
theorem dX6_ends_59 : decode cX6_ends 59 = .ok (.aload_n 0, 1) := by decide +kernel
theorem dX6_ends_60 : decode cX6_ends 60 = .ok (.getfield 31, 3) := by decide +kernel
theorem dX6_ends_63 : decode cX6_ends 63 = .ok (.iload_n 2, 1) := by decide +kernel
theorem dX6_ends_64 : decode cX6_ends 64 = .ok (.iconst 1, 1) := by decide +kernel
theorem dX6_ends_65 : decode cX6_ends 65 = .ok (.iadd, 1) := by decide +kernel
theorem dX6_ends_66 : decode cX6_ends 66 = .ok (.iaload, 1) := by decide +kernel
theorem dX6_ends_67 : decode cX6_ends 67 = .ok (.iastore, 1) := by decide +kernel
theorem dX6_ends_68 : decode cX6_ends 68 = .ok (.aload_n 0, 1) := by decide +kernel
theorem dX6_ends_69 : decode cX6_ends 69 = .ok (.getfield 34, 3) := by decide +kernel
theorem dX6_ends_72 : decode cX6_ends 72 = .ok (.iload_n 2, 1) := by decide +kernel
theorem dX6_ends_73 : decode cX6_ends 73 = .ok (.aload_n 0, 1) := by decide +kernel
theorem dX6_ends_74 : decode cX6_ends 74 = .ok (.getfield 34, 3) := by decide +kernel
theorem dX6_ends_77 : decode cX6_ends 77 = .ok (.iload_n 2, 1) := by decide +kernel
theorem dX6_ends_78 : decode cX6_ends 78 = .ok (.iconst 1, 1) := by decide +kernel
theorem dX6_ends_79 : decode cX6_ends 79 = .ok (.iadd, 1) := by decide +kernel
theorem dX6_ends_80 : decode cX6_ends 80 = .ok (.iaload, 1) := by decide +kernel
theorem dX6_ends_81 : decode cX6_ends 81 = .ok (.iastore, 1) := by decide +kernel
theorem dX6_ends_82 : decode cX6_ends 82 = .ok (.aload_n 0, 1) := by decide +kernel
theorem dX6_ends_83 : decode cX6_ends 83 = .ok (.getfield 37, 3) := by decide +kernel
theorem dX6_ends_86 : decode cX6_ends 86 = .ok (.iload_n 2, 1) := by decide +kernel
theorem dX6_ends_87 : decode cX6_ends 87 = .ok (.aload_n 0, 1) := by decide +kernel
theorem dX6_ends_88 : decode cX6_ends 88 = .ok (.getfield 37, 3) := by decide +kernel
theorem dX6_ends_91 : decode cX6_ends 91 = .ok (.iload_n 2, 1) := by decide +kernel
theorem dX6_ends_92 : decode cX6_ends 92 = .ok (.iconst 1, 1) := by decide +kernel
theorem dX6_ends_93 : decode cX6_ends 93 = .ok (.iadd, 1) := by decide +kernel
theorem dX6_ends_94 : decode cX6_ends 94 = .ok (.iaload, 1) := by decide +kernel
theorem dX6_ends_95 : decode cX6_ends 95 = .ok (.iastore, 1) := by decide +kernel
theorem dX6_ends_96 : decode cX6_ends 96 = .ok (.iinc 2 1, 3) := by decide +kernel
theorem dX6_ends_99 : decode cX6_ends 99 = .ok (.goto (-67), 3) := by decide +kernel
theorem dX6_ends_102 : decode cX6_ends 102 = .ok (.return_, 1) := by decide +kernel
theorem dX6_cancel_0 : decode cX6_cancel 0 = .ok (.aload_n 0, 1) := by decide +kernel
theorem dX6_cancel_1 : decode cX6_cancel 1 = .ok (.iload_n 1, 1) := by decide +kernel
theorem dX6_cancel_2 : decode cX6_cancel 2 = .ok (.invokevirtual 124, 3) := by decide +kernel
theorem dX6_cancel_5 : decode cX6_cancel 5 = .ok (.ifCond .ne 5, 3) := by decide +kernel
theorem dX6_cancel_8 : decode cX6_cancel 8 = .ok (.iconst 0, 1) := by decide +kernel
theorem dX6_cancel_9 : decode cX6_cancel 9 = .ok (.ireturn, 1) := by decide +kernel
theorem dX6_cancel_10 : decode cX6_cancel 10 = .ok (.aload_n 0, 1) := by decide +kernel
theorem dX6_cancel_11 : decode cX6_cancel 11 = .ok (.getfield 34, 3) := by decide +kernel
theorem dX6_cancel_14 : decode cX6_cancel 14 = .ok (.iload_n 1, 1) := by decide +kernel
theorem dX6_cancel_15 : decode cX6_cancel 15 = .ok (.iaload, 1) := by decide +kernel
theorem dX6_cancel_16 : decode cX6_cancel 16 = .ok (.istore_n 2, 1) := by decide +kernel
theorem dX6_cancel_17 : decode cX6_cancel 17 = .ok (.aload_n 0, 1) := by decide +kernel
theorem dX6_cancel_18 : decode cX6_cancel 18 = .ok (.iload_n 1, 1) := by decide +kernel
theorem dX6_cancel_19 : decode cX6_cancel 19 = .ok (.invokevirtual 127, 3) := by decide +kernel
theorem dX6_cancel_22 : decode cX6_cancel 22 = .ok (.iload_n 2, 1) := by decide +kernel
theorem dX6_cancel_23 : decode cX6_cancel 23 = .ok (.ireturn, 1) := by decide +kernel
theorem dX6_advance_0 : decode cX6_advance 0 = .ok (.aload_n 0, 1) := by decide +kernel
theorem dX6_advance_1 : decode cX6_advance 1 = .ok (.iconst 0, 1) := by decide +kernel
theorem dX6_advance_2 : decode cX6_advance 2 = .ok (.putfield 82, 3) := by decide +kernel
theorem dX6_advance_5 : decode cX6_advance 5 = .ok (.iload_n 1, 1) := by decide +kernel
theorem dX6_advance_6 : decode cX6_advance 6 = .ok (.i2l, 1) := by decide +kernel
theorem dX6_advance_7 : decode cX6_advance 7 = .ok (.lconst 1, 1) := by decide +kernel
theorem dX6_advance_8 : decode cX6_advance 8 = .ok (.ldc2_w 107, 3) := by decide +kernel
theorem dX6_advance_11 : decode cX6_advance 11 = .ok (.invokestatic 89, 3) := by decide +kernel
theorem dX6_advance_14 : decode cX6_advance 14 = .ok (.ifCond .eq 15, 3) := by decide +kernel
theorem dX6_advance_17 : decode cX6_advance 17 = .ok (.aload_n 0, 1) := by decide +kernel
theorem dX6_advance_18 : decode cX6_advance 18 = .ok (.getfield 121, 3) := by decide +kernel
theorem dX6_advance_21 : decode cX6_advance 21 = .ok (.iload_n 1, 1) := by decide +kernel
theorem dX6_advance_22 : decode cX6_advance 22 = .ok (.iadd, 1) := by decide +kernel
theorem dX6_advance_23 : decode cX6_advance 23 = .ok (.sipush 999, 3) := by decide +kernel
theorem dX6_advance_26 : decode cX6_advance 26 = .ok (.if_icmp .le 9, 3) := by decide +kernel
theorem dX6_advance_29 : decode cX6_advance 29 = .ok (.aload_n 0, 1) := by decide +kernel
theorem dX6_advance_30 : decode cX6_advance 30 = .ok (.iconst 1, 1) := by decide +kernel
theorem dX6_advance_31 : decode cX6_advance 31 = .ok (.invokevirtual 111, 3) := by decide +kernel
theorem dX6_advance_34 : decode cX6_advance 34 = .ok (.ireturn, 1) := by decide +kernel
theorem dX6_advance_35 : decode cX6_advance 35 = .ok (.aload_n 0, 1) := by decide +kernel
theorem dX6_advance_36 : decode cX6_advance 36 = .ok (.dup, 1) := by decide +kernel
theorem dX6_advance_37 : decode cX6_advance 37 = .ok (.getfield 121, 3) := by decide +kernel
theorem dX6_advance_40 : decode cX6_advance 40 = .ok (.iload_n 1, 1) := by decide +kernel
theorem dX6_advance_41 : decode cX6_advance 41 = .ok (.iadd, 1) := by decide +kernel
theorem dX6_advance_42 : decode cX6_advance 42 = .ok (.putfield 121, 3) := by decide +kernel
theorem dX6_advance_45 : decode cX6_advance 45 = .ok (.iconst 0, 1) := by decide +kernel
theorem dX6_advance_46 : decode cX6_advance 46 = .ok (.istore_n 2, 1) := by decide +kernel
theorem dX6_advance_47 : decode cX6_advance 47 = .ok (.aload_n 0, 1) := by decide +kernel
theorem dX6_advance_48 : decode cX6_advance 48 = .ok (.getfield 93, 3) := by decide +kernel
theorem dX6_advance_51 : decode cX6_advance 51 = .ok (.iconst 1, 1) := by decide +kernel
theorem dX6_advance_52 : decode cX6_advance 52 = .ok (.isub, 1) := by decide +kernel
theorem dX6_advance_53 : decode cX6_advance 53 = .ok (.istore_n 3, 1) := by decide +kernel
theorem dX6_advance_54 : decode cX6_advance 54 = .ok (.iload_n 3, 1) := by decide +kernel
theorem dX6_advance_55 : decode cX6_advance 55 = .ok (.ifCond .lt 30, 3) := by decide +kernel
theorem dX6_advance_58 : decode cX6_advance 58 = .ok (.aload_n 0, 1) := by decide +kernel
theorem dX6_advance_59 : decode cX6_advance 59 = .ok (.getfield 37, 3) := by decide +kernel
theorem dX6_advance_62 : decode cX6_advance 62 = .ok (.iload_n 3, 1) := by decide +kernel
theorem dX6_advance_63 : decode cX6_advance 63 = .ok (.iaload, 1) := by decide +kernel
theorem dX6_advance_64 : decode cX6_advance 64 = .ok (.aload_n 0, 1) := by decide +kernel
theorem dX6_advance_65 : decode cX6_advance 65 = .ok (.getfield 121, 3) := by decide +kernel
theorem dX6_advance_68 : decode cX6_advance 68 = .ok (.if_icmp .ge 11, 3) := by decide +kernel
theorem dX6_advance_71 : decode cX6_advance 71 = .ok (.aload_n 0, 1) := by decide +kernel
theorem dX6_advance_72 : decode cX6_advance 72 = .ok (.iload_n 3, 1) := by decide +kernel
theorem dX6_advance_73 : decode cX6_advance 73 = .ok (.invokevirtual 127, 3) := by decide +kernel
theorem dX6_advance_76 : decode cX6_advance 76 = .ok (.iinc 2 1, 3) := by decide +kernel
theorem dX6_advance_79 : decode cX6_advance 79 = .ok (.iinc 3 (-1), 3) := by decide +kernel
theorem dX6_advance_82 : decode cX6_advance 82 = .ok (.goto (-28), 3) := by decide +kernel
theorem dX6_advance_85 : decode cX6_advance 85 = .ok (.iload_n 2, 1) := by decide +kernel
theorem dX6_advance_86 : decode cX6_advance 86 = .ok (.ireturn, 1) := by decide +kernel
theorem dX6_addCost_0 : decode cX6_addCost 0 = .ok (.aload_n 0, 1) := by decide +kernel
theorem dX6_addCost_1 : decode cX6_addCost 1 = .ok (.iconst 0, 1) := by decide +kernel
theorem dX6_addCost_2 : decode cX6_addCost 2 = .ok (.putfield 82, 3) := by decide +kernel
theorem dX6_addCost_5 : decode cX6_addCost 5 = .ok (.iload_n 1, 1) := by decide +kernel
theorem dX6_addCost_6 : decode cX6_addCost 6 = .ok (.i2l, 1) := by decide +kernel
theorem dX6_addCost_7 : decode cX6_addCost 7 = .ok (.lconst 0, 1) := by decide +kernel
theorem dX6_addCost_8 : decode cX6_addCost 8 = .ok (.ldc2_w 119, 3) := by decide +kernel
theorem dX6_addCost_11 : decode cX6_addCost 11 = .ok (.invokestatic 89, 3) := by decide +kernel
theorem dX6_addCost_14 : decode cX6_addCost 14 = .ok (.ifCond .eq 29, 3) := by decide +kernel
theorem dX6_addCost_17 : decode cX6_addCost 17 = .ok (.iload_n 2, 1) := by decide +kernel
theorem dX6_addCost_18 : decode cX6_addCost 18 = .ok (.i2l, 1) := by decide +kernel
theorem dX6_addCost_19 : decode cX6_addCost 19 = .ok (.lconst 0, 1) := by decide +kernel
theorem dX6_addCost_20 : decode cX6_addCost 20 = .ok (.aload_n 0, 1) := by decide +kernel
theorem dX6_addCost_21 : decode cX6_addCost 21 = .ok (.getfield 121, 3) := by decide +kernel
theorem dX6_addCost_24 : decode cX6_addCost 24 = .ok (.i2l, 1) := by decide +kernel
theorem dX6_addCost_25 : decode cX6_addCost 25 = .ok (.invokestatic 89, 3) := by decide +kernel
theorem dX6_addCost_28 : decode cX6_addCost 28 = .ok (.ifCond .eq 15, 3) := by decide +kernel
theorem dX6_addCost_31 : decode cX6_addCost 31 = .ok (.iload_n 3, 1) := by decide +kernel
theorem dX6_addCost_32 : decode cX6_addCost 32 = .ok (.i2l, 1) := by decide +kernel
theorem dX6_addCost_33 : decode cX6_addCost 33 = .ok (.lconst 1, 1) := by decide +kernel
theorem dX6_addCost_34 : decode cX6_addCost 34 = .ok (.ldc2_w 103, 3) := by decide +kernel
theorem dX6_addCost_37 : decode cX6_addCost 37 = .ok (.invokestatic 89, 3) := by decide +kernel
theorem dX6_addCost_40 : decode cX6_addCost 40 = .ok (.ifCond .ne 9, 3) := by decide +kernel
theorem dX6_addCost_43 : decode cX6_addCost 43 = .ok (.aload_n 0, 1) := by decide +kernel
theorem dX6_addCost_44 : decode cX6_addCost 44 = .ok (.iconst 1, 1) := by decide +kernel
theorem dX6_addCost_45 : decode cX6_addCost 45 = .ok (.invokevirtual 111, 3) := by decide +kernel
theorem dX6_addCost_48 : decode cX6_addCost 48 = .ok (.ireturn, 1) := by decide +kernel
theorem dX6_addCost_49 : decode cX6_addCost 49 = .ok (.aload_n 0, 1) := by decide +kernel
theorem dX6_addCost_50 : decode cX6_addCost 50 = .ok (.getfield 96, 3) := by decide +kernel
theorem dX6_addCost_53 : decode cX6_addCost 53 = .ok (.bipush 16, 2) := by decide +kernel
theorem dX6_addCost_55 : decode cX6_addCost 55 = .ok (.if_icmp .ne 9, 3) := by decide +kernel
theorem dX6_addCost_58 : decode cX6_addCost 58 = .ok (.aload_n 0, 1) := by decide +kernel
theorem dX6_addCost_59 : decode cX6_addCost 59 = .ok (.iconst 2, 1) := by decide +kernel
theorem dX6_addCost_60 : decode cX6_addCost 60 = .ok (.invokevirtual 111, 3) := by decide +kernel
theorem dX6_addCost_63 : decode cX6_addCost 63 = .ok (.ireturn, 1) := by decide +kernel
theorem dX6_addCost_64 : decode cX6_addCost 64 = .ok (.aload_n 0, 1) := by decide +kernel
theorem dX6_addCost_65 : decode cX6_addCost 65 = .ok (.getfield 40, 3) := by decide +kernel
theorem dX6_addCost_68 : decode cX6_addCost 68 = .ok (.aload_n 0, 1) := by decide +kernel
theorem dX6_addCost_69 : decode cX6_addCost 69 = .ok (.getfield 96, 3) := by decide +kernel
theorem dX6_addCost_72 : decode cX6_addCost 72 = .ok (.iload_n 1, 1) := by decide +kernel
theorem dX6_addCost_73 : decode cX6_addCost 73 = .ok (.iastore, 1) := by decide +kernel
theorem dX6_addCost_74 : decode cX6_addCost 74 = .ok (.aload_n 0, 1) := by decide +kernel
theorem dX6_addCost_75 : decode cX6_addCost 75 = .ok (.getfield 43, 3) := by decide +kernel
theorem dX6_addCost_78 : decode cX6_addCost 78 = .ok (.aload_n 0, 1) := by decide +kernel
theorem dX6_addCost_79 : decode cX6_addCost 79 = .ok (.getfield 96, 3) := by decide +kernel
theorem dX6_addCost_82 : decode cX6_addCost 82 = .ok (.iload_n 2, 1) := by decide +kernel
theorem dX6_addCost_83 : decode cX6_addCost 83 = .ok (.iastore, 1) := by decide +kernel
theorem dX6_addCost_84 : decode cX6_addCost 84 = .ok (.aload_n 0, 1) := by decide +kernel
theorem dX6_addCost_85 : decode cX6_addCost 85 = .ok (.getfield 46, 3) := by decide +kernel
theorem dX6_addCost_88 : decode cX6_addCost 88 = .ok (.aload_n 0, 1) := by decide +kernel
theorem dX6_addCost_89 : decode cX6_addCost 89 = .ok (.getfield 96, 3) := by decide +kernel
theorem dX6_addCost_92 : decode cX6_addCost 92 = .ok (.iload_n 3, 1) := by decide +kernel
theorem dX6_addCost_93 : decode cX6_addCost 93 = .ok (.iastore, 1) := by decide +kernel
theorem dX6_addCost_94 : decode cX6_addCost 94 = .ok (.aload_n 0, 1) := by decide +kernel
theorem dX6_addCost_95 : decode cX6_addCost 95 = .ok (.dup, 1) := by decide +kernel
theorem dX6_addCost_96 : decode cX6_addCost 96 = .ok (.getfield 96, 3) := by decide +kernel
theorem dX6_addCost_99 : decode cX6_addCost 99 = .ok (.iconst 1, 1) := by decide +kernel
theorem dX6_addCost_100 : decode cX6_addCost 100 = .ok (.iadd, 1) := by decide +kernel
theorem dX6_addCost_101 : decode cX6_addCost 101 = .ok (.putfield 96, 3) := by decide +kernel
theorem dX6_addCost_104 : decode cX6_addCost 104 = .ok (.aload_n 0, 1) := by decide +kernel
theorem dX6_addCost_105 : decode cX6_addCost 105 = .ok (.getfield 96, 3) := by decide +kernel
theorem dX6_addCost_108 : decode cX6_addCost 108 = .ok (.iconst 1, 1) := by decide +kernel
theorem dX6_addCost_109 : decode cX6_addCost 109 = .ok (.isub, 1) := by decide +kernel
theorem dX6_addCost_110 : decode cX6_addCost 110 = .ok (.ireturn, 1) := by decide +kernel
theorem dX6_rank_0 : decode cX6_rank 0 = .ok (.iload_n 1, 1) := by decide +kernel
theorem dX6_rank_1 : decode cX6_rank 1 = .ok (.ifCond .lt 17, 3) := by decide +kernel
theorem dX6_rank_4 : decode cX6_rank 4 = .ok (.bipush 16, 2) := by decide +kernel
theorem dX6_rank_6 : decode cX6_rank 6 = .ok (.aload_n 0, 1) := by decide +kernel
theorem dX6_rank_7 : decode cX6_rank 7 = .ok (.getfield 37, 3) := by decide +kernel
theorem dX6_rank_10 : decode cX6_rank 10 = .ok (.iload_n 1, 1) := by decide +kernel
theorem dX6_rank_11 : decode cX6_rank 11 = .ok (.iaload, 1) := by decide +kernel
theorem dX6_rank_12 : decode cX6_rank 12 = .ok (.imul, 1) := by decide +kernel
theorem dX6_rank_13 : decode cX6_rank 13 = .ok (.iload_n 1, 1) := by decide +kernel
theorem dX6_rank_14 : decode cX6_rank 14 = .ok (.iadd, 1) := by decide +kernel
theorem dX6_rank_15 : decode cX6_rank 15 = .ok (.goto 17, 3) := by decide +kernel
theorem dX6_rank_18 : decode cX6_rank 18 = .ok (.bipush 16, 2) := by decide +kernel
theorem dX6_rank_20 : decode cX6_rank 20 = .ok (.aload_n 0, 1) := by decide +kernel
theorem dX6_rank_21 : decode cX6_rank 21 = .ok (.getfield 16, 3) := by decide +kernel
theorem dX6_rank_24 : decode cX6_rank 24 = .ok (.iload_n 2, 1) := by decide +kernel
theorem dX6_rank_25 : decode cX6_rank 25 = .ok (.iaload, 1) := by decide +kernel
theorem dX6_rank_26 : decode cX6_rank 26 = .ok (.imul, 1) := by decide +kernel
theorem dX6_rank_27 : decode cX6_rank 27 = .ok (.bipush 6, 2) := by decide +kernel
theorem dX6_rank_29 : decode cX6_rank 29 = .ok (.iadd, 1) := by decide +kernel
theorem dX6_rank_30 : decode cX6_rank 30 = .ok (.iload_n 2, 1) := by decide +kernel
theorem dX6_rank_31 : decode cX6_rank 31 = .ok (.iadd, 1) := by decide +kernel
theorem dX6_rank_32 : decode cX6_rank 32 = .ok (.ireturn, 1) := by decide +kernel
theorem dX6_addPot_0 : decode cX6_addPot 0 = .ok (.aload_n 0, 1) := by decide +kernel
theorem dX6_addPot_1 : decode cX6_addPot 1 = .ok (.getfield 131, 3) := by decide +kernel
theorem dX6_addPot_4 : decode cX6_addPot 4 = .ok (.istore_n 3, 1) := by decide +kernel
theorem dX6_addPot_5 : decode cX6_addPot 5 = .ok (.iload_n 3, 1) := by decide +kernel
theorem dX6_addPot_6 : decode cX6_addPot 6 = .ok (.ifCond .le 66, 3) := by decide +kernel
theorem dX6_addPot_9 : decode cX6_addPot 9 = .ok (.aload_n 0, 1) := by decide +kernel
theorem dX6_addPot_10 : decode cX6_addPot 10 = .ok (.aload_n 0, 1) := by decide +kernel
theorem dX6_addPot_11 : decode cX6_addPot 11 = .ok (.getfield 55, 3) := by decide +kernel
theorem dX6_addPot_14 : decode cX6_addPot 14 = .ok (.iload_n 3, 1) := by decide +kernel
theorem dX6_addPot_15 : decode cX6_addPot 15 = .ok (.iconst 1, 1) := by decide +kernel
theorem dX6_addPot_16 : decode cX6_addPot 16 = .ok (.isub, 1) := by decide +kernel
theorem dX6_addPot_17 : decode cX6_addPot 17 = .ok (.iaload, 1) := by decide +kernel
theorem dX6_addPot_18 : decode cX6_addPot 18 = .ok (.aload_n 0, 1) := by decide +kernel
theorem dX6_addPot_19 : decode cX6_addPot 19 = .ok (.getfield 52, 3) := by decide +kernel
theorem dX6_addPot_22 : decode cX6_addPot 22 = .ok (.iload_n 3, 1) := by decide +kernel
theorem dX6_addPot_23 : decode cX6_addPot 23 = .ok (.iconst 1, 1) := by decide +kernel
theorem dX6_addPot_24 : decode cX6_addPot 24 = .ok (.isub, 1) := by decide +kernel
theorem dX6_addPot_25 : decode cX6_addPot 25 = .ok (.iaload, 1) := by decide +kernel
theorem dX6_addPot_26 : decode cX6_addPot 26 = .ok (.invokevirtual 134, 3) := by decide +kernel
theorem dX6_addPot_29 : decode cX6_addPot 29 = .ok (.aload_n 0, 1) := by decide +kernel
theorem dX6_addPot_30 : decode cX6_addPot 30 = .ok (.iload_n 1, 1) := by decide +kernel
theorem dX6_addPot_31 : decode cX6_addPot 31 = .ok (.iload_n 2, 1) := by decide +kernel
theorem dX6_addPot_32 : decode cX6_addPot 32 = .ok (.invokevirtual 134, 3) := by decide +kernel
theorem dX6_addPot_35 : decode cX6_addPot 35 = .ok (.if_icmp .le 37, 3) := by decide +kernel
theorem dX6_addPot_38 : decode cX6_addPot 38 = .ok (.aload_n 0, 1) := by decide +kernel
theorem dX6_addPot_39 : decode cX6_addPot 39 = .ok (.getfield 55, 3) := by decide +kernel
theorem dX6_addPot_42 : decode cX6_addPot 42 = .ok (.iload_n 3, 1) := by decide +kernel
theorem dX6_addPot_43 : decode cX6_addPot 43 = .ok (.aload_n 0, 1) := by decide +kernel
theorem dX6_addPot_44 : decode cX6_addPot 44 = .ok (.getfield 55, 3) := by decide +kernel
theorem dX6_addPot_47 : decode cX6_addPot 47 = .ok (.iload_n 3, 1) := by decide +kernel
theorem dX6_addPot_48 : decode cX6_addPot 48 = .ok (.iconst 1, 1) := by decide +kernel
theorem dX6_addPot_49 : decode cX6_addPot 49 = .ok (.isub, 1) := by decide +kernel
theorem dX6_addPot_50 : decode cX6_addPot 50 = .ok (.iaload, 1) := by decide +kernel
theorem dX6_addPot_51 : decode cX6_addPot 51 = .ok (.iastore, 1) := by decide +kernel
theorem dX6_addPot_52 : decode cX6_addPot 52 = .ok (.aload_n 0, 1) := by decide +kernel
theorem dX6_addPot_53 : decode cX6_addPot 53 = .ok (.getfield 52, 3) := by decide +kernel
theorem dX6_addPot_56 : decode cX6_addPot 56 = .ok (.iload_n 3, 1) := by decide +kernel
theorem dX6_addPot_57 : decode cX6_addPot 57 = .ok (.aload_n 0, 1) := by decide +kernel
theorem dX6_addPot_58 : decode cX6_addPot 58 = .ok (.getfield 52, 3) := by decide +kernel
theorem dX6_addPot_61 : decode cX6_addPot 61 = .ok (.iload_n 3, 1) := by decide +kernel
theorem dX6_addPot_62 : decode cX6_addPot 62 = .ok (.iconst 1, 1) := by decide +kernel
theorem dX6_addPot_63 : decode cX6_addPot 63 = .ok (.isub, 1) := by decide +kernel
theorem dX6_addPot_64 : decode cX6_addPot 64 = .ok (.iaload, 1) := by decide +kernel
theorem dX6_addPot_65 : decode cX6_addPot 65 = .ok (.iastore, 1) := by decide +kernel
theorem dX6_addPot_66 : decode cX6_addPot 66 = .ok (.iinc 3 (-1), 3) := by decide +kernel
theorem dX6_addPot_69 : decode cX6_addPot 69 = .ok (.goto (-64), 3) := by decide +kernel
theorem dX6_addPot_72 : decode cX6_addPot 72 = .ok (.aload_n 0, 1) := by decide +kernel
theorem dX6_addPot_73 : decode cX6_addPot 73 = .ok (.getfield 55, 3) := by decide +kernel
theorem dX6_addPot_76 : decode cX6_addPot 76 = .ok (.iload_n 3, 1) := by decide +kernel
theorem dX6_addPot_77 : decode cX6_addPot 77 = .ok (.iload_n 1, 1) := by decide +kernel
theorem dX6_addPot_78 : decode cX6_addPot 78 = .ok (.iastore, 1) := by decide +kernel
theorem dX6_addPot_79 : decode cX6_addPot 79 = .ok (.aload_n 0, 1) := by decide +kernel
theorem dX6_addPot_80 : decode cX6_addPot 80 = .ok (.getfield 52, 3) := by decide +kernel
theorem dX6_addPot_83 : decode cX6_addPot 83 = .ok (.iload_n 3, 1) := by decide +kernel
theorem dX6_addPot_84 : decode cX6_addPot 84 = .ok (.iload_n 2, 1) := by decide +kernel
theorem dX6_addPot_85 : decode cX6_addPot 85 = .ok (.iastore, 1) := by decide +kernel
theorem dX6_addPot_86 : decode cX6_addPot 86 = .ok (.aload_n 0, 1) := by decide +kernel
theorem dX6_addPot_87 : decode cX6_addPot 87 = .ok (.dup, 1) := by decide +kernel
theorem dX6_addPot_88 : decode cX6_addPot 88 = .ok (.getfield 131, 3) := by decide +kernel
theorem dX6_addPot_91 : decode cX6_addPot 91 = .ok (.iconst 1, 1) := by decide +kernel
theorem dX6_addPot_92 : decode cX6_addPot 92 = .ok (.iadd, 1) := by decide +kernel
theorem dX6_addPot_93 : decode cX6_addPot 93 = .ok (.putfield 131, 3) := by decide +kernel
theorem dX6_addPot_96 : decode cX6_addPot 96 = .ok (.return_, 1) := by decide +kernel
theorem dX6_laysPots_0 : decode cX6_laysPots 0 = .ok (.aload_n 0, 1) := by decide +kernel
theorem dX6_laysPots_1 : decode cX6_laysPots 1 = .ok (.iconst 0, 1) := by decide +kernel
theorem dX6_laysPots_2 : decode cX6_laysPots 2 = .ok (.putfield 131, 3) := by decide +kernel
theorem dX6_laysPots_5 : decode cX6_laysPots 5 = .ok (.iconst 0, 1) := by decide +kernel
theorem dX6_laysPots_6 : decode cX6_laysPots 6 = .ok (.istore_n 1, 1) := by decide +kernel
theorem dX6_laysPots_7 : decode cX6_laysPots 7 = .ok (.iload_n 1, 1) := by decide +kernel
theorem dX6_laysPots_8 : decode cX6_laysPots 8 = .ok (.aload_n 0, 1) := by decide +kernel
theorem dX6_laysPots_9 : decode cX6_laysPots 9 = .ok (.getfield 93, 3) := by decide +kernel
theorem dX6_laysPots_12 : decode cX6_laysPots 12 = .ok (.if_icmp .ge 20, 3) := by decide +kernel
theorem dX6_laysPots_15 : decode cX6_laysPots 15 = .ok (.aload_n 0, 1) := by decide +kernel
theorem dX6_laysPots_16 : decode cX6_laysPots 16 = .ok (.iload_n 1, 1) := by decide +kernel
theorem dX6_laysPots_17 : decode cX6_laysPots 17 = .ok (.aload_n 0, 1) := by decide +kernel
theorem dX6_laysPots_18 : decode cX6_laysPots 18 = .ok (.getfield 28, 3) := by decide +kernel
theorem dX6_laysPots_21 : decode cX6_laysPots 21 = .ok (.iload_n 1, 1) := by decide +kernel
theorem dX6_laysPots_22 : decode cX6_laysPots 22 = .ok (.iaload, 1) := by decide +kernel
theorem dX6_laysPots_23 : decode cX6_laysPots 23 = .ok (.invokevirtual 138, 3) := by decide +kernel
theorem dX6_laysPots_26 : decode cX6_laysPots 26 = .ok (.iinc 1 1, 3) := by decide +kernel
theorem dX6_laysPots_29 : decode cX6_laysPots 29 = .ok (.goto (-22), 3) := by decide +kernel
theorem dX6_laysPots_32 : decode cX6_laysPots 32 = .ok (.iconst 0, 1) := by decide +kernel
theorem dX6_laysPots_33 : decode cX6_laysPots 33 = .ok (.istore_n 1, 1) := by decide +kernel
theorem dX6_laysPots_34 : decode cX6_laysPots 34 = .ok (.iload_n 1, 1) := by decide +kernel
theorem dX6_laysPots_35 : decode cX6_laysPots 35 = .ok (.aload_n 0, 1) := by decide +kernel
theorem dX6_laysPots_36 : decode cX6_laysPots 36 = .ok (.getfield 86, 3) := by decide +kernel
theorem dX6_laysPots_39 : decode cX6_laysPots 39 = .ok (.if_icmp .ge 15, 3) := by decide +kernel
theorem dX6_laysPots_42 : decode cX6_laysPots 42 = .ok (.aload_n 0, 1) := by decide +kernel
theorem dX6_laysPots_43 : decode cX6_laysPots 43 = .ok (.iconst (-1), 1) := by decide +kernel
theorem dX6_laysPots_44 : decode cX6_laysPots 44 = .ok (.iload_n 1, 1) := by decide +kernel
theorem dX6_laysPots_45 : decode cX6_laysPots 45 = .ok (.invokevirtual 138, 3) := by decide +kernel
theorem dX6_laysPots_48 : decode cX6_laysPots 48 = .ok (.iinc 1 1, 3) := by decide +kernel
theorem dX6_laysPots_51 : decode cX6_laysPots 51 = .ok (.goto (-17), 3) := by decide +kernel
theorem dX6_laysPots_54 : decode cX6_laysPots 54 = .ok (.iconst 0, 1) := by decide +kernel
theorem dX6_laysPots_55 : decode cX6_laysPots 55 = .ok (.istore_n 1, 1) := by decide +kernel
theorem dX6_laysPots_56 : decode cX6_laysPots 56 = .ok (.iload_n 1, 1) := by decide +kernel
theorem dX6_laysPots_57 : decode cX6_laysPots 57 = .ok (.aload_n 0, 1) := by decide +kernel
theorem dX6_laysPots_58 : decode cX6_laysPots 58 = .ok (.getfield 131, 3) := by decide +kernel
theorem dX6_laysPots_61 : decode cX6_laysPots 61 = .ok (.if_icmp .ge 114, 3) := by decide +kernel
theorem dX6_laysPots_64 : decode cX6_laysPots 64 = .ok (.aload_n 0, 1) := by decide +kernel
theorem dX6_laysPots_65 : decode cX6_laysPots 65 = .ok (.getfield 55, 3) := by decide +kernel
theorem dX6_laysPots_68 : decode cX6_laysPots 68 = .ok (.iload_n 1, 1) := by decide +kernel
theorem dX6_laysPots_69 : decode cX6_laysPots 69 = .ok (.iaload, 1) := by decide +kernel
theorem dX6_laysPots_70 : decode cX6_laysPots 70 = .ok (.istore_n 2, 1) := by decide +kernel
theorem dX6_laysPots_71 : decode cX6_laysPots 71 = .ok (.aload_n 0, 1) := by decide +kernel
theorem dX6_laysPots_72 : decode cX6_laysPots 72 = .ok (.getfield 58, 3) := by decide +kernel
theorem dX6_laysPots_75 : decode cX6_laysPots 75 = .ok (.iload_n 1, 1) := by decide +kernel
theorem dX6_laysPots_76 : decode cX6_laysPots 76 = .ok (.iload_n 2, 1) := by decide +kernel
theorem dX6_laysPots_77 : decode cX6_laysPots 77 = .ok (.ifCond .lt 12, 3) := by decide +kernel
theorem dX6_laysPots_80 : decode cX6_laysPots 80 = .ok (.aload_n 0, 1) := by decide +kernel
theorem dX6_laysPots_81 : decode cX6_laysPots 81 = .ok (.getfield 34, 3) := by decide +kernel
theorem dX6_laysPots_84 : decode cX6_laysPots 84 = .ok (.iload_n 2, 1) := by decide +kernel
theorem dX6_laysPots_85 : decode cX6_laysPots 85 = .ok (.iaload, 1) := by decide +kernel
theorem dX6_laysPots_86 : decode cX6_laysPots 86 = .ok (.goto 14, 3) := by decide +kernel
theorem dX6_laysPots_89 : decode cX6_laysPots 89 = .ok (.aload_n 0, 1) := by decide +kernel
theorem dX6_laysPots_90 : decode cX6_laysPots 90 = .ok (.getfield 7, 3) := by decide +kernel
theorem dX6_laysPots_93 : decode cX6_laysPots 93 = .ok (.aload_n 0, 1) := by decide +kernel
theorem dX6_laysPots_94 : decode cX6_laysPots 94 = .ok (.getfield 52, 3) := by decide +kernel
theorem dX6_laysPots_97 : decode cX6_laysPots 97 = .ok (.iload_n 1, 1) := by decide +kernel
theorem dX6_laysPots_98 : decode cX6_laysPots 98 = .ok (.iaload, 1) := by decide +kernel
theorem dX6_laysPots_99 : decode cX6_laysPots 99 = .ok (.iaload, 1) := by decide +kernel
theorem dX6_laysPots_100 : decode cX6_laysPots 100 = .ok (.iastore, 1) := by decide +kernel
theorem dX6_laysPots_101 : decode cX6_laysPots 101 = .ok (.aload_n 0, 1) := by decide +kernel
theorem dX6_laysPots_102 : decode cX6_laysPots 102 = .ok (.getfield 61, 3) := by decide +kernel
theorem dX6_laysPots_105 : decode cX6_laysPots 105 = .ok (.iload_n 1, 1) := by decide +kernel
theorem dX6_laysPots_106 : decode cX6_laysPots 106 = .ok (.iconst 0, 1) := by decide +kernel
theorem dX6_laysPots_107 : decode cX6_laysPots 107 = .ok (.iastore, 1) := by decide +kernel
theorem dX6_laysPots_108 : decode cX6_laysPots 108 = .ok (.iconst 0, 1) := by decide +kernel
theorem dX6_laysPots_109 : decode cX6_laysPots 109 = .ok (.istore_n 3, 1) := by decide +kernel
theorem dX6_laysPots_110 : decode cX6_laysPots 110 = .ok (.iload_n 3, 1) := by decide +kernel
theorem dX6_laysPots_111 : decode cX6_laysPots 111 = .ok (.aload_n 0, 1) := by decide +kernel
theorem dX6_laysPots_112 : decode cX6_laysPots 112 = .ok (.getfield 96, 3) := by decide +kernel
theorem dX6_laysPots_115 : decode cX6_laysPots 115 = .ok (.if_icmp .ge 54, 3) := by decide +kernel
theorem dX6_laysPots_118 : decode cX6_laysPots 118 = .ok (.aload_n 0, 1) := by decide +kernel
theorem dX6_laysPots_119 : decode cX6_laysPots 119 = .ok (.aload_n 0, 1) := by decide +kernel
theorem dX6_laysPots_120 : decode cX6_laysPots 120 = .ok (.getfield 52, 3) := by decide +kernel
theorem dX6_laysPots_123 : decode cX6_laysPots 123 = .ok (.iload_n 1, 1) := by decide +kernel
theorem dX6_laysPots_124 : decode cX6_laysPots 124 = .ok (.iaload, 1) := by decide +kernel
theorem dX6_laysPots_125 : decode cX6_laysPots 125 = .ok (.iload_n 3, 1) := by decide +kernel
theorem dX6_laysPots_126 : decode cX6_laysPots 126 = .ok (.invokevirtual 142, 3) := by decide +kernel
theorem dX6_laysPots_129 : decode cX6_laysPots 129 = .ok (.ifCond .eq 34, 3) := by decide +kernel
theorem dX6_laysPots_132 : decode cX6_laysPots 132 = .ok (.iload_n 2, 1) := by decide +kernel
theorem dX6_laysPots_133 : decode cX6_laysPots 133 = .ok (.ifCond .lt 18, 3) := by decide +kernel
theorem dX6_laysPots_136 : decode cX6_laysPots 136 = .ok (.aload_n 0, 1) := by decide +kernel
theorem dX6_laysPots_137 : decode cX6_laysPots 137 = .ok (.getfield 31, 3) := by decide +kernel
theorem dX6_laysPots_140 : decode cX6_laysPots 140 = .ok (.iload_n 2, 1) := by decide +kernel
theorem dX6_laysPots_141 : decode cX6_laysPots 141 = .ok (.iaload, 1) := by decide +kernel
theorem dX6_laysPots_142 : decode cX6_laysPots 142 = .ok (.aload_n 0, 1) := by decide +kernel
theorem dX6_laysPots_143 : decode cX6_laysPots 143 = .ok (.getfield 40, 3) := by decide +kernel
theorem dX6_laysPots_146 : decode cX6_laysPots 146 = .ok (.iload_n 3, 1) := by decide +kernel
theorem dX6_laysPots_147 : decode cX6_laysPots 147 = .ok (.iaload, 1) := by decide +kernel
theorem dX6_laysPots_148 : decode cX6_laysPots 148 = .ok (.if_icmp .ne 15, 3) := by decide +kernel
theorem dX6_laysPots_151 : decode cX6_laysPots 151 = .ok (.aload_n 0, 1) := by decide +kernel
theorem dX6_laysPots_152 : decode cX6_laysPots 152 = .ok (.getfield 61, 3) := by decide +kernel
theorem dX6_laysPots_155 : decode cX6_laysPots 155 = .ok (.iload_n 1, 1) := by decide +kernel
theorem dX6_laysPots_156 : decode cX6_laysPots 156 = .ok (.dup2, 1) := by decide +kernel
theorem dX6_laysPots_157 : decode cX6_laysPots 157 = .ok (.iaload, 1) := by decide +kernel
theorem dX6_laysPots_158 : decode cX6_laysPots 158 = .ok (.iconst 1, 1) := by decide +kernel
theorem dX6_laysPots_159 : decode cX6_laysPots 159 = .ok (.iload_n 3, 1) := by decide +kernel
theorem dX6_laysPots_160 : decode cX6_laysPots 160 = .ok (.ishl, 1) := by decide +kernel
theorem dX6_laysPots_161 : decode cX6_laysPots 161 = .ok (.ior, 1) := by decide +kernel
theorem dX6_laysPots_162 : decode cX6_laysPots 162 = .ok (.iastore, 1) := by decide +kernel
theorem dX6_laysPots_163 : decode cX6_laysPots 163 = .ok (.iinc 3 1, 3) := by decide +kernel
theorem dX6_laysPots_166 : decode cX6_laysPots 166 = .ok (.goto (-56), 3) := by decide +kernel
theorem dX6_laysPots_169 : decode cX6_laysPots 169 = .ok (.iinc 1 1, 3) := by decide +kernel
theorem dX6_laysPots_172 : decode cX6_laysPots 172 = .ok (.goto (-116), 3) := by decide +kernel
theorem dX6_laysPots_175 : decode cX6_laysPots 175 = .ok (.return_, 1) := by decide +kernel
theorem dX6_laysSets_0 : decode cX6_laysSets 0 = .ok (.aload_n 0, 1) := by decide +kernel
theorem dX6_laysSets_1 : decode cX6_laysSets 1 = .ok (.getfield 73, 3) := by decide +kernel
theorem dX6_laysSets_4 : decode cX6_laysSets 4 = .ok (.iconst 0, 1) := by decide +kernel
theorem dX6_laysSets_5 : decode cX6_laysSets 5 = .ok (.iconst 0, 1) := by decide +kernel
theorem dX6_laysSets_6 : decode cX6_laysSets 6 = .ok (.iastore, 1) := by decide +kernel
theorem dX6_laysSets_7 : decode cX6_laysSets 7 = .ok (.aload_n 0, 1) := by decide +kernel
theorem dX6_laysSets_8 : decode cX6_laysSets 8 = .ok (.getfield 76, 3) := by decide +kernel
theorem dX6_laysSets_11 : decode cX6_laysSets 11 = .ok (.iconst 0, 1) := by decide +kernel
theorem dX6_laysSets_12 : decode cX6_laysSets 12 = .ok (.iconst 0, 1) := by decide +kernel
theorem dX6_laysSets_13 : decode cX6_laysSets 13 = .ok (.iastore, 1) := by decide +kernel
theorem dX6_laysSets_14 : decode cX6_laysSets 14 = .ok (.iconst 0, 1) := by decide +kernel
theorem dX6_laysSets_15 : decode cX6_laysSets 15 = .ok (.istore_n 2, 1) := by decide +kernel
theorem dX6_laysSets_16 : decode cX6_laysSets 16 = .ok (.iload_n 2, 1) := by decide +kernel
theorem dX6_laysSets_17 : decode cX6_laysSets 17 = .ok (.aload_n 0, 1) := by decide +kernel
theorem dX6_laysSets_18 : decode cX6_laysSets 18 = .ok (.getfield 131, 3) := by decide +kernel
theorem dX6_laysSets_21 : decode cX6_laysSets 21 = .ok (.if_icmp .ge 67, 3) := by decide +kernel
theorem dX6_laysSets_24 : decode cX6_laysSets 24 = .ok (.iconst 0, 1) := by decide +kernel
theorem dX6_laysSets_25 : decode cX6_laysSets 25 = .ok (.istore_n 3, 1) := by decide +kernel
theorem dX6_laysSets_26 : decode cX6_laysSets 26 = .ok (.iload_n 3, 1) := by decide +kernel
theorem dX6_laysSets_27 : decode cX6_laysSets 27 = .ok (.iconst 1, 1) := by decide +kernel
theorem dX6_laysSets_28 : decode cX6_laysSets 28 = .ok (.iload_n 2, 1) := by decide +kernel
theorem dX6_laysSets_29 : decode cX6_laysSets 29 = .ok (.ishl, 1) := by decide +kernel
theorem dX6_laysSets_30 : decode cX6_laysSets 30 = .ok (.if_icmp .ge 52, 3) := by decide +kernel
theorem dX6_laysSets_33 : decode cX6_laysSets 33 = .ok (.aload_n 0, 1) := by decide +kernel
theorem dX6_laysSets_34 : decode cX6_laysSets 34 = .ok (.getfield 73, 3) := by decide +kernel
theorem dX6_laysSets_37 : decode cX6_laysSets 37 = .ok (.iconst 1, 1) := by decide +kernel
theorem dX6_laysSets_38 : decode cX6_laysSets 38 = .ok (.iload_n 2, 1) := by decide +kernel
theorem dX6_laysSets_39 : decode cX6_laysSets 39 = .ok (.ishl, 1) := by decide +kernel
theorem dX6_laysSets_40 : decode cX6_laysSets 40 = .ok (.iload_n 3, 1) := by decide +kernel
theorem dX6_laysSets_41 : decode cX6_laysSets 41 = .ok (.iadd, 1) := by decide +kernel
theorem dX6_laysSets_42 : decode cX6_laysSets 42 = .ok (.aload_n 0, 1) := by decide +kernel
theorem dX6_laysSets_43 : decode cX6_laysSets 43 = .ok (.getfield 73, 3) := by decide +kernel
theorem dX6_laysSets_46 : decode cX6_laysSets 46 = .ok (.iload_n 3, 1) := by decide +kernel
theorem dX6_laysSets_47 : decode cX6_laysSets 47 = .ok (.iaload, 1) := by decide +kernel
theorem dX6_laysSets_48 : decode cX6_laysSets 48 = .ok (.aload_n 1, 1) := by decide +kernel
theorem dX6_laysSets_49 : decode cX6_laysSets 49 = .ok (.iload_n 2, 1) := by decide +kernel
theorem dX6_laysSets_50 : decode cX6_laysSets 50 = .ok (.iaload, 1) := by decide +kernel
theorem dX6_laysSets_51 : decode cX6_laysSets 51 = .ok (.iadd, 1) := by decide +kernel
theorem dX6_laysSets_52 : decode cX6_laysSets 52 = .ok (.iastore, 1) := by decide +kernel
theorem dX6_laysSets_53 : decode cX6_laysSets 53 = .ok (.aload_n 0, 1) := by decide +kernel
theorem dX6_laysSets_54 : decode cX6_laysSets 54 = .ok (.getfield 76, 3) := by decide +kernel
theorem dX6_laysSets_57 : decode cX6_laysSets 57 = .ok (.iconst 1, 1) := by decide +kernel
theorem dX6_laysSets_58 : decode cX6_laysSets 58 = .ok (.iload_n 2, 1) := by decide +kernel
theorem dX6_laysSets_59 : decode cX6_laysSets 59 = .ok (.ishl, 1) := by decide +kernel
theorem dX6_laysSets_60 : decode cX6_laysSets 60 = .ok (.iload_n 3, 1) := by decide +kernel
theorem dX6_laysSets_61 : decode cX6_laysSets 61 = .ok (.iadd, 1) := by decide +kernel
theorem dX6_laysSets_62 : decode cX6_laysSets 62 = .ok (.aload_n 0, 1) := by decide +kernel
theorem dX6_laysSets_63 : decode cX6_laysSets 63 = .ok (.getfield 76, 3) := by decide +kernel
theorem dX6_laysSets_66 : decode cX6_laysSets 66 = .ok (.iload_n 3, 1) := by decide +kernel
theorem dX6_laysSets_67 : decode cX6_laysSets 67 = .ok (.iaload, 1) := by decide +kernel
theorem dX6_laysSets_68 : decode cX6_laysSets 68 = .ok (.aload_n 0, 1) := by decide +kernel
theorem dX6_laysSets_69 : decode cX6_laysSets 69 = .ok (.getfield 61, 3) := by decide +kernel
theorem dX6_laysSets_72 : decode cX6_laysSets 72 = .ok (.iload_n 2, 1) := by decide +kernel
theorem dX6_laysSets_73 : decode cX6_laysSets 73 = .ok (.iaload, 1) := by decide +kernel
theorem dX6_laysSets_74 : decode cX6_laysSets 74 = .ok (.ior, 1) := by decide +kernel
theorem dX6_laysSets_75 : decode cX6_laysSets 75 = .ok (.iastore, 1) := by decide +kernel
theorem dX6_laysSets_76 : decode cX6_laysSets 76 = .ok (.iinc 3 1, 3) := by decide +kernel
theorem dX6_laysSets_79 : decode cX6_laysSets 79 = .ok (.goto (-53), 3) := by decide +kernel
theorem dX6_laysSets_82 : decode cX6_laysSets 82 = .ok (.iinc 2 1, 3) := by decide +kernel
theorem dX6_laysSets_85 : decode cX6_laysSets 85 = .ok (.goto (-69), 3) := by decide +kernel
theorem dX6_laysSets_88 : decode cX6_laysSets 88 = .ok (.return_, 1) := by decide +kernel
theorem dX6_sum_0 : decode cX6_sum 0 = .ok (.iconst 0, 1) := by decide +kernel
theorem dX6_sum_1 : decode cX6_sum 1 = .ok (.istore_n 2, 1) := by decide +kernel
theorem dX6_sum_2 : decode cX6_sum 2 = .ok (.iconst 0, 1) := by decide +kernel
theorem dX6_sum_3 : decode cX6_sum 3 = .ok (.istore_n 3, 1) := by decide +kernel
theorem dX6_sum_4 : decode cX6_sum 4 = .ok (.iload_n 3, 1) := by decide +kernel
theorem dX6_sum_5 : decode cX6_sum 5 = .ok (.bipush 16, 2) := by decide +kernel
theorem dX6_sum_7 : decode cX6_sum 7 = .ok (.if_icmp .ge 28, 3) := by decide +kernel
theorem dX6_sum_10 : decode cX6_sum 10 = .ok (.iload_n 2, 1) := by decide +kernel
theorem dX6_sum_11 : decode cX6_sum 11 = .ok (.iload_n 0, 1) := by decide +kernel
theorem dX6_sum_12 : decode cX6_sum 12 = .ok (.iload_n 3, 1) := by decide +kernel
theorem dX6_sum_13 : decode cX6_sum 13 = .ok (.ishr, 1) := by decide +kernel
theorem dX6_sum_14 : decode cX6_sum 14 = .ok (.iconst 1, 1) := by decide +kernel
theorem dX6_sum_15 : decode cX6_sum 15 = .ok (.iand, 1) := by decide +kernel
theorem dX6_sum_16 : decode cX6_sum 16 = .ok (.iconst 1, 1) := by decide +kernel
theorem dX6_sum_17 : decode cX6_sum 17 = .ok (.if_icmp .ne 9, 3) := by decide +kernel
theorem dX6_sum_20 : decode cX6_sum 20 = .ok (.aload_n 1, 1) := by decide +kernel
theorem dX6_sum_21 : decode cX6_sum 21 = .ok (.iload_n 3, 1) := by decide +kernel
theorem dX6_sum_22 : decode cX6_sum 22 = .ok (.iaload, 1) := by decide +kernel
theorem dX6_sum_23 : decode cX6_sum 23 = .ok (.goto 4, 3) := by decide +kernel
theorem dX6_sum_26 : decode cX6_sum 26 = .ok (.iconst 0, 1) := by decide +kernel
theorem dX6_sum_27 : decode cX6_sum 27 = .ok (.iadd, 1) := by decide +kernel
theorem dX6_sum_28 : decode cX6_sum 28 = .ok (.istore_n 2, 1) := by decide +kernel
theorem dX6_sum_29 : decode cX6_sum 29 = .ok (.iinc 3 1, 3) := by decide +kernel
theorem dX6_sum_32 : decode cX6_sum 32 = .ok (.goto (-28), 3) := by decide +kernel
theorem dX6_sum_35 : decode cX6_sum 35 = .ok (.iload_n 2, 1) := by decide +kernel
theorem dX6_sum_36 : decode cX6_sum 36 = .ok (.ireturn, 1) := by decide +kernel
theorem dX6_most_0 : decode cX6_most 0 = .ok (.iconst 1, 1) := by decide +kernel
theorem dX6_most_1 : decode cX6_most 1 = .ok (.iload_n 1, 1) := by decide +kernel
theorem dX6_most_2 : decode cX6_most 2 = .ok (.ishl, 1) := by decide +kernel
theorem dX6_most_3 : decode cX6_most 3 = .ok (.iconst 1, 1) := by decide +kernel
theorem dX6_most_4 : decode cX6_most 4 = .ok (.isub, 1) := by decide +kernel
theorem dX6_most_5 : decode cX6_most 5 = .ok (.istore 4, 2) := by decide +kernel
theorem dX6_most_7 : decode cX6_most 7 = .ok (.ldc 145, 2) := by decide +kernel
theorem dX6_most_9 : decode cX6_most 9 = .ok (.istore 5, 2) := by decide +kernel
theorem dX6_most_11 : decode cX6_most 11 = .ok (.iconst 0, 1) := by decide +kernel
theorem dX6_most_12 : decode cX6_most 12 = .ok (.istore 6, 2) := by decide +kernel
theorem dX6_most_14 : decode cX6_most 14 = .ok (.iload 6, 2) := by decide +kernel
theorem dX6_most_16 : decode cX6_most 16 = .ok (.iload 4, 2) := by decide +kernel
theorem dX6_most_18 : decode cX6_most 18 = .ok (.if_icmp .gt 55, 3) := by decide +kernel
theorem dX6_most_21 : decode cX6_most 21 = .ok (.aload_n 0, 1) := by decide +kernel
theorem dX6_most_22 : decode cX6_most 22 = .ok (.getfield 73, 3) := by decide +kernel
theorem dX6_most_25 : decode cX6_most 25 = .ok (.iload 6, 2) := by decide +kernel
theorem dX6_most_27 : decode cX6_most 27 = .ok (.iaload, 1) := by decide +kernel
theorem dX6_most_28 : decode cX6_most 28 = .ok (.aload_n 0, 1) := by decide +kernel
theorem dX6_most_29 : decode cX6_most 29 = .ok (.getfield 76, 3) := by decide +kernel
theorem dX6_most_32 : decode cX6_most 32 = .ok (.iload 4, 2) := by decide +kernel
theorem dX6_most_34 : decode cX6_most 34 = .ok (.iload 6, 2) := by decide +kernel
theorem dX6_most_36 : decode cX6_most 36 = .ok (.isub, 1) := by decide +kernel
theorem dX6_most_37 : decode cX6_most 37 = .ok (.iaload, 1) := by decide +kernel
theorem dX6_most_38 : decode cX6_most 38 = .ok (.iconst 1, 1) := by decide +kernel
theorem dX6_most_39 : decode cX6_most 39 = .ok (.iload_n 2, 1) := by decide +kernel
theorem dX6_most_40 : decode cX6_most 40 = .ok (.ishl, 1) := by decide +kernel
theorem dX6_most_41 : decode cX6_most 41 = .ok (.iconst 1, 1) := by decide +kernel
theorem dX6_most_42 : decode cX6_most 42 = .ok (.isub, 1) := by decide +kernel
theorem dX6_most_43 : decode cX6_most 43 = .ok (.iand, 1) := by decide +kernel
theorem dX6_most_44 : decode cX6_most 44 = .ok (.aload_n 3, 1) := by decide +kernel
theorem dX6_most_45 : decode cX6_most 45 = .ok (.invokestatic 146, 3) := by decide +kernel
theorem dX6_most_48 : decode cX6_most 48 = .ok (.iadd, 1) := by decide +kernel
theorem dX6_most_49 : decode cX6_most 49 = .ok (.istore 7, 2) := by decide +kernel
theorem dX6_most_51 : decode cX6_most 51 = .ok (.iload 7, 2) := by decide +kernel
theorem dX6_most_53 : decode cX6_most 53 = .ok (.iload 5, 2) := by decide +kernel
theorem dX6_most_55 : decode cX6_most 55 = .ok (.if_icmp .ge 8, 3) := by decide +kernel
theorem dX6_most_58 : decode cX6_most 58 = .ok (.iload 7, 2) := by decide +kernel
theorem dX6_most_60 : decode cX6_most 60 = .ok (.goto 5, 3) := by decide +kernel
theorem dX6_most_63 : decode cX6_most 63 = .ok (.iload 5, 2) := by decide +kernel
theorem dX6_most_65 : decode cX6_most 65 = .ok (.istore 5, 2) := by decide +kernel
theorem dX6_most_67 : decode cX6_most 67 = .ok (.iinc 6 1, 3) := by decide +kernel
theorem dX6_most_70 : decode cX6_most 70 = .ok (.goto (-56), 3) := by decide +kernel
theorem dX6_most_73 : decode cX6_most 73 = .ok (.iload 5, 2) := by decide +kernel
theorem dX6_most_75 : decode cX6_most 75 = .ok (.ireturn, 1) := by decide +kernel
theorem dX6_plans_0 : decode cX6_plans 0 = .ok (.aload_n 0, 1) := by decide +kernel
theorem dX6_plans_1 : decode cX6_plans 1 = .ok (.invokevirtual 150, 3) := by decide +kernel
theorem dX6_plans_4 : decode cX6_plans 4 = .ok (.aload_n 0, 1) := by decide +kernel
theorem dX6_plans_5 : decode cX6_plans 5 = .ok (.aload_n 0, 1) := by decide +kernel
theorem dX6_plans_6 : decode cX6_plans 6 = .ok (.getfield 58, 3) := by decide +kernel
theorem dX6_plans_9 : decode cX6_plans 9 = .ok (.invokevirtual 153, 3) := by decide +kernel
theorem dX6_plans_12 : decode cX6_plans 12 = .ok (.iconst 0, 1) := by decide +kernel
theorem dX6_plans_13 : decode cX6_plans 13 = .ok (.istore_n 1, 1) := by decide +kernel
theorem dX6_plans_14 : decode cX6_plans 14 = .ok (.iconst 0, 1) := by decide +kernel
theorem dX6_plans_15 : decode cX6_plans 15 = .ok (.istore_n 2, 1) := by decide +kernel
theorem dX6_plans_16 : decode cX6_plans 16 = .ok (.iload_n 2, 1) := by decide +kernel
theorem dX6_plans_17 : decode cX6_plans 17 = .ok (.aload_n 0, 1) := by decide +kernel
theorem dX6_plans_18 : decode cX6_plans 18 = .ok (.getfield 96, 3) := by decide +kernel
theorem dX6_plans_21 : decode cX6_plans 21 = .ok (.if_icmp .ge 36, 3) := by decide +kernel
theorem dX6_plans_24 : decode cX6_plans 24 = .ok (.aload_n 0, 1) := by decide +kernel
theorem dX6_plans_25 : decode cX6_plans 25 = .ok (.aload_n 0, 1) := by decide +kernel
theorem dX6_plans_26 : decode cX6_plans 26 = .ok (.getfield 131, 3) := by decide +kernel
theorem dX6_plans_29 : decode cX6_plans 29 = .ok (.iload_n 2, 1) := by decide +kernel
theorem dX6_plans_30 : decode cX6_plans 30 = .ok (.iconst 1, 1) := by decide +kernel
theorem dX6_plans_31 : decode cX6_plans 31 = .ok (.iadd, 1) := by decide +kernel
theorem dX6_plans_32 : decode cX6_plans 32 = .ok (.aload_n 0, 1) := by decide +kernel
theorem dX6_plans_33 : decode cX6_plans 33 = .ok (.getfield 46, 3) := by decide +kernel
theorem dX6_plans_36 : decode cX6_plans 36 = .ok (.invokevirtual 157, 3) := by decide +kernel
theorem dX6_plans_39 : decode cX6_plans 39 = .ok (.istore_n 3, 1) := by decide +kernel
theorem dX6_plans_40 : decode cX6_plans 40 = .ok (.aload_n 0, 1) := by decide +kernel
theorem dX6_plans_41 : decode cX6_plans 41 = .ok (.getfield 64, 3) := by decide +kernel
theorem dX6_plans_44 : decode cX6_plans 44 = .ok (.iload_n 2, 1) := by decide +kernel
theorem dX6_plans_45 : decode cX6_plans 45 = .ok (.iload_n 3, 1) := by decide +kernel
theorem dX6_plans_46 : decode cX6_plans 46 = .ok (.iload_n 1, 1) := by decide +kernel
theorem dX6_plans_47 : decode cX6_plans 47 = .ok (.isub, 1) := by decide +kernel
theorem dX6_plans_48 : decode cX6_plans 48 = .ok (.iastore, 1) := by decide +kernel
theorem dX6_plans_49 : decode cX6_plans 49 = .ok (.iload_n 3, 1) := by decide +kernel
theorem dX6_plans_50 : decode cX6_plans 50 = .ok (.istore_n 1, 1) := by decide +kernel
theorem dX6_plans_51 : decode cX6_plans 51 = .ok (.iinc 2 1, 3) := by decide +kernel
theorem dX6_plans_54 : decode cX6_plans 54 = .ok (.goto (-38), 3) := by decide +kernel
theorem dX6_plans_57 : decode cX6_plans 57 = .ok (.aload_n 0, 1) := by decide +kernel
theorem dX6_plans_58 : decode cX6_plans 58 = .ok (.getfield 96, 3) := by decide +kernel
theorem dX6_plans_61 : decode cX6_plans 61 = .ok (.istore_n 2, 1) := by decide +kernel
theorem dX6_plans_62 : decode cX6_plans 62 = .ok (.iload_n 2, 1) := by decide +kernel
theorem dX6_plans_63 : decode cX6_plans 63 = .ok (.bipush 16, 2) := by decide +kernel
theorem dX6_plans_65 : decode cX6_plans 65 = .ok (.if_icmp .ge 16, 3) := by decide +kernel
theorem dX6_plans_68 : decode cX6_plans 68 = .ok (.aload_n 0, 1) := by decide +kernel
theorem dX6_plans_69 : decode cX6_plans 69 = .ok (.getfield 64, 3) := by decide +kernel
theorem dX6_plans_72 : decode cX6_plans 72 = .ok (.iload_n 2, 1) := by decide +kernel
theorem dX6_plans_73 : decode cX6_plans 73 = .ok (.iconst 0, 1) := by decide +kernel
theorem dX6_plans_74 : decode cX6_plans 74 = .ok (.iastore, 1) := by decide +kernel
theorem dX6_plans_75 : decode cX6_plans 75 = .ok (.iinc 2 1, 3) := by decide +kernel
theorem dX6_plans_78 : decode cX6_plans 78 = .ok (.goto (-16), 3) := by decide +kernel
theorem dX6_plans_81 : decode cX6_plans 81 = .ok (.iconst 0, 1) := by decide +kernel
theorem dX6_plans_82 : decode cX6_plans 82 = .ok (.istore_n 1, 1) := by decide +kernel
theorem dX6_plans_83 : decode cX6_plans 83 = .ok (.iconst 0, 1) := by decide +kernel
theorem dX6_plans_84 : decode cX6_plans 84 = .ok (.istore_n 2, 1) := by decide +kernel
theorem dX6_plans_85 : decode cX6_plans 85 = .ok (.iload_n 2, 1) := by decide +kernel
theorem dX6_plans_86 : decode cX6_plans 86 = .ok (.aload_n 0, 1) := by decide +kernel
theorem dX6_plans_87 : decode cX6_plans 87 = .ok (.getfield 131, 3) := by decide +kernel
theorem dX6_plans_90 : decode cX6_plans 90 = .ok (.if_icmp .ge 36, 3) := by decide +kernel
theorem dX6_plans_93 : decode cX6_plans 93 = .ok (.aload_n 0, 1) := by decide +kernel
theorem dX6_plans_94 : decode cX6_plans 94 = .ok (.iload_n 2, 1) := by decide +kernel
theorem dX6_plans_95 : decode cX6_plans 95 = .ok (.iconst 1, 1) := by decide +kernel
theorem dX6_plans_96 : decode cX6_plans 96 = .ok (.iadd, 1) := by decide +kernel
theorem dX6_plans_97 : decode cX6_plans 97 = .ok (.aload_n 0, 1) := by decide +kernel
theorem dX6_plans_98 : decode cX6_plans 98 = .ok (.getfield 96, 3) := by decide +kernel
theorem dX6_plans_101 : decode cX6_plans 101 = .ok (.aload_n 0, 1) := by decide +kernel
theorem dX6_plans_102 : decode cX6_plans 102 = .ok (.getfield 64, 3) := by decide +kernel
theorem dX6_plans_105 : decode cX6_plans 105 = .ok (.invokevirtual 157, 3) := by decide +kernel
theorem dX6_plans_108 : decode cX6_plans 108 = .ok (.istore_n 3, 1) := by decide +kernel
theorem dX6_plans_109 : decode cX6_plans 109 = .ok (.aload_n 0, 1) := by decide +kernel
theorem dX6_plans_110 : decode cX6_plans 110 = .ok (.getfield 67, 3) := by decide +kernel
theorem dX6_plans_113 : decode cX6_plans 113 = .ok (.iload_n 2, 1) := by decide +kernel
theorem dX6_plans_114 : decode cX6_plans 114 = .ok (.iload_n 3, 1) := by decide +kernel
theorem dX6_plans_115 : decode cX6_plans 115 = .ok (.iload_n 1, 1) := by decide +kernel
theorem dX6_plans_116 : decode cX6_plans 116 = .ok (.isub, 1) := by decide +kernel
theorem dX6_plans_117 : decode cX6_plans 117 = .ok (.iastore, 1) := by decide +kernel
theorem dX6_plans_118 : decode cX6_plans 118 = .ok (.iload_n 3, 1) := by decide +kernel
theorem dX6_plans_119 : decode cX6_plans 119 = .ok (.istore_n 1, 1) := by decide +kernel
theorem dX6_plans_120 : decode cX6_plans 120 = .ok (.iinc 2 1, 3) := by decide +kernel
theorem dX6_plans_123 : decode cX6_plans 123 = .ok (.goto (-38), 3) := by decide +kernel
theorem dX6_plans_126 : decode cX6_plans 126 = .ok (.return_, 1) := by decide +kernel
theorem dX6_parts_0 : decode cX6_parts 0 = .ok (.iconst 0, 1) := by decide +kernel
theorem dX6_parts_1 : decode cX6_parts 1 = .ok (.istore_n 1, 1) := by decide +kernel
theorem dX6_parts_2 : decode cX6_parts 2 = .ok (.iload_n 1, 1) := by decide +kernel
theorem dX6_parts_3 : decode cX6_parts 3 = .ok (.aload_n 0, 1) := by decide +kernel
theorem dX6_parts_4 : decode cX6_parts 4 = .ok (.getfield 96, 3) := by decide +kernel
theorem dX6_parts_7 : decode cX6_parts 7 = .ok (.if_icmp .ge 205, 3) := by decide +kernel
theorem dX6_parts_10 : decode cX6_parts 10 = .ok (.iconst 0, 1) := by decide +kernel
theorem dX6_parts_11 : decode cX6_parts 11 = .ok (.istore_n 2, 1) := by decide +kernel
theorem dX6_parts_12 : decode cX6_parts 12 = .ok (.iload_n 2, 1) := by decide +kernel
theorem dX6_parts_13 : decode cX6_parts 13 = .ok (.aload_n 0, 1) := by decide +kernel
theorem dX6_parts_14 : decode cX6_parts 14 = .ok (.getfield 131, 3) := by decide +kernel
theorem dX6_parts_17 : decode cX6_parts 17 = .ok (.if_icmp .ge 189, 3) := by decide +kernel
theorem dX6_parts_20 : decode cX6_parts 20 = .ok (.iconst 0, 1) := by decide +kernel
theorem dX6_parts_21 : decode cX6_parts 21 = .ok (.istore_n 3, 1) := by decide +kernel
theorem dX6_parts_22 : decode cX6_parts 22 = .ok (.aload_n 0, 1) := by decide +kernel
theorem dX6_parts_23 : decode cX6_parts 23 = .ok (.getfield 61, 3) := by decide +kernel
theorem dX6_parts_26 : decode cX6_parts 26 = .ok (.iload_n 2, 1) := by decide +kernel
theorem dX6_parts_27 : decode cX6_parts 27 = .ok (.iaload, 1) := by decide +kernel
theorem dX6_parts_28 : decode cX6_parts 28 = .ok (.iload_n 1, 1) := by decide +kernel
theorem dX6_parts_29 : decode cX6_parts 29 = .ok (.ishr, 1) := by decide +kernel
theorem dX6_parts_30 : decode cX6_parts 30 = .ok (.iconst 1, 1) := by decide +kernel
theorem dX6_parts_31 : decode cX6_parts 31 = .ok (.iand, 1) := by decide +kernel
theorem dX6_parts_32 : decode cX6_parts 32 = .ok (.iconst 1, 1) := by decide +kernel
theorem dX6_parts_33 : decode cX6_parts 33 = .ok (.if_icmp .ne 155, 3) := by decide +kernel
theorem dX6_parts_36 : decode cX6_parts 36 = .ok (.aload_n 0, 1) := by decide +kernel
theorem dX6_parts_37 : decode cX6_parts 37 = .ok (.getfield 67, 3) := by decide +kernel
theorem dX6_parts_40 : decode cX6_parts 40 = .ok (.iload_n 2, 1) := by decide +kernel
theorem dX6_parts_41 : decode cX6_parts 41 = .ok (.iaload, 1) := by decide +kernel
theorem dX6_parts_42 : decode cX6_parts 42 = .ok (.aload_n 0, 1) := by decide +kernel
theorem dX6_parts_43 : decode cX6_parts 43 = .ok (.getfield 64, 3) := by decide +kernel
theorem dX6_parts_46 : decode cX6_parts 46 = .ok (.iload_n 1, 1) := by decide +kernel
theorem dX6_parts_47 : decode cX6_parts 47 = .ok (.iaload, 1) := by decide +kernel
theorem dX6_parts_48 : decode cX6_parts 48 = .ok (.if_icmp .ge 12, 3) := by decide +kernel
theorem dX6_parts_51 : decode cX6_parts 51 = .ok (.aload_n 0, 1) := by decide +kernel
theorem dX6_parts_52 : decode cX6_parts 52 = .ok (.getfield 67, 3) := by decide +kernel
theorem dX6_parts_55 : decode cX6_parts 55 = .ok (.iload_n 2, 1) := by decide +kernel
theorem dX6_parts_56 : decode cX6_parts 56 = .ok (.iaload, 1) := by decide +kernel
theorem dX6_parts_57 : decode cX6_parts 57 = .ok (.goto 9, 3) := by decide +kernel
theorem dX6_parts_60 : decode cX6_parts 60 = .ok (.aload_n 0, 1) := by decide +kernel
theorem dX6_parts_61 : decode cX6_parts 61 = .ok (.getfield 64, 3) := by decide +kernel
theorem dX6_parts_64 : decode cX6_parts 64 = .ok (.iload_n 1, 1) := by decide +kernel
theorem dX6_parts_65 : decode cX6_parts 65 = .ok (.iaload, 1) := by decide +kernel
theorem dX6_parts_66 : decode cX6_parts 66 = .ok (.istore_n 3, 1) := by decide +kernel
theorem dX6_parts_67 : decode cX6_parts 67 = .ok (.aload_n 0, 1) := by decide +kernel
theorem dX6_parts_68 : decode cX6_parts 68 = .ok (.aload_n 0, 1) := by decide +kernel
theorem dX6_parts_69 : decode cX6_parts 69 = .ok (.getfield 67, 3) := by decide +kernel
theorem dX6_parts_72 : decode cX6_parts 72 = .ok (.invokevirtual 153, 3) := by decide +kernel
theorem dX6_parts_75 : decode cX6_parts 75 = .ok (.iconst 0, 1) := by decide +kernel
theorem dX6_parts_76 : decode cX6_parts 76 = .ok (.istore 4, 2) := by decide +kernel
theorem dX6_parts_78 : decode cX6_parts 78 = .ok (.iload 4, 2) := by decide +kernel
theorem dX6_parts_80 : decode cX6_parts 80 = .ok (.iconst 1, 1) := by decide +kernel
theorem dX6_parts_81 : decode cX6_parts 81 = .ok (.aload_n 0, 1) := by decide +kernel
theorem dX6_parts_82 : decode cX6_parts 82 = .ok (.getfield 131, 3) := by decide +kernel
theorem dX6_parts_85 : decode cX6_parts 85 = .ok (.ishl, 1) := by decide +kernel
theorem dX6_parts_86 : decode cX6_parts 86 = .ok (.if_icmp .ge 70, 3) := by decide +kernel
theorem dX6_parts_89 : decode cX6_parts 89 = .ok (.iload 4, 2) := by decide +kernel
theorem dX6_parts_91 : decode cX6_parts 91 = .ok (.iload_n 2, 1) := by decide +kernel
theorem dX6_parts_92 : decode cX6_parts 92 = .ok (.ishr, 1) := by decide +kernel
theorem dX6_parts_93 : decode cX6_parts 93 = .ok (.iconst 1, 1) := by decide +kernel
theorem dX6_parts_94 : decode cX6_parts 94 = .ok (.iand, 1) := by decide +kernel
theorem dX6_parts_95 : decode cX6_parts 95 = .ok (.ifCond .ne 55, 3) := by decide +kernel
theorem dX6_parts_98 : decode cX6_parts 98 = .ok (.aload_n 0, 1) := by decide +kernel
theorem dX6_parts_99 : decode cX6_parts 99 = .ok (.getfield 76, 3) := by decide +kernel
theorem dX6_parts_102 : decode cX6_parts 102 = .ok (.iload 4, 2) := by decide +kernel
theorem dX6_parts_104 : decode cX6_parts 104 = .ok (.iaload, 1) := by decide +kernel
theorem dX6_parts_105 : decode cX6_parts 105 = .ok (.iload_n 1, 1) := by decide +kernel
theorem dX6_parts_106 : decode cX6_parts 106 = .ok (.ishr, 1) := by decide +kernel
theorem dX6_parts_107 : decode cX6_parts 107 = .ok (.iconst 1, 1) := by decide +kernel
theorem dX6_parts_108 : decode cX6_parts 108 = .ok (.iand, 1) := by decide +kernel
theorem dX6_parts_109 : decode cX6_parts 109 = .ok (.iconst 1, 1) := by decide +kernel
theorem dX6_parts_110 : decode cX6_parts 110 = .ok (.if_icmp .ne 40, 3) := by decide +kernel
theorem dX6_parts_113 : decode cX6_parts 113 = .ok (.aload_n 0, 1) := by decide +kernel
theorem dX6_parts_114 : decode cX6_parts 114 = .ok (.getfield 76, 3) := by decide +kernel
theorem dX6_parts_117 : decode cX6_parts 117 = .ok (.iload 4, 2) := by decide +kernel
theorem dX6_parts_119 : decode cX6_parts 119 = .ok (.iaload, 1) := by decide +kernel
theorem dX6_parts_120 : decode cX6_parts 120 = .ok (.aload_n 0, 1) := by decide +kernel
theorem dX6_parts_121 : decode cX6_parts 121 = .ok (.getfield 64, 3) := by decide +kernel
theorem dX6_parts_124 : decode cX6_parts 124 = .ok (.invokestatic 146, 3) := by decide +kernel
theorem dX6_parts_127 : decode cX6_parts 127 = .ok (.aload_n 0, 1) := by decide +kernel
theorem dX6_parts_128 : decode cX6_parts 128 = .ok (.getfield 73, 3) := by decide +kernel
theorem dX6_parts_131 : decode cX6_parts 131 = .ok (.iload 4, 2) := by decide +kernel
theorem dX6_parts_133 : decode cX6_parts 133 = .ok (.iaload, 1) := by decide +kernel
theorem dX6_parts_134 : decode cX6_parts 134 = .ok (.isub, 1) := by decide +kernel
theorem dX6_parts_135 : decode cX6_parts 135 = .ok (.istore 5, 2) := by decide +kernel
theorem dX6_parts_137 : decode cX6_parts 137 = .ok (.iload 5, 2) := by decide +kernel
theorem dX6_parts_139 : decode cX6_parts 139 = .ok (.iload_n 3, 1) := by decide +kernel
theorem dX6_parts_140 : decode cX6_parts 140 = .ok (.if_icmp .ge 8, 3) := by decide +kernel
theorem dX6_parts_143 : decode cX6_parts 143 = .ok (.iload 5, 2) := by decide +kernel
theorem dX6_parts_145 : decode cX6_parts 145 = .ok (.goto 4, 3) := by decide +kernel
theorem dX6_parts_148 : decode cX6_parts 148 = .ok (.iload_n 3, 1) := by decide +kernel
theorem dX6_parts_149 : decode cX6_parts 149 = .ok (.istore_n 3, 1) := by decide +kernel
theorem dX6_parts_150 : decode cX6_parts 150 = .ok (.iinc 4 1, 3) := by decide +kernel
theorem dX6_parts_153 : decode cX6_parts 153 = .ok (.goto (-75), 3) := by decide +kernel
theorem dX6_parts_156 : decode cX6_parts 156 = .ok (.aload_n 0, 1) := by decide +kernel
theorem dX6_parts_157 : decode cX6_parts 157 = .ok (.getfield 61, 3) := by decide +kernel
theorem dX6_parts_160 : decode cX6_parts 160 = .ok (.iload_n 2, 1) := by decide +kernel
theorem dX6_parts_161 : decode cX6_parts 161 = .ok (.dup2, 1) := by decide +kernel
theorem dX6_parts_162 : decode cX6_parts 162 = .ok (.iaload, 1) := by decide +kernel
theorem dX6_parts_163 : decode cX6_parts 163 = .ok (.iconst 1, 1) := by decide +kernel
theorem dX6_parts_164 : decode cX6_parts 164 = .ok (.iload_n 1, 1) := by decide +kernel
theorem dX6_parts_165 : decode cX6_parts 165 = .ok (.ishl, 1) := by decide +kernel
theorem dX6_parts_166 : decode cX6_parts 166 = .ok (.isub, 1) := by decide +kernel
theorem dX6_parts_167 : decode cX6_parts 167 = .ok (.iastore, 1) := by decide +kernel
theorem dX6_parts_168 : decode cX6_parts 168 = .ok (.aload_n 0, 1) := by decide +kernel
theorem dX6_parts_169 : decode cX6_parts 169 = .ok (.getfield 67, 3) := by decide +kernel
theorem dX6_parts_172 : decode cX6_parts 172 = .ok (.iload_n 2, 1) := by decide +kernel
theorem dX6_parts_173 : decode cX6_parts 173 = .ok (.dup2, 1) := by decide +kernel
theorem dX6_parts_174 : decode cX6_parts 174 = .ok (.iaload, 1) := by decide +kernel
theorem dX6_parts_175 : decode cX6_parts 175 = .ok (.iload_n 3, 1) := by decide +kernel
theorem dX6_parts_176 : decode cX6_parts 176 = .ok (.isub, 1) := by decide +kernel
theorem dX6_parts_177 : decode cX6_parts 177 = .ok (.iastore, 1) := by decide +kernel
theorem dX6_parts_178 : decode cX6_parts 178 = .ok (.aload_n 0, 1) := by decide +kernel
theorem dX6_parts_179 : decode cX6_parts 179 = .ok (.getfield 64, 3) := by decide +kernel
theorem dX6_parts_182 : decode cX6_parts 182 = .ok (.iload_n 1, 1) := by decide +kernel
theorem dX6_parts_183 : decode cX6_parts 183 = .ok (.dup2, 1) := by decide +kernel
theorem dX6_parts_184 : decode cX6_parts 184 = .ok (.iaload, 1) := by decide +kernel
theorem dX6_parts_185 : decode cX6_parts 185 = .ok (.iload_n 3, 1) := by decide +kernel
theorem dX6_parts_186 : decode cX6_parts 186 = .ok (.isub, 1) := by decide +kernel
theorem dX6_parts_187 : decode cX6_parts 187 = .ok (.iastore, 1) := by decide +kernel
theorem dX6_parts_188 : decode cX6_parts 188 = .ok (.aload_n 0, 1) := by decide +kernel
theorem dX6_parts_189 : decode cX6_parts 189 = .ok (.getfield 70, 3) := by decide +kernel
theorem dX6_parts_192 : decode cX6_parts 192 = .ok (.bipush 12, 2) := by decide +kernel
theorem dX6_parts_194 : decode cX6_parts 194 = .ok (.iload_n 1, 1) := by decide +kernel
theorem dX6_parts_195 : decode cX6_parts 195 = .ok (.imul, 1) := by decide +kernel
theorem dX6_parts_196 : decode cX6_parts 196 = .ok (.iload_n 2, 1) := by decide +kernel
theorem dX6_parts_197 : decode cX6_parts 197 = .ok (.iadd, 1) := by decide +kernel
theorem dX6_parts_198 : decode cX6_parts 198 = .ok (.iload_n 3, 1) := by decide +kernel
theorem dX6_parts_199 : decode cX6_parts 199 = .ok (.iastore, 1) := by decide +kernel
theorem dX6_parts_200 : decode cX6_parts 200 = .ok (.iinc 2 1, 3) := by decide +kernel
theorem dX6_parts_203 : decode cX6_parts 203 = .ok (.goto (-191), 3) := by decide +kernel
theorem dX6_parts_206 : decode cX6_parts 206 = .ok (.iinc 1 1, 3) := by decide +kernel
theorem dX6_parts_209 : decode cX6_parts 209 = .ok (.goto (-207), 3) := by decide +kernel
theorem dX6_parts_212 : decode cX6_parts 212 = .ok (.return_, 1) := by decide +kernel
theorem dX6_charge_0 : decode cX6_charge 0 = .ok (.aload_n 0, 1) := by decide +kernel
theorem dX6_charge_1 : decode cX6_charge 1 = .ok (.iconst 0, 1) := by decide +kernel
theorem dX6_charge_2 : decode cX6_charge 2 = .ok (.putfield 82, 3) := by decide +kernel
theorem dX6_charge_5 : decode cX6_charge 5 = .ok (.aload_n 0, 1) := by decide +kernel
theorem dX6_charge_6 : decode cX6_charge 6 = .ok (.invokevirtual 161, 3) := by decide +kernel
theorem dX6_charge_9 : decode cX6_charge 9 = .ok (.aload_n 0, 1) := by decide +kernel
theorem dX6_charge_10 : decode cX6_charge 10 = .ok (.invokevirtual 164, 3) := by decide +kernel
theorem dX6_charge_13 : decode cX6_charge 13 = .ok (.iconst 0, 1) := by decide +kernel
theorem dX6_charge_14 : decode cX6_charge 14 = .ok (.istore_n 1, 1) := by decide +kernel
theorem dX6_charge_15 : decode cX6_charge 15 = .ok (.iconst 0, 1) := by decide +kernel
theorem dX6_charge_16 : decode cX6_charge 16 = .ok (.istore_n 2, 1) := by decide +kernel
theorem dX6_charge_17 : decode cX6_charge 17 = .ok (.iload_n 2, 1) := by decide +kernel
theorem dX6_charge_18 : decode cX6_charge 18 = .ok (.aload_n 0, 1) := by decide +kernel
theorem dX6_charge_19 : decode cX6_charge 19 = .ok (.getfield 96, 3) := by decide +kernel
theorem dX6_charge_22 : decode cX6_charge 22 = .ok (.if_icmp .ge 131, 3) := by decide +kernel
theorem dX6_charge_25 : decode cX6_charge 25 = .ok (.iconst 0, 1) := by decide +kernel
theorem dX6_charge_26 : decode cX6_charge 26 = .ok (.istore_n 3, 1) := by decide +kernel
theorem dX6_charge_27 : decode cX6_charge 27 = .ok (.iload_n 3, 1) := by decide +kernel
theorem dX6_charge_28 : decode cX6_charge 28 = .ok (.aload_n 0, 1) := by decide +kernel
theorem dX6_charge_29 : decode cX6_charge 29 = .ok (.getfield 131, 3) := by decide +kernel
theorem dX6_charge_32 : decode cX6_charge 32 = .ok (.if_icmp .ge 115, 3) := by decide +kernel
theorem dX6_charge_35 : decode cX6_charge 35 = .ok (.aload_n 0, 1) := by decide +kernel
theorem dX6_charge_36 : decode cX6_charge 36 = .ok (.getfield 70, 3) := by decide +kernel
theorem dX6_charge_39 : decode cX6_charge 39 = .ok (.bipush 12, 2) := by decide +kernel
theorem dX6_charge_41 : decode cX6_charge 41 = .ok (.iload_n 2, 1) := by decide +kernel
theorem dX6_charge_42 : decode cX6_charge 42 = .ok (.imul, 1) := by decide +kernel
theorem dX6_charge_43 : decode cX6_charge 43 = .ok (.iload_n 3, 1) := by decide +kernel
theorem dX6_charge_44 : decode cX6_charge 44 = .ok (.iadd, 1) := by decide +kernel
theorem dX6_charge_45 : decode cX6_charge 45 = .ok (.iaload, 1) := by decide +kernel
theorem dX6_charge_46 : decode cX6_charge 46 = .ok (.istore 4, 2) := by decide +kernel
theorem dX6_charge_48 : decode cX6_charge 48 = .ok (.aload_n 0, 1) := by decide +kernel
theorem dX6_charge_49 : decode cX6_charge 49 = .ok (.getfield 52, 3) := by decide +kernel
theorem dX6_charge_52 : decode cX6_charge 52 = .ok (.iload_n 3, 1) := by decide +kernel
theorem dX6_charge_53 : decode cX6_charge 53 = .ok (.iaload, 1) := by decide +kernel
theorem dX6_charge_54 : decode cX6_charge 54 = .ok (.istore 5, 2) := by decide +kernel
theorem dX6_charge_56 : decode cX6_charge 56 = .ok (.iload_n 1, 1) := by decide +kernel
theorem dX6_charge_57 : decode cX6_charge 57 = .ok (.iload 4, 2) := by decide +kernel
theorem dX6_charge_59 : decode cX6_charge 59 = .ok (.iadd, 1) := by decide +kernel
theorem dX6_charge_60 : decode cX6_charge 60 = .ok (.istore_n 1, 1) := by decide +kernel
theorem dX6_charge_61 : decode cX6_charge 61 = .ok (.aload_n 0, 1) := by decide +kernel
theorem dX6_charge_62 : decode cX6_charge 62 = .ok (.getfield 46, 3) := by decide +kernel
theorem dX6_charge_65 : decode cX6_charge 65 = .ok (.iload_n 2, 1) := by decide +kernel
theorem dX6_charge_66 : decode cX6_charge 66 = .ok (.dup2, 1) := by decide +kernel
theorem dX6_charge_67 : decode cX6_charge 67 = .ok (.iaload, 1) := by decide +kernel
theorem dX6_charge_68 : decode cX6_charge 68 = .ok (.iload 4, 2) := by decide +kernel
theorem dX6_charge_70 : decode cX6_charge 70 = .ok (.isub, 1) := by decide +kernel
theorem dX6_charge_71 : decode cX6_charge 71 = .ok (.iastore, 1) := by decide +kernel
theorem dX6_charge_72 : decode cX6_charge 72 = .ok (.aload_n 0, 1) := by decide +kernel
theorem dX6_charge_73 : decode cX6_charge 73 = .ok (.getfield 49, 3) := by decide +kernel
theorem dX6_charge_76 : decode cX6_charge 76 = .ok (.bipush 6, 2) := by decide +kernel
theorem dX6_charge_78 : decode cX6_charge 78 = .ok (.iload_n 2, 1) := by decide +kernel
theorem dX6_charge_79 : decode cX6_charge 79 = .ok (.imul, 1) := by decide +kernel
theorem dX6_charge_80 : decode cX6_charge 80 = .ok (.iload 5, 2) := by decide +kernel
theorem dX6_charge_82 : decode cX6_charge 82 = .ok (.iadd, 1) := by decide +kernel
theorem dX6_charge_83 : decode cX6_charge 83 = .ok (.dup2, 1) := by decide +kernel
theorem dX6_charge_84 : decode cX6_charge 84 = .ok (.iaload, 1) := by decide +kernel
theorem dX6_charge_85 : decode cX6_charge 85 = .ok (.iload 4, 2) := by decide +kernel
theorem dX6_charge_87 : decode cX6_charge 87 = .ok (.iadd, 1) := by decide +kernel
theorem dX6_charge_88 : decode cX6_charge 88 = .ok (.iastore, 1) := by decide +kernel
theorem dX6_charge_89 : decode cX6_charge 89 = .ok (.aload_n 0, 1) := by decide +kernel
theorem dX6_charge_90 : decode cX6_charge 90 = .ok (.getfield 22, 3) := by decide +kernel
theorem dX6_charge_93 : decode cX6_charge 93 = .ok (.iload 5, 2) := by decide +kernel
theorem dX6_charge_95 : decode cX6_charge 95 = .ok (.dup2, 1) := by decide +kernel
theorem dX6_charge_96 : decode cX6_charge 96 = .ok (.iaload, 1) := by decide +kernel
theorem dX6_charge_97 : decode cX6_charge 97 = .ok (.iload 4, 2) := by decide +kernel
theorem dX6_charge_99 : decode cX6_charge 99 = .ok (.iadd, 1) := by decide +kernel
theorem dX6_charge_100 : decode cX6_charge 100 = .ok (.iastore, 1) := by decide +kernel
theorem dX6_charge_101 : decode cX6_charge 101 = .ok (.aload_n 0, 1) := by decide +kernel
theorem dX6_charge_102 : decode cX6_charge 102 = .ok (.getfield 55, 3) := by decide +kernel
theorem dX6_charge_105 : decode cX6_charge 105 = .ok (.iload_n 3, 1) := by decide +kernel
theorem dX6_charge_106 : decode cX6_charge 106 = .ok (.iaload, 1) := by decide +kernel
theorem dX6_charge_107 : decode cX6_charge 107 = .ok (.ifCond .lt 22, 3) := by decide +kernel
theorem dX6_charge_110 : decode cX6_charge 110 = .ok (.aload_n 0, 1) := by decide +kernel
theorem dX6_charge_111 : decode cX6_charge 111 = .ok (.getfield 34, 3) := by decide +kernel
theorem dX6_charge_114 : decode cX6_charge 114 = .ok (.aload_n 0, 1) := by decide +kernel
theorem dX6_charge_115 : decode cX6_charge 115 = .ok (.getfield 55, 3) := by decide +kernel
theorem dX6_charge_118 : decode cX6_charge 118 = .ok (.iload_n 3, 1) := by decide +kernel
theorem dX6_charge_119 : decode cX6_charge 119 = .ok (.iaload, 1) := by decide +kernel
theorem dX6_charge_120 : decode cX6_charge 120 = .ok (.dup2, 1) := by decide +kernel
theorem dX6_charge_121 : decode cX6_charge 121 = .ok (.iaload, 1) := by decide +kernel
theorem dX6_charge_122 : decode cX6_charge 122 = .ok (.iload 4, 2) := by decide +kernel
theorem dX6_charge_124 : decode cX6_charge 124 = .ok (.isub, 1) := by decide +kernel
theorem dX6_charge_125 : decode cX6_charge 125 = .ok (.iastore, 1) := by decide +kernel
theorem dX6_charge_126 : decode cX6_charge 126 = .ok (.goto 15, 3) := by decide +kernel
theorem dX6_charge_129 : decode cX6_charge 129 = .ok (.aload_n 0, 1) := by decide +kernel
theorem dX6_charge_130 : decode cX6_charge 130 = .ok (.getfield 7, 3) := by decide +kernel
theorem dX6_charge_133 : decode cX6_charge 133 = .ok (.iload 5, 2) := by decide +kernel
theorem dX6_charge_135 : decode cX6_charge 135 = .ok (.dup2, 1) := by decide +kernel
theorem dX6_charge_136 : decode cX6_charge 136 = .ok (.iaload, 1) := by decide +kernel
theorem dX6_charge_137 : decode cX6_charge 137 = .ok (.iload 4, 2) := by decide +kernel
theorem dX6_charge_139 : decode cX6_charge 139 = .ok (.isub, 1) := by decide +kernel
theorem dX6_charge_140 : decode cX6_charge 140 = .ok (.iastore, 1) := by decide +kernel
theorem dX6_charge_141 : decode cX6_charge 141 = .ok (.iinc 3 1, 3) := by decide +kernel
theorem dX6_charge_144 : decode cX6_charge 144 = .ok (.goto (-117), 3) := by decide +kernel
theorem dX6_charge_147 : decode cX6_charge 147 = .ok (.iinc 2 1, 3) := by decide +kernel
theorem dX6_charge_150 : decode cX6_charge 150 = .ok (.goto (-133), 3) := by decide +kernel
theorem dX6_charge_153 : decode cX6_charge 153 = .ok (.aload_n 0, 1) := by decide +kernel
theorem dX6_charge_154 : decode cX6_charge 154 = .ok (.getfield 93, 3) := by decide +kernel
theorem dX6_charge_157 : decode cX6_charge 157 = .ok (.iconst 1, 1) := by decide +kernel
theorem dX6_charge_158 : decode cX6_charge 158 = .ok (.isub, 1) := by decide +kernel
theorem dX6_charge_159 : decode cX6_charge 159 = .ok (.istore_n 2, 1) := by decide +kernel
theorem dX6_charge_160 : decode cX6_charge 160 = .ok (.iload_n 2, 1) := by decide +kernel
theorem dX6_charge_161 : decode cX6_charge 161 = .ok (.ifCond .lt 23, 3) := by decide +kernel
theorem dX6_charge_164 : decode cX6_charge 164 = .ok (.aload_n 0, 1) := by decide +kernel
theorem dX6_charge_165 : decode cX6_charge 165 = .ok (.getfield 34, 3) := by decide +kernel
theorem dX6_charge_168 : decode cX6_charge 168 = .ok (.iload_n 2, 1) := by decide +kernel
theorem dX6_charge_169 : decode cX6_charge 169 = .ok (.iaload, 1) := by decide +kernel
theorem dX6_charge_170 : decode cX6_charge 170 = .ok (.ifCond .ne 8, 3) := by decide +kernel
theorem dX6_charge_173 : decode cX6_charge 173 = .ok (.aload_n 0, 1) := by decide +kernel
theorem dX6_charge_174 : decode cX6_charge 174 = .ok (.iload_n 2, 1) := by decide +kernel
theorem dX6_charge_175 : decode cX6_charge 175 = .ok (.invokevirtual 127, 3) := by decide +kernel
theorem dX6_charge_178 : decode cX6_charge 178 = .ok (.iinc 2 (-1), 3) := by decide +kernel
theorem dX6_charge_181 : decode cX6_charge 181 = .ok (.goto (-21), 3) := by decide +kernel
theorem dX6_charge_184 : decode cX6_charge 184 = .ok (.iload_n 1, 1) := by decide +kernel
theorem dX6_charge_185 : decode cX6_charge 185 = .ok (.ireturn, 1) := by decide +kernel
theorem dX6_room_0 : decode cX6_room 0 = .ok (.aload_n 0, 1) := by decide +kernel
theorem dX6_room_1 : decode cX6_room 1 = .ok (.getfield 22, 3) := by decide +kernel
theorem dX6_room_4 : decode cX6_room 4 = .ok (.iload_n 1, 1) := by decide +kernel
theorem dX6_room_5 : decode cX6_room 5 = .ok (.iaload, 1) := by decide +kernel
theorem dX6_room_6 : decode cX6_room 6 = .ok (.aload_n 0, 1) := by decide +kernel
theorem dX6_room_7 : decode cX6_room 7 = .ok (.getfield 19, 3) := by decide +kernel
theorem dX6_room_10 : decode cX6_room 10 = .ok (.iload_n 1, 1) := by decide +kernel
theorem dX6_room_11 : decode cX6_room 11 = .ok (.iaload, 1) := by decide +kernel
theorem dX6_room_12 : decode cX6_room 12 = .ok (.imul, 1) := by decide +kernel
theorem dX6_room_13 : decode cX6_room 13 = .ok (.bipush 100, 2) := by decide +kernel
theorem dX6_room_15 : decode cX6_room 15 = .ok (.idiv, 1) := by decide +kernel
theorem dX6_room_16 : decode cX6_room 16 = .ok (.aload_n 0, 1) := by decide +kernel
theorem dX6_room_17 : decode cX6_room 17 = .ok (.getfield 25, 3) := by decide +kernel
theorem dX6_room_20 : decode cX6_room 20 = .ok (.iload_n 1, 1) := by decide +kernel
theorem dX6_room_21 : decode cX6_room 21 = .ok (.iaload, 1) := by decide +kernel
theorem dX6_room_22 : decode cX6_room 22 = .ok (.isub, 1) := by decide +kernel
theorem dX6_room_23 : decode cX6_room 23 = .ok (.istore_n 2, 1) := by decide +kernel
theorem dX6_room_24 : decode cX6_room 24 = .ok (.iload_n 2, 1) := by decide +kernel
theorem dX6_room_25 : decode cX6_room 25 = .ok (.ifCond .ge 7, 3) := by decide +kernel
theorem dX6_room_28 : decode cX6_room 28 = .ok (.iconst 0, 1) := by decide +kernel
theorem dX6_room_29 : decode cX6_room 29 = .ok (.goto 4, 3) := by decide +kernel
theorem dX6_room_32 : decode cX6_room 32 = .ok (.iload_n 2, 1) := by decide +kernel
theorem dX6_room_33 : decode cX6_room 33 = .ok (.istore_n 2, 1) := by decide +kernel
theorem dX6_room_34 : decode cX6_room 34 = .ok (.iload_n 2, 1) := by decide +kernel
theorem dX6_room_35 : decode cX6_room 35 = .ok (.aload_n 0, 1) := by decide +kernel
theorem dX6_room_36 : decode cX6_room 36 = .ok (.getfield 7, 3) := by decide +kernel
theorem dX6_room_39 : decode cX6_room 39 = .ok (.iload_n 1, 1) := by decide +kernel
theorem dX6_room_40 : decode cX6_room 40 = .ok (.iaload, 1) := by decide +kernel
theorem dX6_room_41 : decode cX6_room 41 = .ok (.if_icmp .ge 7, 3) := by decide +kernel
theorem dX6_room_44 : decode cX6_room 44 = .ok (.iload_n 2, 1) := by decide +kernel
theorem dX6_room_45 : decode cX6_room 45 = .ok (.goto 9, 3) := by decide +kernel
theorem dX6_room_48 : decode cX6_room 48 = .ok (.aload_n 0, 1) := by decide +kernel
theorem dX6_room_49 : decode cX6_room 49 = .ok (.getfield 7, 3) := by decide +kernel
theorem dX6_room_52 : decode cX6_room 52 = .ok (.iload_n 1, 1) := by decide +kernel
theorem dX6_room_53 : decode cX6_room 53 = .ok (.iaload, 1) := by decide +kernel
theorem dX6_room_54 : decode cX6_room 54 = .ok (.ireturn, 1) := by decide +kernel
theorem dX6_gets_0 : decode cX6_gets 0 = .ok (.aload_n 0, 1) := by decide +kernel
theorem dX6_gets_1 : decode cX6_gets 1 = .ok (.getfield 7, 3) := by decide +kernel
theorem dX6_gets_4 : decode cX6_gets 4 = .ok (.iload_n 1, 1) := by decide +kernel
theorem dX6_gets_5 : decode cX6_gets 5 = .ok (.dup2, 1) := by decide +kernel
theorem dX6_gets_6 : decode cX6_gets 6 = .ok (.iaload, 1) := by decide +kernel
theorem dX6_gets_7 : decode cX6_gets 7 = .ok (.iload_n 2, 1) := by decide +kernel
theorem dX6_gets_8 : decode cX6_gets 8 = .ok (.isub, 1) := by decide +kernel
theorem dX6_gets_9 : decode cX6_gets 9 = .ok (.iastore, 1) := by decide +kernel
theorem dX6_gets_10 : decode cX6_gets 10 = .ok (.aload_n 0, 1) := by decide +kernel
theorem dX6_gets_11 : decode cX6_gets 11 = .ok (.getfield 25, 3) := by decide +kernel
theorem dX6_gets_14 : decode cX6_gets 14 = .ok (.iload_n 1, 1) := by decide +kernel
theorem dX6_gets_15 : decode cX6_gets 15 = .ok (.dup2, 1) := by decide +kernel
theorem dX6_gets_16 : decode cX6_gets 16 = .ok (.iaload, 1) := by decide +kernel
theorem dX6_gets_17 : decode cX6_gets 17 = .ok (.iload_n 2, 1) := by decide +kernel
theorem dX6_gets_18 : decode cX6_gets 18 = .ok (.iadd, 1) := by decide +kernel
theorem dX6_gets_19 : decode cX6_gets 19 = .ok (.iastore, 1) := by decide +kernel
theorem dX6_gets_20 : decode cX6_gets 20 = .ok (.return_, 1) := by decide +kernel
theorem dX6_round_0 : decode cX6_round 0 = .ok (.lconst 0, 1) := by decide +kernel
theorem dX6_round_1 : decode cX6_round 1 = .ok (.lstore_n 2, 1) := by decide +kernel
theorem dX6_round_2 : decode cX6_round 2 = .ok (.iconst 0, 1) := by decide +kernel
theorem dX6_round_3 : decode cX6_round 3 = .ok (.istore 4, 2) := by decide +kernel
theorem dX6_round_5 : decode cX6_round 5 = .ok (.iload 4, 2) := by decide +kernel
theorem dX6_round_7 : decode cX6_round 7 = .ok (.aload_n 0, 1) := by decide +kernel
theorem dX6_round_8 : decode cX6_round 8 = .ok (.getfield 86, 3) := by decide +kernel
theorem dX6_round_11 : decode cX6_round 11 = .ok (.if_icmp .ge 47, 3) := by decide +kernel
theorem dX6_round_14 : decode cX6_round 14 = .ok (.aload_n 0, 1) := by decide +kernel
theorem dX6_round_15 : decode cX6_round 15 = .ok (.getfield 79, 3) := by decide +kernel
theorem dX6_round_18 : decode cX6_round 18 = .ok (.iload 4, 2) := by decide +kernel
theorem dX6_round_20 : decode cX6_round 20 = .ok (.aload_n 0, 1) := by decide +kernel
theorem dX6_round_21 : decode cX6_round 21 = .ok (.iload 4, 2) := by decide +kernel
theorem dX6_round_23 : decode cX6_round 23 = .ok (.invokevirtual 167, 3) := by decide +kernel
theorem dX6_round_26 : decode cX6_round 26 = .ok (.iastore, 1) := by decide +kernel
theorem dX6_round_27 : decode cX6_round 27 = .ok (.lload_n 2, 1) := by decide +kernel
theorem dX6_round_28 : decode cX6_round 28 = .ok (.aload_n 0, 1) := by decide +kernel
theorem dX6_round_29 : decode cX6_round 29 = .ok (.getfield 79, 3) := by decide +kernel
theorem dX6_round_32 : decode cX6_round 32 = .ok (.iload 4, 2) := by decide +kernel
theorem dX6_round_34 : decode cX6_round 34 = .ok (.iaload, 1) := by decide +kernel
theorem dX6_round_35 : decode cX6_round 35 = .ok (.ifCond .le 14, 3) := by decide +kernel
theorem dX6_round_38 : decode cX6_round 38 = .ok (.aload_n 0, 1) := by decide +kernel
theorem dX6_round_39 : decode cX6_round 39 = .ok (.getfield 22, 3) := by decide +kernel
theorem dX6_round_42 : decode cX6_round 42 = .ok (.iload 4, 2) := by decide +kernel
theorem dX6_round_44 : decode cX6_round 44 = .ok (.iaload, 1) := by decide +kernel
theorem dX6_round_45 : decode cX6_round 45 = .ok (.i2l, 1) := by decide +kernel
theorem dX6_round_46 : decode cX6_round 46 = .ok (.goto 4, 3) := by decide +kernel
theorem dX6_round_49 : decode cX6_round 49 = .ok (.lconst 0, 1) := by decide +kernel
theorem dX6_round_50 : decode cX6_round 50 = .ok (.ladd, 1) := by decide +kernel
theorem dX6_round_51 : decode cX6_round 51 = .ok (.lstore_n 2, 1) := by decide +kernel
theorem dX6_round_52 : decode cX6_round 52 = .ok (.iinc 4 1, 3) := by decide +kernel
theorem dX6_round_55 : decode cX6_round 55 = .ok (.goto (-50), 3) := by decide +kernel
theorem dX6_round_58 : decode cX6_round 58 = .ok (.iconst 0, 1) := by decide +kernel
theorem dX6_round_59 : decode cX6_round 59 = .ok (.istore 4, 2) := by decide +kernel
theorem dX6_round_61 : decode cX6_round 61 = .ok (.iconst 0, 1) := by decide +kernel
theorem dX6_round_62 : decode cX6_round 62 = .ok (.istore 5, 2) := by decide +kernel
theorem dX6_round_64 : decode cX6_round 64 = .ok (.iload 5, 2) := by decide +kernel
theorem dX6_round_66 : decode cX6_round 66 = .ok (.aload_n 0, 1) := by decide +kernel
theorem dX6_round_67 : decode cX6_round 67 = .ok (.getfield 86, 3) := by decide +kernel
theorem dX6_round_70 : decode cX6_round 70 = .ok (.if_icmp .ge 78, 3) := by decide +kernel
theorem dX6_round_73 : decode cX6_round 73 = .ok (.aload_n 0, 1) := by decide +kernel
theorem dX6_round_74 : decode cX6_round 74 = .ok (.getfield 79, 3) := by decide +kernel
theorem dX6_round_77 : decode cX6_round 77 = .ok (.iload 5, 2) := by decide +kernel
theorem dX6_round_79 : decode cX6_round 79 = .ok (.iaload, 1) := by decide +kernel
theorem dX6_round_80 : decode cX6_round 80 = .ok (.ifCond .le 62, 3) := by decide +kernel
theorem dX6_round_83 : decode cX6_round 83 = .ok (.iload_n 1, 1) := by decide +kernel
theorem dX6_round_84 : decode cX6_round 84 = .ok (.i2l, 1) := by decide +kernel
theorem dX6_round_85 : decode cX6_round 85 = .ok (.aload_n 0, 1) := by decide +kernel
theorem dX6_round_86 : decode cX6_round 86 = .ok (.getfield 22, 3) := by decide +kernel
theorem dX6_round_89 : decode cX6_round 89 = .ok (.iload 5, 2) := by decide +kernel
theorem dX6_round_91 : decode cX6_round 91 = .ok (.iaload, 1) := by decide +kernel
theorem dX6_round_92 : decode cX6_round 92 = .ok (.i2l, 1) := by decide +kernel
theorem dX6_round_93 : decode cX6_round 93 = .ok (.lmul, 1) := by decide +kernel
theorem dX6_round_94 : decode cX6_round 94 = .ok (.lload_n 2, 1) := by decide +kernel
theorem dX6_round_95 : decode cX6_round 95 = .ok (.ldiv, 1) := by decide +kernel
theorem dX6_round_96 : decode cX6_round 96 = .ok (.lstore 6, 2) := by decide +kernel
theorem dX6_round_98 : decode cX6_round 98 = .ok (.lload 6, 2) := by decide +kernel
theorem dX6_round_100 : decode cX6_round 100 = .ok (.aload_n 0, 1) := by decide +kernel
theorem dX6_round_101 : decode cX6_round 101 = .ok (.getfield 79, 3) := by decide +kernel
theorem dX6_round_104 : decode cX6_round 104 = .ok (.iload 5, 2) := by decide +kernel
theorem dX6_round_106 : decode cX6_round 106 = .ok (.iaload, 1) := by decide +kernel
theorem dX6_round_107 : decode cX6_round 107 = .ok (.i2l, 1) := by decide +kernel
theorem dX6_round_108 : decode cX6_round 108 = .ok (.lcmp, 1) := by decide +kernel
theorem dX6_round_109 : decode cX6_round 109 = .ok (.ifCond .ge 9, 3) := by decide +kernel
theorem dX6_round_112 : decode cX6_round 112 = .ok (.lload 6, 2) := by decide +kernel
theorem dX6_round_114 : decode cX6_round 114 = .ok (.l2i, 1) := by decide +kernel
theorem dX6_round_115 : decode cX6_round 115 = .ok (.goto 10, 3) := by decide +kernel
theorem dX6_round_118 : decode cX6_round 118 = .ok (.aload_n 0, 1) := by decide +kernel
theorem dX6_round_119 : decode cX6_round 119 = .ok (.getfield 79, 3) := by decide +kernel
theorem dX6_round_122 : decode cX6_round 122 = .ok (.iload 5, 2) := by decide +kernel
theorem dX6_round_124 : decode cX6_round 124 = .ok (.iaload, 1) := by decide +kernel
theorem dX6_round_125 : decode cX6_round 125 = .ok (.istore 8, 2) := by decide +kernel
theorem dX6_round_127 : decode cX6_round 127 = .ok (.aload_n 0, 1) := by decide +kernel
theorem dX6_round_128 : decode cX6_round 128 = .ok (.iload 5, 2) := by decide +kernel
theorem dX6_round_130 : decode cX6_round 130 = .ok (.iload 8, 2) := by decide +kernel
theorem dX6_round_132 : decode cX6_round 132 = .ok (.invokevirtual 170, 3) := by decide +kernel
theorem dX6_round_135 : decode cX6_round 135 = .ok (.iload 4, 2) := by decide +kernel
theorem dX6_round_137 : decode cX6_round 137 = .ok (.iload 8, 2) := by decide +kernel
theorem dX6_round_139 : decode cX6_round 139 = .ok (.iadd, 1) := by decide +kernel
theorem dX6_round_140 : decode cX6_round 140 = .ok (.istore 4, 2) := by decide +kernel
theorem dX6_round_142 : decode cX6_round 142 = .ok (.iinc 5 1, 3) := by decide +kernel
theorem dX6_round_145 : decode cX6_round 145 = .ok (.goto (-81), 3) := by decide +kernel
theorem dX6_round_148 : decode cX6_round 148 = .ok (.iload 4, 2) := by decide +kernel
theorem dX6_round_150 : decode cX6_round 150 = .ok (.ireturn, 1) := by decide +kernel
theorem dX6_ones_0 : decode cX6_ones 0 = .ok (.iconst 0, 1) := by decide +kernel
theorem dX6_ones_1 : decode cX6_ones 1 = .ok (.istore_n 2, 1) := by decide +kernel
theorem dX6_ones_2 : decode cX6_ones 2 = .ok (.iconst 0, 1) := by decide +kernel
theorem dX6_ones_3 : decode cX6_ones 3 = .ok (.istore_n 3, 1) := by decide +kernel
theorem dX6_ones_4 : decode cX6_ones 4 = .ok (.iload_n 3, 1) := by decide +kernel
theorem dX6_ones_5 : decode cX6_ones 5 = .ok (.aload_n 0, 1) := by decide +kernel
theorem dX6_ones_6 : decode cX6_ones 6 = .ok (.getfield 86, 3) := by decide +kernel
theorem dX6_ones_9 : decode cX6_ones 9 = .ok (.if_icmp .ge 31, 3) := by decide +kernel
theorem dX6_ones_12 : decode cX6_ones 12 = .ok (.iload_n 2, 1) := by decide +kernel
theorem dX6_ones_13 : decode cX6_ones 13 = .ok (.iload_n 1, 1) := by decide +kernel
theorem dX6_ones_14 : decode cX6_ones 14 = .ok (.if_icmp .ge 20, 3) := by decide +kernel
theorem dX6_ones_17 : decode cX6_ones 17 = .ok (.aload_n 0, 1) := by decide +kernel
theorem dX6_ones_18 : decode cX6_ones 18 = .ok (.iload_n 3, 1) := by decide +kernel
theorem dX6_ones_19 : decode cX6_ones 19 = .ok (.invokevirtual 167, 3) := by decide +kernel
theorem dX6_ones_22 : decode cX6_ones 22 = .ok (.ifCond .le 12, 3) := by decide +kernel
theorem dX6_ones_25 : decode cX6_ones 25 = .ok (.aload_n 0, 1) := by decide +kernel
theorem dX6_ones_26 : decode cX6_ones 26 = .ok (.iload_n 3, 1) := by decide +kernel
theorem dX6_ones_27 : decode cX6_ones 27 = .ok (.iconst 1, 1) := by decide +kernel
theorem dX6_ones_28 : decode cX6_ones 28 = .ok (.invokevirtual 170, 3) := by decide +kernel
theorem dX6_ones_31 : decode cX6_ones 31 = .ok (.iinc 2 1, 3) := by decide +kernel
theorem dX6_ones_34 : decode cX6_ones 34 = .ok (.iinc 3 1, 3) := by decide +kernel
theorem dX6_ones_37 : decode cX6_ones 37 = .ok (.goto (-33), 3) := by decide +kernel
theorem dX6_ones_40 : decode cX6_ones 40 = .ok (.iload_n 2, 1) := by decide +kernel
theorem dX6_ones_41 : decode cX6_ones 41 = .ok (.ireturn, 1) := by decide +kernel
theorem dX6_chargeOverhead_0 : decode cX6_chargeOverhead 0 = .ok (.aload_n 0, 1) := by decide +kernel
theorem dX6_chargeOverhead_1 : decode cX6_chargeOverhead 1 = .ok (.iconst 0, 1) := by decide +kernel
theorem dX6_chargeOverhead_2 : decode cX6_chargeOverhead 2 = .ok (.putfield 82, 3) := by decide +kernel
theorem dX6_chargeOverhead_5 : decode cX6_chargeOverhead 5 = .ok (.iload_n 1, 1) := by decide +kernel
theorem dX6_chargeOverhead_6 : decode cX6_chargeOverhead 6 = .ok (.i2l, 1) := by decide +kernel
theorem dX6_chargeOverhead_7 : decode cX6_chargeOverhead 7 = .ok (.lconst 1, 1) := by decide +kernel
theorem dX6_chargeOverhead_8 : decode cX6_chargeOverhead 8 = .ok (.ldc2_w 103, 3) := by decide +kernel
theorem dX6_chargeOverhead_11 : decode cX6_chargeOverhead 11 = .ok (.invokestatic 89, 3) := by decide +kernel
theorem dX6_chargeOverhead_14 : decode cX6_chargeOverhead 14 = .ok (.ifCond .ne 9, 3) := by decide +kernel
theorem dX6_chargeOverhead_17 : decode cX6_chargeOverhead 17 = .ok (.aload_n 0, 1) := by decide +kernel
theorem dX6_chargeOverhead_18 : decode cX6_chargeOverhead 18 = .ok (.iconst 1, 1) := by decide +kernel
theorem dX6_chargeOverhead_19 : decode cX6_chargeOverhead 19 = .ok (.invokevirtual 111, 3) := by decide +kernel
theorem dX6_chargeOverhead_22 : decode cX6_chargeOverhead 22 = .ok (.ireturn, 1) := by decide +kernel
theorem dX6_chargeOverhead_23 : decode cX6_chargeOverhead 23 = .ok (.iload_n 1, 1) := by decide +kernel
theorem dX6_chargeOverhead_24 : decode cX6_chargeOverhead 24 = .ok (.istore_n 2, 1) := by decide +kernel
theorem dX6_chargeOverhead_25 : decode cX6_chargeOverhead 25 = .ok (.iconst 1, 1) := by decide +kernel
theorem dX6_chargeOverhead_26 : decode cX6_chargeOverhead 26 = .ok (.istore_n 3, 1) := by decide +kernel
theorem dX6_chargeOverhead_27 : decode cX6_chargeOverhead 27 = .ok (.iload_n 2, 1) := by decide +kernel
theorem dX6_chargeOverhead_28 : decode cX6_chargeOverhead 28 = .ok (.ifCond .le 34, 3) := by decide +kernel
theorem dX6_chargeOverhead_31 : decode cX6_chargeOverhead 31 = .ok (.iload_n 3, 1) := by decide +kernel
theorem dX6_chargeOverhead_32 : decode cX6_chargeOverhead 32 = .ok (.ifCond .le 30, 3) := by decide +kernel
theorem dX6_chargeOverhead_35 : decode cX6_chargeOverhead 35 = .ok (.aload_n 0, 1) := by decide +kernel
theorem dX6_chargeOverhead_36 : decode cX6_chargeOverhead 36 = .ok (.iload_n 2, 1) := by decide +kernel
theorem dX6_chargeOverhead_37 : decode cX6_chargeOverhead 37 = .ok (.invokevirtual 173, 3) := by decide +kernel
theorem dX6_chargeOverhead_40 : decode cX6_chargeOverhead 40 = .ok (.istore_n 3, 1) := by decide +kernel
theorem dX6_chargeOverhead_41 : decode cX6_chargeOverhead 41 = .ok (.iload_n 3, 1) := by decide +kernel
theorem dX6_chargeOverhead_42 : decode cX6_chargeOverhead 42 = .ok (.ifCond .le 7, 3) := by decide +kernel
theorem dX6_chargeOverhead_45 : decode cX6_chargeOverhead 45 = .ok (.iload_n 3, 1) := by decide +kernel
theorem dX6_chargeOverhead_46 : decode cX6_chargeOverhead 46 = .ok (.goto 8, 3) := by decide +kernel
theorem dX6_chargeOverhead_49 : decode cX6_chargeOverhead 49 = .ok (.aload_n 0, 1) := by decide +kernel
theorem dX6_chargeOverhead_50 : decode cX6_chargeOverhead 50 = .ok (.iload_n 2, 1) := by decide +kernel
theorem dX6_chargeOverhead_51 : decode cX6_chargeOverhead 51 = .ok (.invokevirtual 176, 3) := by decide +kernel
theorem dX6_chargeOverhead_54 : decode cX6_chargeOverhead 54 = .ok (.istore_n 3, 1) := by decide +kernel
theorem dX6_chargeOverhead_55 : decode cX6_chargeOverhead 55 = .ok (.iload_n 2, 1) := by decide +kernel
theorem dX6_chargeOverhead_56 : decode cX6_chargeOverhead 56 = .ok (.iload_n 3, 1) := by decide +kernel
theorem dX6_chargeOverhead_57 : decode cX6_chargeOverhead 57 = .ok (.isub, 1) := by decide +kernel
theorem dX6_chargeOverhead_58 : decode cX6_chargeOverhead 58 = .ok (.istore_n 2, 1) := by decide +kernel
theorem dX6_chargeOverhead_59 : decode cX6_chargeOverhead 59 = .ok (.goto (-32), 3) := by decide +kernel
theorem dX6_chargeOverhead_62 : decode cX6_chargeOverhead 62 = .ok (.iload_n 1, 1) := by decide +kernel
theorem dX6_chargeOverhead_63 : decode cX6_chargeOverhead 63 = .ok (.iload_n 2, 1) := by decide +kernel
theorem dX6_chargeOverhead_64 : decode cX6_chargeOverhead 64 = .ok (.isub, 1) := by decide +kernel
theorem dX6_chargeOverhead_65 : decode cX6_chargeOverhead 65 = .ok (.ireturn, 1) := by decide +kernel
theorem dX6_today_0 : decode cX6_today 0 = .ok (.aload_n 0, 1) := by decide +kernel
theorem dX6_today_1 : decode cX6_today 1 = .ok (.iconst 0, 1) := by decide +kernel
theorem dX6_today_2 : decode cX6_today 2 = .ok (.putfield 82, 3) := by decide +kernel
theorem dX6_today_5 : decode cX6_today 5 = .ok (.aload_n 0, 1) := by decide +kernel
theorem dX6_today_6 : decode cX6_today 6 = .ok (.getfield 121, 3) := by decide +kernel
theorem dX6_today_9 : decode cX6_today 9 = .ok (.ireturn, 1) := by decide +kernel
theorem dX6_funds_0 : decode cX6_funds 0 = .ok (.aload_n 0, 1) := by decide +kernel
theorem dX6_funds_1 : decode cX6_funds 1 = .ok (.iconst 0, 1) := by decide +kernel
theorem dX6_funds_2 : decode cX6_funds 2 = .ok (.putfield 82, 3) := by decide +kernel
theorem dX6_funds_5 : decode cX6_funds 5 = .ok (.aload_n 0, 1) := by decide +kernel
theorem dX6_funds_6 : decode cX6_funds 6 = .ok (.getfield 86, 3) := by decide +kernel
theorem dX6_funds_9 : decode cX6_funds 9 = .ok (.ireturn, 1) := by decide +kernel
theorem dX6_freeOf_0 : decode cX6_freeOf 0 = .ok (.aload_n 0, 1) := by decide +kernel
theorem dX6_freeOf_1 : decode cX6_freeOf 1 = .ok (.iload_n 1, 1) := by decide +kernel
theorem dX6_freeOf_2 : decode cX6_freeOf 2 = .ok (.invokevirtual 115, 3) := by decide +kernel
theorem dX6_freeOf_5 : decode cX6_freeOf 5 = .ok (.ifCond .eq 12, 3) := by decide +kernel
theorem dX6_freeOf_8 : decode cX6_freeOf 8 = .ok (.aload_n 0, 1) := by decide +kernel
theorem dX6_freeOf_9 : decode cX6_freeOf 9 = .ok (.getfield 7, 3) := by decide +kernel
theorem dX6_freeOf_12 : decode cX6_freeOf 12 = .ok (.iload_n 1, 1) := by decide +kernel
theorem dX6_freeOf_13 : decode cX6_freeOf 13 = .ok (.iaload, 1) := by decide +kernel
theorem dX6_freeOf_14 : decode cX6_freeOf 14 = .ok (.goto 4, 3) := by decide +kernel
theorem dX6_freeOf_17 : decode cX6_freeOf 17 = .ok (.iconst 0, 1) := by decide +kernel
theorem dX6_freeOf_18 : decode cX6_freeOf 18 = .ok (.ireturn, 1) := by decide +kernel
theorem dX6_committed_0 : decode cX6_committed 0 = .ok (.iconst 0, 1) := by decide +kernel
theorem dX6_committed_1 : decode cX6_committed 1 = .ok (.istore_n 2, 1) := by decide +kernel
theorem dX6_committed_2 : decode cX6_committed 2 = .ok (.iconst 0, 1) := by decide +kernel
theorem dX6_committed_3 : decode cX6_committed 3 = .ok (.istore_n 3, 1) := by decide +kernel
theorem dX6_committed_4 : decode cX6_committed 4 = .ok (.iload_n 3, 1) := by decide +kernel
theorem dX6_committed_5 : decode cX6_committed 5 = .ok (.aload_n 0, 1) := by decide +kernel
theorem dX6_committed_6 : decode cX6_committed 6 = .ok (.getfield 93, 3) := by decide +kernel
theorem dX6_committed_9 : decode cX6_committed 9 = .ok (.if_icmp .ge 32, 3) := by decide +kernel
theorem dX6_committed_12 : decode cX6_committed 12 = .ok (.iload_n 2, 1) := by decide +kernel
theorem dX6_committed_13 : decode cX6_committed 13 = .ok (.aload_n 0, 1) := by decide +kernel
theorem dX6_committed_14 : decode cX6_committed 14 = .ok (.getfield 28, 3) := by decide +kernel
theorem dX6_committed_17 : decode cX6_committed 17 = .ok (.iload_n 3, 1) := by decide +kernel
theorem dX6_committed_18 : decode cX6_committed 18 = .ok (.iaload, 1) := by decide +kernel
theorem dX6_committed_19 : decode cX6_committed 19 = .ok (.iload_n 1, 1) := by decide +kernel
theorem dX6_committed_20 : decode cX6_committed 20 = .ok (.if_icmp .ne 12, 3) := by decide +kernel
theorem dX6_committed_23 : decode cX6_committed 23 = .ok (.aload_n 0, 1) := by decide +kernel
theorem dX6_committed_24 : decode cX6_committed 24 = .ok (.getfield 34, 3) := by decide +kernel
theorem dX6_committed_27 : decode cX6_committed 27 = .ok (.iload_n 3, 1) := by decide +kernel
theorem dX6_committed_28 : decode cX6_committed 28 = .ok (.iaload, 1) := by decide +kernel
theorem dX6_committed_29 : decode cX6_committed 29 = .ok (.goto 4, 3) := by decide +kernel
theorem dX6_committed_32 : decode cX6_committed 32 = .ok (.iconst 0, 1) := by decide +kernel
theorem dX6_committed_33 : decode cX6_committed 33 = .ok (.iadd, 1) := by decide +kernel
theorem dX6_committed_34 : decode cX6_committed 34 = .ok (.istore_n 2, 1) := by decide +kernel
theorem dX6_committed_35 : decode cX6_committed 35 = .ok (.iinc 3 1, 3) := by decide +kernel
theorem dX6_committed_38 : decode cX6_committed 38 = .ok (.goto (-34), 3) := by decide +kernel
theorem dX6_committed_41 : decode cX6_committed 41 = .ok (.iload_n 2, 1) := by decide +kernel
theorem dX6_committed_42 : decode cX6_committed 42 = .ok (.ireturn, 1) := by decide +kernel
theorem dX6_committedOf_0 : decode cX6_committedOf 0 = .ok (.aload_n 0, 1) := by decide +kernel
theorem dX6_committedOf_1 : decode cX6_committedOf 1 = .ok (.iload_n 1, 1) := by decide +kernel
theorem dX6_committedOf_2 : decode cX6_committedOf 2 = .ok (.invokevirtual 115, 3) := by decide +kernel
theorem dX6_committedOf_5 : decode cX6_committedOf 5 = .ok (.ifCond .eq 11, 3) := by decide +kernel
theorem dX6_committedOf_8 : decode cX6_committedOf 8 = .ok (.aload_n 0, 1) := by decide +kernel
theorem dX6_committedOf_9 : decode cX6_committedOf 9 = .ok (.iload_n 1, 1) := by decide +kernel
theorem dX6_committedOf_10 : decode cX6_committedOf 10 = .ok (.invokevirtual 179, 3) := by decide +kernel
theorem dX6_committedOf_13 : decode cX6_committedOf 13 = .ok (.goto 4, 3) := by decide +kernel
theorem dX6_committedOf_16 : decode cX6_committedOf 16 = .ok (.iconst 0, 1) := by decide +kernel
theorem dX6_committedOf_17 : decode cX6_committedOf 17 = .ok (.ireturn, 1) := by decide +kernel
theorem dX6_directOf_0 : decode cX6_directOf 0 = .ok (.aload_n 0, 1) := by decide +kernel
theorem dX6_directOf_1 : decode cX6_directOf 1 = .ok (.iload_n 1, 1) := by decide +kernel
theorem dX6_directOf_2 : decode cX6_directOf 2 = .ok (.invokevirtual 115, 3) := by decide +kernel
theorem dX6_directOf_5 : decode cX6_directOf 5 = .ok (.ifCond .eq 12, 3) := by decide +kernel
theorem dX6_directOf_8 : decode cX6_directOf 8 = .ok (.aload_n 0, 1) := by decide +kernel
theorem dX6_directOf_9 : decode cX6_directOf 9 = .ok (.getfield 22, 3) := by decide +kernel
theorem dX6_directOf_12 : decode cX6_directOf 12 = .ok (.iload_n 1, 1) := by decide +kernel
theorem dX6_directOf_13 : decode cX6_directOf 13 = .ok (.iaload, 1) := by decide +kernel
theorem dX6_directOf_14 : decode cX6_directOf 14 = .ok (.goto 4, 3) := by decide +kernel
theorem dX6_directOf_17 : decode cX6_directOf 17 = .ok (.iconst 0, 1) := by decide +kernel
theorem dX6_directOf_18 : decode cX6_directOf 18 = .ok (.ireturn, 1) := by decide +kernel
theorem dX6_overheadOf_0 : decode cX6_overheadOf 0 = .ok (.aload_n 0, 1) := by decide +kernel
theorem dX6_overheadOf_1 : decode cX6_overheadOf 1 = .ok (.iload_n 1, 1) := by decide +kernel
theorem dX6_overheadOf_2 : decode cX6_overheadOf 2 = .ok (.invokevirtual 115, 3) := by decide +kernel
theorem dX6_overheadOf_5 : decode cX6_overheadOf 5 = .ok (.ifCond .eq 12, 3) := by decide +kernel
theorem dX6_overheadOf_8 : decode cX6_overheadOf 8 = .ok (.aload_n 0, 1) := by decide +kernel
theorem dX6_overheadOf_9 : decode cX6_overheadOf 9 = .ok (.getfield 25, 3) := by decide +kernel
theorem dX6_overheadOf_12 : decode cX6_overheadOf 12 = .ok (.iload_n 1, 1) := by decide +kernel
theorem dX6_overheadOf_13 : decode cX6_overheadOf 13 = .ok (.iaload, 1) := by decide +kernel
theorem dX6_overheadOf_14 : decode cX6_overheadOf 14 = .ok (.goto 4, 3) := by decide +kernel
theorem dX6_overheadOf_17 : decode cX6_overheadOf 17 = .ok (.iconst 0, 1) := by decide +kernel
theorem dX6_overheadOf_18 : decode cX6_overheadOf 18 = .ok (.ireturn, 1) := by decide +kernel
theorem dX6_roomOf_0 : decode cX6_roomOf 0 = .ok (.aload_n 0, 1) := by decide +kernel
theorem dX6_roomOf_1 : decode cX6_roomOf 1 = .ok (.iload_n 1, 1) := by decide +kernel
theorem dX6_roomOf_2 : decode cX6_roomOf 2 = .ok (.invokevirtual 115, 3) := by decide +kernel
theorem dX6_roomOf_5 : decode cX6_roomOf 5 = .ok (.ifCond .eq 11, 3) := by decide +kernel
theorem dX6_roomOf_8 : decode cX6_roomOf 8 = .ok (.aload_n 0, 1) := by decide +kernel
theorem dX6_roomOf_9 : decode cX6_roomOf 9 = .ok (.iload_n 1, 1) := by decide +kernel
theorem dX6_roomOf_10 : decode cX6_roomOf 10 = .ok (.invokevirtual 167, 3) := by decide +kernel
theorem dX6_roomOf_13 : decode cX6_roomOf 13 = .ok (.goto 4, 3) := by decide +kernel
theorem dX6_roomOf_16 : decode cX6_roomOf 16 = .ok (.iconst 0, 1) := by decide +kernel
theorem dX6_roomOf_17 : decode cX6_roomOf 17 = .ok (.ireturn, 1) := by decide +kernel
theorem dX6_commitments_0 : decode cX6_commitments 0 = .ok (.aload_n 0, 1) := by decide +kernel
theorem dX6_commitments_1 : decode cX6_commitments 1 = .ok (.iconst 0, 1) := by decide +kernel
theorem dX6_commitments_2 : decode cX6_commitments 2 = .ok (.putfield 82, 3) := by decide +kernel
theorem dX6_commitments_5 : decode cX6_commitments 5 = .ok (.aload_n 0, 1) := by decide +kernel
theorem dX6_commitments_6 : decode cX6_commitments 6 = .ok (.getfield 93, 3) := by decide +kernel
theorem dX6_commitments_9 : decode cX6_commitments 9 = .ok (.ireturn, 1) := by decide +kernel
theorem dX6_fundOf_0 : decode cX6_fundOf 0 = .ok (.aload_n 0, 1) := by decide +kernel
theorem dX6_fundOf_1 : decode cX6_fundOf 1 = .ok (.iload_n 1, 1) := by decide +kernel
theorem dX6_fundOf_2 : decode cX6_fundOf 2 = .ok (.invokevirtual 124, 3) := by decide +kernel
theorem dX6_fundOf_5 : decode cX6_fundOf 5 = .ok (.ifCond .eq 12, 3) := by decide +kernel
theorem dX6_fundOf_8 : decode cX6_fundOf 8 = .ok (.aload_n 0, 1) := by decide +kernel
theorem dX6_fundOf_9 : decode cX6_fundOf 9 = .ok (.getfield 28, 3) := by decide +kernel
theorem dX6_fundOf_12 : decode cX6_fundOf 12 = .ok (.iload_n 1, 1) := by decide +kernel
theorem dX6_fundOf_13 : decode cX6_fundOf 13 = .ok (.iaload, 1) := by decide +kernel
theorem dX6_fundOf_14 : decode cX6_fundOf 14 = .ok (.goto 4, 3) := by decide +kernel
theorem dX6_fundOf_17 : decode cX6_fundOf 17 = .ok (.iconst 0, 1) := by decide +kernel
theorem dX6_fundOf_18 : decode cX6_fundOf 18 = .ok (.ireturn, 1) := by decide +kernel
theorem dX6_leftOf_0 : decode cX6_leftOf 0 = .ok (.aload_n 0, 1) := by decide +kernel
theorem dX6_leftOf_1 : decode cX6_leftOf 1 = .ok (.iload_n 1, 1) := by decide +kernel
theorem dX6_leftOf_2 : decode cX6_leftOf 2 = .ok (.invokevirtual 124, 3) := by decide +kernel
theorem dX6_leftOf_5 : decode cX6_leftOf 5 = .ok (.ifCond .eq 12, 3) := by decide +kernel
theorem dX6_leftOf_8 : decode cX6_leftOf 8 = .ok (.aload_n 0, 1) := by decide +kernel
theorem dX6_leftOf_9 : decode cX6_leftOf 9 = .ok (.getfield 34, 3) := by decide +kernel
theorem dX6_leftOf_12 : decode cX6_leftOf 12 = .ok (.iload_n 1, 1) := by decide +kernel
theorem dX6_leftOf_13 : decode cX6_leftOf 13 = .ok (.iaload, 1) := by decide +kernel
theorem dX6_leftOf_14 : decode cX6_leftOf 14 = .ok (.goto 4, 3) := by decide +kernel
theorem dX6_leftOf_17 : decode cX6_leftOf 17 = .ok (.iconst 0, 1) := by decide +kernel
theorem dX6_leftOf_18 : decode cX6_leftOf 18 = .ok (.ireturn, 1) := by decide +kernel
theorem dX6_untilOf_0 : decode cX6_untilOf 0 = .ok (.aload_n 0, 1) := by decide +kernel
theorem dX6_untilOf_1 : decode cX6_untilOf 1 = .ok (.iload_n 1, 1) := by decide +kernel
theorem dX6_untilOf_2 : decode cX6_untilOf 2 = .ok (.invokevirtual 124, 3) := by decide +kernel
theorem dX6_untilOf_5 : decode cX6_untilOf 5 = .ok (.ifCond .eq 12, 3) := by decide +kernel
theorem dX6_untilOf_8 : decode cX6_untilOf 8 = .ok (.aload_n 0, 1) := by decide +kernel
theorem dX6_untilOf_9 : decode cX6_untilOf 9 = .ok (.getfield 37, 3) := by decide +kernel
theorem dX6_untilOf_12 : decode cX6_untilOf 12 = .ok (.iload_n 1, 1) := by decide +kernel
theorem dX6_untilOf_13 : decode cX6_untilOf 13 = .ok (.iaload, 1) := by decide +kernel
theorem dX6_untilOf_14 : decode cX6_untilOf 14 = .ok (.goto 4, 3) := by decide +kernel
theorem dX6_untilOf_17 : decode cX6_untilOf 17 = .ok (.iconst 0, 1) := by decide +kernel
theorem dX6_untilOf_18 : decode cX6_untilOf 18 = .ok (.ireturn, 1) := by decide +kernel
theorem dX6_costs_0 : decode cX6_costs 0 = .ok (.aload_n 0, 1) := by decide +kernel
theorem dX6_costs_1 : decode cX6_costs 1 = .ok (.iconst 0, 1) := by decide +kernel
theorem dX6_costs_2 : decode cX6_costs 2 = .ok (.putfield 82, 3) := by decide +kernel
theorem dX6_costs_5 : decode cX6_costs 5 = .ok (.aload_n 0, 1) := by decide +kernel
theorem dX6_costs_6 : decode cX6_costs 6 = .ok (.getfield 96, 3) := by decide +kernel
theorem dX6_costs_9 : decode cX6_costs 9 = .ok (.ireturn, 1) := by decide +kernel
theorem dX6_unpaidOf_0 : decode cX6_unpaidOf 0 = .ok (.aload_n 0, 1) := by decide +kernel
theorem dX6_unpaidOf_1 : decode cX6_unpaidOf 1 = .ok (.iload_n 1, 1) := by decide +kernel
theorem dX6_unpaidOf_2 : decode cX6_unpaidOf 2 = .ok (.invokevirtual 182, 3) := by decide +kernel
theorem dX6_unpaidOf_5 : decode cX6_unpaidOf 5 = .ok (.ifCond .eq 12, 3) := by decide +kernel
theorem dX6_unpaidOf_8 : decode cX6_unpaidOf 8 = .ok (.aload_n 0, 1) := by decide +kernel
theorem dX6_unpaidOf_9 : decode cX6_unpaidOf 9 = .ok (.getfield 46, 3) := by decide +kernel
theorem dX6_unpaidOf_12 : decode cX6_unpaidOf 12 = .ok (.iload_n 1, 1) := by decide +kernel
theorem dX6_unpaidOf_13 : decode cX6_unpaidOf 13 = .ok (.iaload, 1) := by decide +kernel
theorem dX6_unpaidOf_14 : decode cX6_unpaidOf 14 = .ok (.goto 4, 3) := by decide +kernel
theorem dX6_unpaidOf_17 : decode cX6_unpaidOf 17 = .ok (.iconst 0, 1) := by decide +kernel
theorem dX6_unpaidOf_18 : decode cX6_unpaidOf 18 = .ok (.ireturn, 1) := by decide +kernel
theorem dX6_paidBy_0 : decode cX6_paidBy 0 = .ok (.aload_n 0, 1) := by decide +kernel
theorem dX6_paidBy_1 : decode cX6_paidBy 1 = .ok (.iload_n 1, 1) := by decide +kernel
theorem dX6_paidBy_2 : decode cX6_paidBy 2 = .ok (.i2l, 1) := by decide +kernel
theorem dX6_paidBy_3 : decode cX6_paidBy 3 = .ok (.lconst 0, 1) := by decide +kernel
theorem dX6_paidBy_4 : decode cX6_paidBy 4 = .ok (.aload_n 0, 1) := by decide +kernel
theorem dX6_paidBy_5 : decode cX6_paidBy 5 = .ok (.getfield 96, 3) := by decide +kernel
theorem dX6_paidBy_8 : decode cX6_paidBy 8 = .ok (.iconst 1, 1) := by decide +kernel
theorem dX6_paidBy_9 : decode cX6_paidBy 9 = .ok (.isub, 1) := by decide +kernel
theorem dX6_paidBy_10 : decode cX6_paidBy 10 = .ok (.i2l, 1) := by decide +kernel
theorem dX6_paidBy_11 : decode cX6_paidBy 11 = .ok (.invokestatic 89, 3) := by decide +kernel
theorem dX6_paidBy_14 : decode cX6_paidBy 14 = .ok (.ifCond .eq 23, 3) := by decide +kernel
theorem dX6_paidBy_17 : decode cX6_paidBy 17 = .ok (.iload_n 2, 1) := by decide +kernel
theorem dX6_paidBy_18 : decode cX6_paidBy 18 = .ok (.i2l, 1) := by decide +kernel
theorem dX6_paidBy_19 : decode cX6_paidBy 19 = .ok (.lconst 0, 1) := by decide +kernel
theorem dX6_paidBy_20 : decode cX6_paidBy 20 = .ok (.aload_n 0, 1) := by decide +kernel
theorem dX6_paidBy_21 : decode cX6_paidBy 21 = .ok (.getfield 86, 3) := by decide +kernel
theorem dX6_paidBy_24 : decode cX6_paidBy 24 = .ok (.iconst 1, 1) := by decide +kernel
theorem dX6_paidBy_25 : decode cX6_paidBy 25 = .ok (.isub, 1) := by decide +kernel
theorem dX6_paidBy_26 : decode cX6_paidBy 26 = .ok (.i2l, 1) := by decide +kernel
theorem dX6_paidBy_27 : decode cX6_paidBy 27 = .ok (.invokestatic 89, 3) := by decide +kernel
theorem dX6_paidBy_30 : decode cX6_paidBy 30 = .ok (.ifCond .eq 7, 3) := by decide +kernel
theorem dX6_paidBy_33 : decode cX6_paidBy 33 = .ok (.iconst 0, 1) := by decide +kernel
theorem dX6_paidBy_34 : decode cX6_paidBy 34 = .ok (.goto 4, 3) := by decide +kernel
theorem dX6_paidBy_37 : decode cX6_paidBy 37 = .ok (.iconst 1, 1) := by decide +kernel
theorem dX6_paidBy_38 : decode cX6_paidBy 38 = .ok (.putfield 82, 3) := by decide +kernel
theorem dX6_paidBy_41 : decode cX6_paidBy 41 = .ok (.aload_n 0, 1) := by decide +kernel
theorem dX6_paidBy_42 : decode cX6_paidBy 42 = .ok (.getfield 82, 3) := by decide +kernel
theorem dX6_paidBy_45 : decode cX6_paidBy 45 = .ok (.ifCond .ne 17, 3) := by decide +kernel
theorem dX6_paidBy_48 : decode cX6_paidBy 48 = .ok (.aload_n 0, 1) := by decide +kernel
theorem dX6_paidBy_49 : decode cX6_paidBy 49 = .ok (.getfield 49, 3) := by decide +kernel
theorem dX6_paidBy_52 : decode cX6_paidBy 52 = .ok (.bipush 6, 2) := by decide +kernel
theorem dX6_paidBy_54 : decode cX6_paidBy 54 = .ok (.iload_n 1, 1) := by decide +kernel
theorem dX6_paidBy_55 : decode cX6_paidBy 55 = .ok (.imul, 1) := by decide +kernel
theorem dX6_paidBy_56 : decode cX6_paidBy 56 = .ok (.iload_n 2, 1) := by decide +kernel
theorem dX6_paidBy_57 : decode cX6_paidBy 57 = .ok (.iadd, 1) := by decide +kernel
theorem dX6_paidBy_58 : decode cX6_paidBy 58 = .ok (.iaload, 1) := by decide +kernel
theorem dX6_paidBy_59 : decode cX6_paidBy 59 = .ok (.goto 4, 3) := by decide +kernel
theorem dX6_paidBy_62 : decode cX6_paidBy 62 = .ok (.iconst 0, 1) := by decide +kernel
theorem dX6_paidBy_63 : decode cX6_paidBy 63 = .ok (.ireturn, 1) := by decide +kernel
theorem dX6_payable_0 : decode cX6_payable 0 = .ok (.aload_n 0, 1) := by decide +kernel
theorem dX6_payable_1 : decode cX6_payable 1 = .ok (.iconst 0, 1) := by decide +kernel
theorem dX6_payable_2 : decode cX6_payable 2 = .ok (.putfield 82, 3) := by decide +kernel
theorem dX6_payable_5 : decode cX6_payable 5 = .ok (.aload_n 0, 1) := by decide +kernel
theorem dX6_payable_6 : decode cX6_payable 6 = .ok (.invokevirtual 150, 3) := by decide +kernel
theorem dX6_payable_9 : decode cX6_payable 9 = .ok (.aload_n 0, 1) := by decide +kernel
theorem dX6_payable_10 : decode cX6_payable 10 = .ok (.aload_n 0, 1) := by decide +kernel
theorem dX6_payable_11 : decode cX6_payable 11 = .ok (.getfield 58, 3) := by decide +kernel
theorem dX6_payable_14 : decode cX6_payable 14 = .ok (.invokevirtual 153, 3) := by decide +kernel
theorem dX6_payable_17 : decode cX6_payable 17 = .ok (.aload_n 0, 1) := by decide +kernel
theorem dX6_payable_18 : decode cX6_payable 18 = .ok (.aload_n 0, 1) := by decide +kernel
theorem dX6_payable_19 : decode cX6_payable 19 = .ok (.getfield 131, 3) := by decide +kernel
theorem dX6_payable_22 : decode cX6_payable 22 = .ok (.aload_n 0, 1) := by decide +kernel
theorem dX6_payable_23 : decode cX6_payable 23 = .ok (.getfield 96, 3) := by decide +kernel
theorem dX6_payable_26 : decode cX6_payable 26 = .ok (.aload_n 0, 1) := by decide +kernel
theorem dX6_payable_27 : decode cX6_payable 27 = .ok (.getfield 46, 3) := by decide +kernel
theorem dX6_payable_30 : decode cX6_payable 30 = .ok (.invokevirtual 157, 3) := by decide +kernel
theorem dX6_payable_33 : decode cX6_payable 33 = .ok (.ireturn, 1) := by decide +kernel
theorem dX6_wouldPay_0 : decode cX6_wouldPay 0 = .ok (.aload_n 0, 1) := by decide +kernel
theorem dX6_wouldPay_1 : decode cX6_wouldPay 1 = .ok (.iload_n 1, 1) := by decide +kernel
theorem dX6_wouldPay_2 : decode cX6_wouldPay 2 = .ok (.invokevirtual 182, 3) := by decide +kernel
theorem dX6_wouldPay_5 : decode cX6_wouldPay 5 = .ok (.ifCond .ne 5, 3) := by decide +kernel
theorem dX6_wouldPay_8 : decode cX6_wouldPay 8 = .ok (.iconst 0, 1) := by decide +kernel
theorem dX6_wouldPay_9 : decode cX6_wouldPay 9 = .ok (.ireturn, 1) := by decide +kernel
theorem dX6_wouldPay_10 : decode cX6_wouldPay 10 = .ok (.aload_n 0, 1) := by decide +kernel
theorem dX6_wouldPay_11 : decode cX6_wouldPay 11 = .ok (.invokevirtual 161, 3) := by decide +kernel
theorem dX6_wouldPay_14 : decode cX6_wouldPay 14 = .ok (.aload_n 0, 1) := by decide +kernel
theorem dX6_wouldPay_15 : decode cX6_wouldPay 15 = .ok (.getfield 64, 3) := by decide +kernel
theorem dX6_wouldPay_18 : decode cX6_wouldPay 18 = .ok (.iload_n 1, 1) := by decide +kernel
theorem dX6_wouldPay_19 : decode cX6_wouldPay 19 = .ok (.iaload, 1) := by decide +kernel
theorem dX6_wouldPay_20 : decode cX6_wouldPay 20 = .ok (.ireturn, 1) := by decide +kernel
theorem dX6_wouldTake_0 : decode cX6_wouldTake 0 = .ok (.iconst 0, 1) := by decide +kernel
theorem dX6_wouldTake_1 : decode cX6_wouldTake 1 = .ok (.istore_n 2, 1) := by decide +kernel
theorem dX6_wouldTake_2 : decode cX6_wouldTake 2 = .ok (.aload_n 0, 1) := by decide +kernel
theorem dX6_wouldTake_3 : decode cX6_wouldTake 3 = .ok (.iload_n 1, 1) := by decide +kernel
theorem dX6_wouldTake_4 : decode cX6_wouldTake 4 = .ok (.invokevirtual 115, 3) := by decide +kernel
theorem dX6_wouldTake_7 : decode cX6_wouldTake 7 = .ok (.ifCond .eq 46, 3) := by decide +kernel
theorem dX6_wouldTake_10 : decode cX6_wouldTake 10 = .ok (.aload_n 0, 1) := by decide +kernel
theorem dX6_wouldTake_11 : decode cX6_wouldTake 11 = .ok (.invokevirtual 161, 3) := by decide +kernel
theorem dX6_wouldTake_14 : decode cX6_wouldTake 14 = .ok (.iconst 0, 1) := by decide +kernel
theorem dX6_wouldTake_15 : decode cX6_wouldTake 15 = .ok (.istore_n 3, 1) := by decide +kernel
theorem dX6_wouldTake_16 : decode cX6_wouldTake 16 = .ok (.iload_n 3, 1) := by decide +kernel
theorem dX6_wouldTake_17 : decode cX6_wouldTake 17 = .ok (.aload_n 0, 1) := by decide +kernel
theorem dX6_wouldTake_18 : decode cX6_wouldTake 18 = .ok (.getfield 131, 3) := by decide +kernel
theorem dX6_wouldTake_21 : decode cX6_wouldTake 21 = .ok (.if_icmp .ge 32, 3) := by decide +kernel
theorem dX6_wouldTake_24 : decode cX6_wouldTake 24 = .ok (.iload_n 2, 1) := by decide +kernel
theorem dX6_wouldTake_25 : decode cX6_wouldTake 25 = .ok (.aload_n 0, 1) := by decide +kernel
theorem dX6_wouldTake_26 : decode cX6_wouldTake 26 = .ok (.getfield 52, 3) := by decide +kernel
theorem dX6_wouldTake_29 : decode cX6_wouldTake 29 = .ok (.iload_n 3, 1) := by decide +kernel
theorem dX6_wouldTake_30 : decode cX6_wouldTake 30 = .ok (.iaload, 1) := by decide +kernel
theorem dX6_wouldTake_31 : decode cX6_wouldTake 31 = .ok (.iload_n 1, 1) := by decide +kernel
theorem dX6_wouldTake_32 : decode cX6_wouldTake 32 = .ok (.if_icmp .ne 12, 3) := by decide +kernel
theorem dX6_wouldTake_35 : decode cX6_wouldTake 35 = .ok (.aload_n 0, 1) := by decide +kernel
theorem dX6_wouldTake_36 : decode cX6_wouldTake 36 = .ok (.getfield 67, 3) := by decide +kernel
theorem dX6_wouldTake_39 : decode cX6_wouldTake 39 = .ok (.iload_n 3, 1) := by decide +kernel
theorem dX6_wouldTake_40 : decode cX6_wouldTake 40 = .ok (.iaload, 1) := by decide +kernel
theorem dX6_wouldTake_41 : decode cX6_wouldTake 41 = .ok (.goto 4, 3) := by decide +kernel
theorem dX6_wouldTake_44 : decode cX6_wouldTake 44 = .ok (.iconst 0, 1) := by decide +kernel
theorem dX6_wouldTake_45 : decode cX6_wouldTake 45 = .ok (.iadd, 1) := by decide +kernel
theorem dX6_wouldTake_46 : decode cX6_wouldTake 46 = .ok (.istore_n 2, 1) := by decide +kernel
theorem dX6_wouldTake_47 : decode cX6_wouldTake 47 = .ok (.iinc 3 1, 3) := by decide +kernel
theorem dX6_wouldTake_50 : decode cX6_wouldTake 50 = .ok (.goto (-34), 3) := by decide +kernel
theorem dX6_wouldTake_53 : decode cX6_wouldTake 53 = .ok (.iload_n 2, 1) := by decide +kernel
theorem dX6_wouldTake_54 : decode cX6_wouldTake 54 = .ok (.ireturn, 1) := by decide +kernel
theorem dX6_reason_0 : decode cX6_reason 0 = .ok (.aload_n 0, 1) := by decide +kernel
theorem dX6_reason_1 : decode cX6_reason 1 = .ok (.iload_n 1, 1) := by decide +kernel
theorem dX6_reason_2 : decode cX6_reason 2 = .ok (.invokevirtual 182, 3) := by decide +kernel
theorem dX6_reason_5 : decode cX6_reason 5 = .ok (.ifCond .ne 5, 3) := by decide +kernel
theorem dX6_reason_8 : decode cX6_reason 8 = .ok (.iconst 0, 1) := by decide +kernel
theorem dX6_reason_9 : decode cX6_reason 9 = .ok (.ireturn, 1) := by decide +kernel
theorem dX6_reason_10 : decode cX6_reason 10 = .ok (.iconst 0, 1) := by decide +kernel
theorem dX6_reason_11 : decode cX6_reason 11 = .ok (.istore_n 2, 1) := by decide +kernel
theorem dX6_reason_12 : decode cX6_reason 12 = .ok (.iconst 0, 1) := by decide +kernel
theorem dX6_reason_13 : decode cX6_reason 13 = .ok (.istore_n 3, 1) := by decide +kernel
theorem dX6_reason_14 : decode cX6_reason 14 = .ok (.iconst 0, 1) := by decide +kernel
theorem dX6_reason_15 : decode cX6_reason 15 = .ok (.istore 4, 2) := by decide +kernel
theorem dX6_reason_17 : decode cX6_reason 17 = .ok (.iconst 0, 1) := by decide +kernel
theorem dX6_reason_18 : decode cX6_reason 18 = .ok (.istore 5, 2) := by decide +kernel
theorem dX6_reason_20 : decode cX6_reason 20 = .ok (.aload_n 0, 1) := by decide +kernel
theorem dX6_reason_21 : decode cX6_reason 21 = .ok (.invokevirtual 150, 3) := by decide +kernel
theorem dX6_reason_24 : decode cX6_reason 24 = .ok (.iconst 0, 1) := by decide +kernel
theorem dX6_reason_25 : decode cX6_reason 25 = .ok (.istore 6, 2) := by decide +kernel
theorem dX6_reason_27 : decode cX6_reason 27 = .ok (.iload 6, 2) := by decide +kernel
theorem dX6_reason_29 : decode cX6_reason 29 = .ok (.aload_n 0, 1) := by decide +kernel
theorem dX6_reason_30 : decode cX6_reason 30 = .ok (.getfield 86, 3) := by decide +kernel
theorem dX6_reason_33 : decode cX6_reason 33 = .ok (.if_icmp .ge 85, 3) := by decide +kernel
theorem dX6_reason_36 : decode cX6_reason 36 = .ok (.iload_n 2, 1) := by decide +kernel
theorem dX6_reason_37 : decode cX6_reason 37 = .ok (.ifCond .ne 18, 3) := by decide +kernel
theorem dX6_reason_40 : decode cX6_reason 40 = .ok (.aload_n 0, 1) := by decide +kernel
theorem dX6_reason_41 : decode cX6_reason 41 = .ok (.iload 6, 2) := by decide +kernel
theorem dX6_reason_43 : decode cX6_reason 43 = .ok (.aload_n 0, 1) := by decide +kernel
theorem dX6_reason_44 : decode cX6_reason 44 = .ok (.getfield 40, 3) := by decide +kernel
theorem dX6_reason_47 : decode cX6_reason 47 = .ok (.iload_n 1, 1) := by decide +kernel
theorem dX6_reason_48 : decode cX6_reason 48 = .ok (.iaload, 1) := by decide +kernel
theorem dX6_reason_49 : decode cX6_reason 49 = .ok (.invokevirtual 99, 3) := by decide +kernel
theorem dX6_reason_52 : decode cX6_reason 52 = .ok (.ifCond .eq 7, 3) := by decide +kernel
theorem dX6_reason_55 : decode cX6_reason 55 = .ok (.iconst 1, 1) := by decide +kernel
theorem dX6_reason_56 : decode cX6_reason 56 = .ok (.goto 4, 3) := by decide +kernel
theorem dX6_reason_59 : decode cX6_reason 59 = .ok (.iconst 0, 1) := by decide +kernel
theorem dX6_reason_60 : decode cX6_reason 60 = .ok (.istore_n 2, 1) := by decide +kernel
theorem dX6_reason_61 : decode cX6_reason 61 = .ok (.iload_n 3, 1) := by decide +kernel
theorem dX6_reason_62 : decode cX6_reason 62 = .ok (.ifCond .ne 13, 3) := by decide +kernel
theorem dX6_reason_65 : decode cX6_reason 65 = .ok (.aload_n 0, 1) := by decide +kernel
theorem dX6_reason_66 : decode cX6_reason 66 = .ok (.iload 6, 2) := by decide +kernel
theorem dX6_reason_68 : decode cX6_reason 68 = .ok (.iload_n 1, 1) := by decide +kernel
theorem dX6_reason_69 : decode cX6_reason 69 = .ok (.invokevirtual 142, 3) := by decide +kernel
theorem dX6_reason_72 : decode cX6_reason 72 = .ok (.ifCond .eq 7, 3) := by decide +kernel
theorem dX6_reason_75 : decode cX6_reason 75 = .ok (.iconst 1, 1) := by decide +kernel
theorem dX6_reason_76 : decode cX6_reason 76 = .ok (.goto 4, 3) := by decide +kernel
theorem dX6_reason_79 : decode cX6_reason 79 = .ok (.iconst 0, 1) := by decide +kernel
theorem dX6_reason_80 : decode cX6_reason 80 = .ok (.istore_n 3, 1) := by decide +kernel
theorem dX6_reason_81 : decode cX6_reason 81 = .ok (.iload 5, 2) := by decide +kernel
theorem dX6_reason_83 : decode cX6_reason 83 = .ok (.ifCond .ne 22, 3) := by decide +kernel
theorem dX6_reason_86 : decode cX6_reason 86 = .ok (.aload_n 0, 1) := by decide +kernel
theorem dX6_reason_87 : decode cX6_reason 87 = .ok (.iload 6, 2) := by decide +kernel
theorem dX6_reason_89 : decode cX6_reason 89 = .ok (.iload_n 1, 1) := by decide +kernel
theorem dX6_reason_90 : decode cX6_reason 90 = .ok (.invokevirtual 142, 3) := by decide +kernel
theorem dX6_reason_93 : decode cX6_reason 93 = .ok (.ifCond .eq 16, 3) := by decide +kernel
theorem dX6_reason_96 : decode cX6_reason 96 = .ok (.aload_n 0, 1) := by decide +kernel
theorem dX6_reason_97 : decode cX6_reason 97 = .ok (.iload 6, 2) := by decide +kernel
theorem dX6_reason_99 : decode cX6_reason 99 = .ok (.invokevirtual 179, 3) := by decide +kernel
theorem dX6_reason_102 : decode cX6_reason 102 = .ok (.ifCond .le 7, 3) := by decide +kernel
theorem dX6_reason_105 : decode cX6_reason 105 = .ok (.iconst 1, 1) := by decide +kernel
theorem dX6_reason_106 : decode cX6_reason 106 = .ok (.goto 4, 3) := by decide +kernel
theorem dX6_reason_109 : decode cX6_reason 109 = .ok (.iconst 0, 1) := by decide +kernel
theorem dX6_reason_110 : decode cX6_reason 110 = .ok (.istore 5, 2) := by decide +kernel
theorem dX6_reason_112 : decode cX6_reason 112 = .ok (.iinc 6 1, 3) := by decide +kernel
theorem dX6_reason_115 : decode cX6_reason 115 = .ok (.goto (-88), 3) := by decide +kernel
theorem dX6_reason_118 : decode cX6_reason 118 = .ok (.iconst 0, 1) := by decide +kernel
theorem dX6_reason_119 : decode cX6_reason 119 = .ok (.istore 6, 2) := by decide +kernel
theorem dX6_reason_121 : decode cX6_reason 121 = .ok (.iload 6, 2) := by decide +kernel
theorem dX6_reason_123 : decode cX6_reason 123 = .ok (.aload_n 0, 1) := by decide +kernel
theorem dX6_reason_124 : decode cX6_reason 124 = .ok (.getfield 131, 3) := by decide +kernel
theorem dX6_reason_127 : decode cX6_reason 127 = .ok (.if_icmp .ge 46, 3) := by decide +kernel
theorem dX6_reason_130 : decode cX6_reason 130 = .ok (.iload 4, 2) := by decide +kernel
theorem dX6_reason_132 : decode cX6_reason 132 = .ok (.ifCond .ne 28, 3) := by decide +kernel
theorem dX6_reason_135 : decode cX6_reason 135 = .ok (.aload_n 0, 1) := by decide +kernel
theorem dX6_reason_136 : decode cX6_reason 136 = .ok (.getfield 61, 3) := by decide +kernel
theorem dX6_reason_139 : decode cX6_reason 139 = .ok (.iload 6, 2) := by decide +kernel
theorem dX6_reason_141 : decode cX6_reason 141 = .ok (.iaload, 1) := by decide +kernel
theorem dX6_reason_142 : decode cX6_reason 142 = .ok (.iload_n 1, 1) := by decide +kernel
theorem dX6_reason_143 : decode cX6_reason 143 = .ok (.ishr, 1) := by decide +kernel
theorem dX6_reason_144 : decode cX6_reason 144 = .ok (.iconst 1, 1) := by decide +kernel
theorem dX6_reason_145 : decode cX6_reason 145 = .ok (.iand, 1) := by decide +kernel
theorem dX6_reason_146 : decode cX6_reason 146 = .ok (.iconst 1, 1) := by decide +kernel
theorem dX6_reason_147 : decode cX6_reason 147 = .ok (.if_icmp .ne 17, 3) := by decide +kernel
theorem dX6_reason_150 : decode cX6_reason 150 = .ok (.aload_n 0, 1) := by decide +kernel
theorem dX6_reason_151 : decode cX6_reason 151 = .ok (.getfield 58, 3) := by decide +kernel
theorem dX6_reason_154 : decode cX6_reason 154 = .ok (.iload 6, 2) := by decide +kernel
theorem dX6_reason_156 : decode cX6_reason 156 = .ok (.iaload, 1) := by decide +kernel
theorem dX6_reason_157 : decode cX6_reason 157 = .ok (.ifCond .le 7, 3) := by decide +kernel
theorem dX6_reason_160 : decode cX6_reason 160 = .ok (.iconst 1, 1) := by decide +kernel
theorem dX6_reason_161 : decode cX6_reason 161 = .ok (.goto 4, 3) := by decide +kernel
theorem dX6_reason_164 : decode cX6_reason 164 = .ok (.iconst 0, 1) := by decide +kernel
theorem dX6_reason_165 : decode cX6_reason 165 = .ok (.istore 4, 2) := by decide +kernel
theorem dX6_reason_167 : decode cX6_reason 167 = .ok (.iinc 6 1, 3) := by decide +kernel
theorem dX6_reason_170 : decode cX6_reason 170 = .ok (.goto (-49), 3) := by decide +kernel
theorem dX6_reason_173 : decode cX6_reason 173 = .ok (.aload_n 0, 1) := by decide +kernel
theorem dX6_reason_174 : decode cX6_reason 174 = .ok (.getfield 46, 3) := by decide +kernel
theorem dX6_reason_177 : decode cX6_reason 177 = .ok (.iload_n 1, 1) := by decide +kernel
theorem dX6_reason_178 : decode cX6_reason 178 = .ok (.iaload, 1) := by decide +kernel
theorem dX6_reason_179 : decode cX6_reason 179 = .ok (.ifCond .ne 7, 3) := by decide +kernel
theorem dX6_reason_182 : decode cX6_reason 182 = .ok (.iconst 0, 1) := by decide +kernel
theorem dX6_reason_183 : decode cX6_reason 183 = .ok (.goto 38, 3) := by decide +kernel
theorem dX6_reason_186 : decode cX6_reason 186 = .ok (.iload_n 2, 1) := by decide +kernel
theorem dX6_reason_187 : decode cX6_reason 187 = .ok (.ifCond .ne 7, 3) := by decide +kernel
theorem dX6_reason_190 : decode cX6_reason 190 = .ok (.iconst 1, 1) := by decide +kernel
theorem dX6_reason_191 : decode cX6_reason 191 = .ok (.goto 30, 3) := by decide +kernel
theorem dX6_reason_194 : decode cX6_reason 194 = .ok (.iload_n 3, 1) := by decide +kernel
theorem dX6_reason_195 : decode cX6_reason 195 = .ok (.ifCond .ne 7, 3) := by decide +kernel
theorem dX6_reason_198 : decode cX6_reason 198 = .ok (.iconst 2, 1) := by decide +kernel
theorem dX6_reason_199 : decode cX6_reason 199 = .ok (.goto 22, 3) := by decide +kernel
theorem dX6_reason_202 : decode cX6_reason 202 = .ok (.iload 4, 2) := by decide +kernel
theorem dX6_reason_204 : decode cX6_reason 204 = .ok (.ifCond .eq 7, 3) := by decide +kernel
theorem dX6_reason_207 : decode cX6_reason 207 = .ok (.iconst 3, 1) := by decide +kernel
theorem dX6_reason_208 : decode cX6_reason 208 = .ok (.goto 13, 3) := by decide +kernel
theorem dX6_reason_211 : decode cX6_reason 211 = .ok (.iload 5, 2) := by decide +kernel
theorem dX6_reason_213 : decode cX6_reason 213 = .ok (.ifCond .eq 7, 3) := by decide +kernel
theorem dX6_reason_216 : decode cX6_reason 216 = .ok (.iconst 4, 1) := by decide +kernel
theorem dX6_reason_217 : decode cX6_reason 217 = .ok (.goto 4, 3) := by decide +kernel
theorem dX6_reason_220 : decode cX6_reason 220 = .ok (.iconst 5, 1) := by decide +kernel
theorem dX6_reason_221 : decode cX6_reason 221 = .ok (.ireturn, 1) := by decide +kernel
end
section
theorem dL_addFund_0 : decode cL_addFund 0 = .ok (.aload 5, 2) := by decide +kernel
theorem dL_addFund_2 : decode cL_addFund 2 = .ok (.iconst 0, 1) := by decide +kernel
theorem dL_addFund_3 : decode cL_addFund 3 = .ok (.aload_n 0, 1) := by decide +kernel
theorem dL_addFund_4 : decode cL_addFund 4 = .ok (.iload_n 1, 1) := by decide +kernel
theorem dL_addFund_5 : decode cL_addFund 5 = .ok (.iload_n 2, 1) := by decide +kernel
theorem dL_addFund_6 : decode cL_addFund 6 = .ok (.iload_n 3, 1) := by decide +kernel
theorem dL_addFund_7 : decode cL_addFund 7 = .ok (.iload 4, 2) := by decide +kernel
theorem dL_addFund_9 : decode cL_addFund 9 = .ok (.invokevirtual 7, 3) := by decide +kernel
theorem dL_addFund_12 : decode cL_addFund 12 = .ok (.i2l, 1) := by decide +kernel
theorem dL_addFund_13 : decode cL_addFund 13 = .ok (.lastore, 1) := by decide +kernel
theorem dL_addFund_14 : decode cL_addFund 14 = .ok (.goto 11, 3) := by decide +kernel
theorem dL_addFund_17 : decode cL_addFund 17 = .ok (.astore 6, 2) := by decide +kernel
theorem dL_addFund_19 : decode cL_addFund 19 = .ok (.iconst 1, 1) := by decide +kernel
theorem dL_addFund_20 : decode cL_addFund 20 = .ok (.ireturn, 1) := by decide +kernel
theorem dL_addFund_21 : decode cL_addFund 21 = .ok (.astore 6, 2) := by decide +kernel
theorem dL_addFund_23 : decode cL_addFund 23 = .ok (.iconst 2, 1) := by decide +kernel
theorem dL_addFund_24 : decode cL_addFund 24 = .ok (.ireturn, 1) := by decide +kernel
theorem dL_addFund_25 : decode cL_addFund 25 = .ok (.iconst 0, 1) := by decide +kernel
theorem dL_addFund_26 : decode cL_addFund 26 = .ok (.ireturn, 1) := by decide +kernel
theorem dL_deposit_0 : decode cL_deposit 0 = .ok (.aload_n 3, 1) := by decide +kernel
theorem dL_deposit_1 : decode cL_deposit 1 = .ok (.iconst 0, 1) := by decide +kernel
theorem dL_deposit_2 : decode cL_deposit 2 = .ok (.aload_n 0, 1) := by decide +kernel
theorem dL_deposit_3 : decode cL_deposit 3 = .ok (.iload_n 1, 1) := by decide +kernel
theorem dL_deposit_4 : decode cL_deposit 4 = .ok (.iload_n 2, 1) := by decide +kernel
theorem dL_deposit_5 : decode cL_deposit 5 = .ok (.invokevirtual 17, 3) := by decide +kernel
theorem dL_deposit_8 : decode cL_deposit 8 = .ok (.i2l, 1) := by decide +kernel
theorem dL_deposit_9 : decode cL_deposit 9 = .ok (.lastore, 1) := by decide +kernel
theorem dL_deposit_10 : decode cL_deposit 10 = .ok (.goto 11, 3) := by decide +kernel
theorem dL_deposit_13 : decode cL_deposit 13 = .ok (.astore 4, 2) := by decide +kernel
theorem dL_deposit_15 : decode cL_deposit 15 = .ok (.iconst 1, 1) := by decide +kernel
theorem dL_deposit_16 : decode cL_deposit 16 = .ok (.ireturn, 1) := by decide +kernel
theorem dL_deposit_17 : decode cL_deposit 17 = .ok (.astore 4, 2) := by decide +kernel
theorem dL_deposit_19 : decode cL_deposit 19 = .ok (.iconst 2, 1) := by decide +kernel
theorem dL_deposit_20 : decode cL_deposit 20 = .ok (.ireturn, 1) := by decide +kernel
theorem dL_deposit_21 : decode cL_deposit 21 = .ok (.iconst 0, 1) := by decide +kernel
theorem dL_deposit_22 : decode cL_deposit 22 = .ok (.ireturn, 1) := by decide +kernel
theorem dL_commit_0 : decode cL_commit 0 = .ok (.aload 5, 2) := by decide +kernel
theorem dL_commit_2 : decode cL_commit 2 = .ok (.iconst 0, 1) := by decide +kernel
theorem dL_commit_3 : decode cL_commit 3 = .ok (.aload_n 0, 1) := by decide +kernel
theorem dL_commit_4 : decode cL_commit 4 = .ok (.iload_n 1, 1) := by decide +kernel
theorem dL_commit_5 : decode cL_commit 5 = .ok (.iload_n 2, 1) := by decide +kernel
theorem dL_commit_6 : decode cL_commit 6 = .ok (.iload_n 3, 1) := by decide +kernel
theorem dL_commit_7 : decode cL_commit 7 = .ok (.iload 4, 2) := by decide +kernel
theorem dL_commit_9 : decode cL_commit 9 = .ok (.invokevirtual 23, 3) := by decide +kernel
theorem dL_commit_12 : decode cL_commit 12 = .ok (.i2l, 1) := by decide +kernel
theorem dL_commit_13 : decode cL_commit 13 = .ok (.lastore, 1) := by decide +kernel
theorem dL_commit_14 : decode cL_commit 14 = .ok (.goto 15, 3) := by decide +kernel
theorem dL_commit_17 : decode cL_commit 17 = .ok (.astore 6, 2) := by decide +kernel
theorem dL_commit_19 : decode cL_commit 19 = .ok (.iconst 1, 1) := by decide +kernel
theorem dL_commit_20 : decode cL_commit 20 = .ok (.ireturn, 1) := by decide +kernel
theorem dL_commit_21 : decode cL_commit 21 = .ok (.astore 6, 2) := by decide +kernel
theorem dL_commit_23 : decode cL_commit 23 = .ok (.iconst 2, 1) := by decide +kernel
theorem dL_commit_24 : decode cL_commit 24 = .ok (.ireturn, 1) := by decide +kernel
theorem dL_commit_25 : decode cL_commit 25 = .ok (.astore 6, 2) := by decide +kernel
theorem dL_commit_27 : decode cL_commit 27 = .ok (.iconst 3, 1) := by decide +kernel
theorem dL_commit_28 : decode cL_commit 28 = .ok (.ireturn, 1) := by decide +kernel
theorem dL_commit_29 : decode cL_commit 29 = .ok (.iconst 0, 1) := by decide +kernel
theorem dL_commit_30 : decode cL_commit 30 = .ok (.ireturn, 1) := by decide +kernel
theorem dL_cancel_0 : decode cL_cancel 0 = .ok (.aload_n 2, 1) := by decide +kernel
theorem dL_cancel_1 : decode cL_cancel 1 = .ok (.iconst 0, 1) := by decide +kernel
theorem dL_cancel_2 : decode cL_cancel 2 = .ok (.aload_n 0, 1) := by decide +kernel
theorem dL_cancel_3 : decode cL_cancel 3 = .ok (.iload_n 1, 1) := by decide +kernel
theorem dL_cancel_4 : decode cL_cancel 4 = .ok (.invokevirtual 26, 3) := by decide +kernel
theorem dL_cancel_7 : decode cL_cancel 7 = .ok (.i2l, 1) := by decide +kernel
theorem dL_cancel_8 : decode cL_cancel 8 = .ok (.lastore, 1) := by decide +kernel
theorem dL_cancel_9 : decode cL_cancel 9 = .ok (.goto 6, 3) := by decide +kernel
theorem dL_cancel_12 : decode cL_cancel 12 = .ok (.astore_n 3, 1) := by decide +kernel
theorem dL_cancel_13 : decode cL_cancel 13 = .ok (.iconst 1, 1) := by decide +kernel
theorem dL_cancel_14 : decode cL_cancel 14 = .ok (.ireturn, 1) := by decide +kernel
theorem dL_cancel_15 : decode cL_cancel 15 = .ok (.iconst 0, 1) := by decide +kernel
theorem dL_cancel_16 : decode cL_cancel 16 = .ok (.ireturn, 1) := by decide +kernel
theorem dL_advance_0 : decode cL_advance 0 = .ok (.aload_n 2, 1) := by decide +kernel
theorem dL_advance_1 : decode cL_advance 1 = .ok (.iconst 0, 1) := by decide +kernel
theorem dL_advance_2 : decode cL_advance 2 = .ok (.aload_n 0, 1) := by decide +kernel
theorem dL_advance_3 : decode cL_advance 3 = .ok (.iload_n 1, 1) := by decide +kernel
theorem dL_advance_4 : decode cL_advance 4 = .ok (.invokevirtual 30, 3) := by decide +kernel
theorem dL_advance_7 : decode cL_advance 7 = .ok (.i2l, 1) := by decide +kernel
theorem dL_advance_8 : decode cL_advance 8 = .ok (.lastore, 1) := by decide +kernel
theorem dL_advance_9 : decode cL_advance 9 = .ok (.goto 6, 3) := by decide +kernel
theorem dL_advance_12 : decode cL_advance 12 = .ok (.astore_n 3, 1) := by decide +kernel
theorem dL_advance_13 : decode cL_advance 13 = .ok (.iconst 1, 1) := by decide +kernel
theorem dL_advance_14 : decode cL_advance 14 = .ok (.ireturn, 1) := by decide +kernel
theorem dL_advance_15 : decode cL_advance 15 = .ok (.iconst 0, 1) := by decide +kernel
theorem dL_advance_16 : decode cL_advance 16 = .ok (.ireturn, 1) := by decide +kernel
theorem dL_addCost_0 : decode cL_addCost 0 = .ok (.aload 4, 2) := by decide +kernel
theorem dL_addCost_2 : decode cL_addCost 2 = .ok (.iconst 0, 1) := by decide +kernel
theorem dL_addCost_3 : decode cL_addCost 3 = .ok (.aload_n 0, 1) := by decide +kernel
theorem dL_addCost_4 : decode cL_addCost 4 = .ok (.iload_n 1, 1) := by decide +kernel
theorem dL_addCost_5 : decode cL_addCost 5 = .ok (.iload_n 2, 1) := by decide +kernel
theorem dL_addCost_6 : decode cL_addCost 6 = .ok (.iload_n 3, 1) := by decide +kernel
theorem dL_addCost_7 : decode cL_addCost 7 = .ok (.invokevirtual 33, 3) := by decide +kernel
theorem dL_addCost_10 : decode cL_addCost 10 = .ok (.i2l, 1) := by decide +kernel
theorem dL_addCost_11 : decode cL_addCost 11 = .ok (.lastore, 1) := by decide +kernel
theorem dL_addCost_12 : decode cL_addCost 12 = .ok (.goto 11, 3) := by decide +kernel
theorem dL_addCost_15 : decode cL_addCost 15 = .ok (.astore 5, 2) := by decide +kernel
theorem dL_addCost_17 : decode cL_addCost 17 = .ok (.iconst 1, 1) := by decide +kernel
theorem dL_addCost_18 : decode cL_addCost 18 = .ok (.ireturn, 1) := by decide +kernel
theorem dL_addCost_19 : decode cL_addCost 19 = .ok (.astore 5, 2) := by decide +kernel
theorem dL_addCost_21 : decode cL_addCost 21 = .ok (.iconst 2, 1) := by decide +kernel
theorem dL_addCost_22 : decode cL_addCost 22 = .ok (.ireturn, 1) := by decide +kernel
theorem dL_addCost_23 : decode cL_addCost 23 = .ok (.iconst 0, 1) := by decide +kernel
theorem dL_addCost_24 : decode cL_addCost 24 = .ok (.ireturn, 1) := by decide +kernel
theorem dL_chargeOverhead_0 : decode cL_chargeOverhead 0 = .ok (.aload_n 2, 1) := by decide +kernel
theorem dL_chargeOverhead_1 : decode cL_chargeOverhead 1 = .ok (.iconst 0, 1) := by decide +kernel
theorem dL_chargeOverhead_2 : decode cL_chargeOverhead 2 = .ok (.aload_n 0, 1) := by decide +kernel
theorem dL_chargeOverhead_3 : decode cL_chargeOverhead 3 = .ok (.iload_n 1, 1) := by decide +kernel
theorem dL_chargeOverhead_4 : decode cL_chargeOverhead 4 = .ok (.invokevirtual 37, 3) := by decide +kernel
theorem dL_chargeOverhead_7 : decode cL_chargeOverhead 7 = .ok (.i2l, 1) := by decide +kernel
theorem dL_chargeOverhead_8 : decode cL_chargeOverhead 8 = .ok (.lastore, 1) := by decide +kernel
theorem dL_chargeOverhead_9 : decode cL_chargeOverhead 9 = .ok (.goto 6, 3) := by decide +kernel
theorem dL_chargeOverhead_12 : decode cL_chargeOverhead 12 = .ok (.astore_n 3, 1) := by decide +kernel
theorem dL_chargeOverhead_13 : decode cL_chargeOverhead 13 = .ok (.iconst 1, 1) := by decide +kernel
theorem dL_chargeOverhead_14 : decode cL_chargeOverhead 14 = .ok (.ireturn, 1) := by decide +kernel
theorem dL_chargeOverhead_15 : decode cL_chargeOverhead 15 = .ok (.iconst 0, 1) := by decide +kernel
theorem dL_chargeOverhead_16 : decode cL_chargeOverhead 16 = .ok (.ireturn, 1) := by decide +kernel
theorem dL_freeOf_0 : decode cL_freeOf 0 = .ok (.aload_n 2, 1) := by decide +kernel
theorem dL_freeOf_1 : decode cL_freeOf 1 = .ok (.iconst 0, 1) := by decide +kernel
theorem dL_freeOf_2 : decode cL_freeOf 2 = .ok (.aload_n 0, 1) := by decide +kernel
theorem dL_freeOf_3 : decode cL_freeOf 3 = .ok (.iload_n 1, 1) := by decide +kernel
theorem dL_freeOf_4 : decode cL_freeOf 4 = .ok (.invokevirtual 40, 3) := by decide +kernel
theorem dL_freeOf_7 : decode cL_freeOf 7 = .ok (.i2l, 1) := by decide +kernel
theorem dL_freeOf_8 : decode cL_freeOf 8 = .ok (.lastore, 1) := by decide +kernel
theorem dL_freeOf_9 : decode cL_freeOf 9 = .ok (.goto 6, 3) := by decide +kernel
theorem dL_freeOf_12 : decode cL_freeOf 12 = .ok (.astore_n 3, 1) := by decide +kernel
theorem dL_freeOf_13 : decode cL_freeOf 13 = .ok (.iconst 1, 1) := by decide +kernel
theorem dL_freeOf_14 : decode cL_freeOf 14 = .ok (.ireturn, 1) := by decide +kernel
theorem dL_freeOf_15 : decode cL_freeOf 15 = .ok (.iconst 0, 1) := by decide +kernel
theorem dL_freeOf_16 : decode cL_freeOf 16 = .ok (.ireturn, 1) := by decide +kernel
theorem dL_committedOf_0 : decode cL_committedOf 0 = .ok (.aload_n 2, 1) := by decide +kernel
theorem dL_committedOf_1 : decode cL_committedOf 1 = .ok (.iconst 0, 1) := by decide +kernel
theorem dL_committedOf_2 : decode cL_committedOf 2 = .ok (.aload_n 0, 1) := by decide +kernel
theorem dL_committedOf_3 : decode cL_committedOf 3 = .ok (.iload_n 1, 1) := by decide +kernel
theorem dL_committedOf_4 : decode cL_committedOf 4 = .ok (.invokevirtual 43, 3) := by decide +kernel
theorem dL_committedOf_7 : decode cL_committedOf 7 = .ok (.i2l, 1) := by decide +kernel
theorem dL_committedOf_8 : decode cL_committedOf 8 = .ok (.lastore, 1) := by decide +kernel
theorem dL_committedOf_9 : decode cL_committedOf 9 = .ok (.goto 6, 3) := by decide +kernel
theorem dL_committedOf_12 : decode cL_committedOf 12 = .ok (.astore_n 3, 1) := by decide +kernel
theorem dL_committedOf_13 : decode cL_committedOf 13 = .ok (.iconst 1, 1) := by decide +kernel
theorem dL_committedOf_14 : decode cL_committedOf 14 = .ok (.ireturn, 1) := by decide +kernel
theorem dL_committedOf_15 : decode cL_committedOf 15 = .ok (.iconst 0, 1) := by decide +kernel
theorem dL_committedOf_16 : decode cL_committedOf 16 = .ok (.ireturn, 1) := by decide +kernel
theorem dL_directOf_0 : decode cL_directOf 0 = .ok (.aload_n 2, 1) := by decide +kernel
theorem dL_directOf_1 : decode cL_directOf 1 = .ok (.iconst 0, 1) := by decide +kernel
theorem dL_directOf_2 : decode cL_directOf 2 = .ok (.aload_n 0, 1) := by decide +kernel
theorem dL_directOf_3 : decode cL_directOf 3 = .ok (.iload_n 1, 1) := by decide +kernel
theorem dL_directOf_4 : decode cL_directOf 4 = .ok (.invokevirtual 46, 3) := by decide +kernel
theorem dL_directOf_7 : decode cL_directOf 7 = .ok (.i2l, 1) := by decide +kernel
theorem dL_directOf_8 : decode cL_directOf 8 = .ok (.lastore, 1) := by decide +kernel
theorem dL_directOf_9 : decode cL_directOf 9 = .ok (.goto 6, 3) := by decide +kernel
theorem dL_directOf_12 : decode cL_directOf 12 = .ok (.astore_n 3, 1) := by decide +kernel
theorem dL_directOf_13 : decode cL_directOf 13 = .ok (.iconst 1, 1) := by decide +kernel
theorem dL_directOf_14 : decode cL_directOf 14 = .ok (.ireturn, 1) := by decide +kernel
theorem dL_directOf_15 : decode cL_directOf 15 = .ok (.iconst 0, 1) := by decide +kernel
theorem dL_directOf_16 : decode cL_directOf 16 = .ok (.ireturn, 1) := by decide +kernel
theorem dL_overheadOf_0 : decode cL_overheadOf 0 = .ok (.aload_n 2, 1) := by decide +kernel
theorem dL_overheadOf_1 : decode cL_overheadOf 1 = .ok (.iconst 0, 1) := by decide +kernel
theorem dL_overheadOf_2 : decode cL_overheadOf 2 = .ok (.aload_n 0, 1) := by decide +kernel
theorem dL_overheadOf_3 : decode cL_overheadOf 3 = .ok (.iload_n 1, 1) := by decide +kernel
theorem dL_overheadOf_4 : decode cL_overheadOf 4 = .ok (.invokevirtual 49, 3) := by decide +kernel
theorem dL_overheadOf_7 : decode cL_overheadOf 7 = .ok (.i2l, 1) := by decide +kernel
theorem dL_overheadOf_8 : decode cL_overheadOf 8 = .ok (.lastore, 1) := by decide +kernel
theorem dL_overheadOf_9 : decode cL_overheadOf 9 = .ok (.goto 6, 3) := by decide +kernel
theorem dL_overheadOf_12 : decode cL_overheadOf 12 = .ok (.astore_n 3, 1) := by decide +kernel
theorem dL_overheadOf_13 : decode cL_overheadOf 13 = .ok (.iconst 1, 1) := by decide +kernel
theorem dL_overheadOf_14 : decode cL_overheadOf 14 = .ok (.ireturn, 1) := by decide +kernel
theorem dL_overheadOf_15 : decode cL_overheadOf 15 = .ok (.iconst 0, 1) := by decide +kernel
theorem dL_overheadOf_16 : decode cL_overheadOf 16 = .ok (.ireturn, 1) := by decide +kernel
theorem dL_roomOf_0 : decode cL_roomOf 0 = .ok (.aload_n 2, 1) := by decide +kernel
theorem dL_roomOf_1 : decode cL_roomOf 1 = .ok (.iconst 0, 1) := by decide +kernel
theorem dL_roomOf_2 : decode cL_roomOf 2 = .ok (.aload_n 0, 1) := by decide +kernel
theorem dL_roomOf_3 : decode cL_roomOf 3 = .ok (.iload_n 1, 1) := by decide +kernel
theorem dL_roomOf_4 : decode cL_roomOf 4 = .ok (.invokevirtual 52, 3) := by decide +kernel
theorem dL_roomOf_7 : decode cL_roomOf 7 = .ok (.i2l, 1) := by decide +kernel
theorem dL_roomOf_8 : decode cL_roomOf 8 = .ok (.lastore, 1) := by decide +kernel
theorem dL_roomOf_9 : decode cL_roomOf 9 = .ok (.goto 6, 3) := by decide +kernel
theorem dL_roomOf_12 : decode cL_roomOf 12 = .ok (.astore_n 3, 1) := by decide +kernel
theorem dL_roomOf_13 : decode cL_roomOf 13 = .ok (.iconst 1, 1) := by decide +kernel
theorem dL_roomOf_14 : decode cL_roomOf 14 = .ok (.ireturn, 1) := by decide +kernel
theorem dL_roomOf_15 : decode cL_roomOf 15 = .ok (.iconst 0, 1) := by decide +kernel
theorem dL_roomOf_16 : decode cL_roomOf 16 = .ok (.ireturn, 1) := by decide +kernel
theorem dL_fundOf_0 : decode cL_fundOf 0 = .ok (.aload_n 2, 1) := by decide +kernel
theorem dL_fundOf_1 : decode cL_fundOf 1 = .ok (.iconst 0, 1) := by decide +kernel
theorem dL_fundOf_2 : decode cL_fundOf 2 = .ok (.aload_n 0, 1) := by decide +kernel
theorem dL_fundOf_3 : decode cL_fundOf 3 = .ok (.iload_n 1, 1) := by decide +kernel
theorem dL_fundOf_4 : decode cL_fundOf 4 = .ok (.invokevirtual 55, 3) := by decide +kernel
theorem dL_fundOf_7 : decode cL_fundOf 7 = .ok (.i2l, 1) := by decide +kernel
theorem dL_fundOf_8 : decode cL_fundOf 8 = .ok (.lastore, 1) := by decide +kernel
theorem dL_fundOf_9 : decode cL_fundOf 9 = .ok (.goto 6, 3) := by decide +kernel
theorem dL_fundOf_12 : decode cL_fundOf 12 = .ok (.astore_n 3, 1) := by decide +kernel
theorem dL_fundOf_13 : decode cL_fundOf 13 = .ok (.iconst 1, 1) := by decide +kernel
theorem dL_fundOf_14 : decode cL_fundOf 14 = .ok (.ireturn, 1) := by decide +kernel
theorem dL_fundOf_15 : decode cL_fundOf 15 = .ok (.iconst 0, 1) := by decide +kernel
theorem dL_fundOf_16 : decode cL_fundOf 16 = .ok (.ireturn, 1) := by decide +kernel
theorem dL_leftOf_0 : decode cL_leftOf 0 = .ok (.aload_n 2, 1) := by decide +kernel
theorem dL_leftOf_1 : decode cL_leftOf 1 = .ok (.iconst 0, 1) := by decide +kernel
theorem dL_leftOf_2 : decode cL_leftOf 2 = .ok (.aload_n 0, 1) := by decide +kernel
theorem dL_leftOf_3 : decode cL_leftOf 3 = .ok (.iload_n 1, 1) := by decide +kernel
theorem dL_leftOf_4 : decode cL_leftOf 4 = .ok (.invokevirtual 58, 3) := by decide +kernel
theorem dL_leftOf_7 : decode cL_leftOf 7 = .ok (.i2l, 1) := by decide +kernel
theorem dL_leftOf_8 : decode cL_leftOf 8 = .ok (.lastore, 1) := by decide +kernel
theorem dL_leftOf_9 : decode cL_leftOf 9 = .ok (.goto 6, 3) := by decide +kernel
theorem dL_leftOf_12 : decode cL_leftOf 12 = .ok (.astore_n 3, 1) := by decide +kernel
theorem dL_leftOf_13 : decode cL_leftOf 13 = .ok (.iconst 1, 1) := by decide +kernel
theorem dL_leftOf_14 : decode cL_leftOf 14 = .ok (.ireturn, 1) := by decide +kernel
theorem dL_leftOf_15 : decode cL_leftOf 15 = .ok (.iconst 0, 1) := by decide +kernel
theorem dL_leftOf_16 : decode cL_leftOf 16 = .ok (.ireturn, 1) := by decide +kernel
theorem dL_untilOf_0 : decode cL_untilOf 0 = .ok (.aload_n 2, 1) := by decide +kernel
theorem dL_untilOf_1 : decode cL_untilOf 1 = .ok (.iconst 0, 1) := by decide +kernel
theorem dL_untilOf_2 : decode cL_untilOf 2 = .ok (.aload_n 0, 1) := by decide +kernel
theorem dL_untilOf_3 : decode cL_untilOf 3 = .ok (.iload_n 1, 1) := by decide +kernel
theorem dL_untilOf_4 : decode cL_untilOf 4 = .ok (.invokevirtual 61, 3) := by decide +kernel
theorem dL_untilOf_7 : decode cL_untilOf 7 = .ok (.i2l, 1) := by decide +kernel
theorem dL_untilOf_8 : decode cL_untilOf 8 = .ok (.lastore, 1) := by decide +kernel
theorem dL_untilOf_9 : decode cL_untilOf 9 = .ok (.goto 6, 3) := by decide +kernel
theorem dL_untilOf_12 : decode cL_untilOf 12 = .ok (.astore_n 3, 1) := by decide +kernel
theorem dL_untilOf_13 : decode cL_untilOf 13 = .ok (.iconst 1, 1) := by decide +kernel
theorem dL_untilOf_14 : decode cL_untilOf 14 = .ok (.ireturn, 1) := by decide +kernel
theorem dL_untilOf_15 : decode cL_untilOf 15 = .ok (.iconst 0, 1) := by decide +kernel
theorem dL_untilOf_16 : decode cL_untilOf 16 = .ok (.ireturn, 1) := by decide +kernel
theorem dL_unpaidOf_0 : decode cL_unpaidOf 0 = .ok (.aload_n 2, 1) := by decide +kernel
theorem dL_unpaidOf_1 : decode cL_unpaidOf 1 = .ok (.iconst 0, 1) := by decide +kernel
theorem dL_unpaidOf_2 : decode cL_unpaidOf 2 = .ok (.aload_n 0, 1) := by decide +kernel
theorem dL_unpaidOf_3 : decode cL_unpaidOf 3 = .ok (.iload_n 1, 1) := by decide +kernel
theorem dL_unpaidOf_4 : decode cL_unpaidOf 4 = .ok (.invokevirtual 64, 3) := by decide +kernel
theorem dL_unpaidOf_7 : decode cL_unpaidOf 7 = .ok (.i2l, 1) := by decide +kernel
theorem dL_unpaidOf_8 : decode cL_unpaidOf 8 = .ok (.lastore, 1) := by decide +kernel
theorem dL_unpaidOf_9 : decode cL_unpaidOf 9 = .ok (.goto 6, 3) := by decide +kernel
theorem dL_unpaidOf_12 : decode cL_unpaidOf 12 = .ok (.astore_n 3, 1) := by decide +kernel
theorem dL_unpaidOf_13 : decode cL_unpaidOf 13 = .ok (.iconst 1, 1) := by decide +kernel
theorem dL_unpaidOf_14 : decode cL_unpaidOf 14 = .ok (.ireturn, 1) := by decide +kernel
theorem dL_unpaidOf_15 : decode cL_unpaidOf 15 = .ok (.iconst 0, 1) := by decide +kernel
theorem dL_unpaidOf_16 : decode cL_unpaidOf 16 = .ok (.ireturn, 1) := by decide +kernel
theorem dL_paidBy_0 : decode cL_paidBy 0 = .ok (.aload_n 3, 1) := by decide +kernel
theorem dL_paidBy_1 : decode cL_paidBy 1 = .ok (.iconst 0, 1) := by decide +kernel
theorem dL_paidBy_2 : decode cL_paidBy 2 = .ok (.aload_n 0, 1) := by decide +kernel
theorem dL_paidBy_3 : decode cL_paidBy 3 = .ok (.iload_n 1, 1) := by decide +kernel
theorem dL_paidBy_4 : decode cL_paidBy 4 = .ok (.iload_n 2, 1) := by decide +kernel
theorem dL_paidBy_5 : decode cL_paidBy 5 = .ok (.invokevirtual 67, 3) := by decide +kernel
theorem dL_paidBy_8 : decode cL_paidBy 8 = .ok (.i2l, 1) := by decide +kernel
theorem dL_paidBy_9 : decode cL_paidBy 9 = .ok (.lastore, 1) := by decide +kernel
theorem dL_paidBy_10 : decode cL_paidBy 10 = .ok (.goto 7, 3) := by decide +kernel
theorem dL_paidBy_13 : decode cL_paidBy 13 = .ok (.astore 4, 2) := by decide +kernel
theorem dL_paidBy_15 : decode cL_paidBy 15 = .ok (.iconst 1, 1) := by decide +kernel
theorem dL_paidBy_16 : decode cL_paidBy 16 = .ok (.ireturn, 1) := by decide +kernel
theorem dL_paidBy_17 : decode cL_paidBy 17 = .ok (.iconst 0, 1) := by decide +kernel
theorem dL_paidBy_18 : decode cL_paidBy 18 = .ok (.ireturn, 1) := by decide +kernel
theorem dL_wouldPay_0 : decode cL_wouldPay 0 = .ok (.aload_n 2, 1) := by decide +kernel
theorem dL_wouldPay_1 : decode cL_wouldPay 1 = .ok (.iconst 0, 1) := by decide +kernel
theorem dL_wouldPay_2 : decode cL_wouldPay 2 = .ok (.aload_n 0, 1) := by decide +kernel
theorem dL_wouldPay_3 : decode cL_wouldPay 3 = .ok (.iload_n 1, 1) := by decide +kernel
theorem dL_wouldPay_4 : decode cL_wouldPay 4 = .ok (.invokevirtual 70, 3) := by decide +kernel
theorem dL_wouldPay_7 : decode cL_wouldPay 7 = .ok (.i2l, 1) := by decide +kernel
theorem dL_wouldPay_8 : decode cL_wouldPay 8 = .ok (.lastore, 1) := by decide +kernel
theorem dL_wouldPay_9 : decode cL_wouldPay 9 = .ok (.goto 6, 3) := by decide +kernel
theorem dL_wouldPay_12 : decode cL_wouldPay 12 = .ok (.astore_n 3, 1) := by decide +kernel
theorem dL_wouldPay_13 : decode cL_wouldPay 13 = .ok (.iconst 1, 1) := by decide +kernel
theorem dL_wouldPay_14 : decode cL_wouldPay 14 = .ok (.ireturn, 1) := by decide +kernel
theorem dL_wouldPay_15 : decode cL_wouldPay 15 = .ok (.iconst 0, 1) := by decide +kernel
theorem dL_wouldPay_16 : decode cL_wouldPay 16 = .ok (.ireturn, 1) := by decide +kernel
theorem dL_wouldTake_0 : decode cL_wouldTake 0 = .ok (.aload_n 2, 1) := by decide +kernel
theorem dL_wouldTake_1 : decode cL_wouldTake 1 = .ok (.iconst 0, 1) := by decide +kernel
theorem dL_wouldTake_2 : decode cL_wouldTake 2 = .ok (.aload_n 0, 1) := by decide +kernel
theorem dL_wouldTake_3 : decode cL_wouldTake 3 = .ok (.iload_n 1, 1) := by decide +kernel
theorem dL_wouldTake_4 : decode cL_wouldTake 4 = .ok (.invokevirtual 73, 3) := by decide +kernel
theorem dL_wouldTake_7 : decode cL_wouldTake 7 = .ok (.i2l, 1) := by decide +kernel
theorem dL_wouldTake_8 : decode cL_wouldTake 8 = .ok (.lastore, 1) := by decide +kernel
theorem dL_wouldTake_9 : decode cL_wouldTake 9 = .ok (.goto 6, 3) := by decide +kernel
theorem dL_wouldTake_12 : decode cL_wouldTake 12 = .ok (.astore_n 3, 1) := by decide +kernel
theorem dL_wouldTake_13 : decode cL_wouldTake 13 = .ok (.iconst 1, 1) := by decide +kernel
theorem dL_wouldTake_14 : decode cL_wouldTake 14 = .ok (.ireturn, 1) := by decide +kernel
theorem dL_wouldTake_15 : decode cL_wouldTake 15 = .ok (.iconst 0, 1) := by decide +kernel
theorem dL_wouldTake_16 : decode cL_wouldTake 16 = .ok (.ireturn, 1) := by decide +kernel
theorem dL_reason_0 : decode cL_reason 0 = .ok (.aload_n 2, 1) := by decide +kernel
theorem dL_reason_1 : decode cL_reason 1 = .ok (.iconst 0, 1) := by decide +kernel
theorem dL_reason_2 : decode cL_reason 2 = .ok (.aload_n 0, 1) := by decide +kernel
theorem dL_reason_3 : decode cL_reason 3 = .ok (.iload_n 1, 1) := by decide +kernel
theorem dL_reason_4 : decode cL_reason 4 = .ok (.invokevirtual 76, 3) := by decide +kernel
theorem dL_reason_7 : decode cL_reason 7 = .ok (.i2l, 1) := by decide +kernel
theorem dL_reason_8 : decode cL_reason 8 = .ok (.lastore, 1) := by decide +kernel
theorem dL_reason_9 : decode cL_reason 9 = .ok (.goto 6, 3) := by decide +kernel
theorem dL_reason_12 : decode cL_reason 12 = .ok (.astore_n 3, 1) := by decide +kernel
theorem dL_reason_13 : decode cL_reason 13 = .ok (.iconst 1, 1) := by decide +kernel
theorem dL_reason_14 : decode cL_reason 14 = .ok (.ireturn, 1) := by decide +kernel
theorem dL_reason_15 : decode cL_reason 15 = .ok (.iconst 0, 1) := by decide +kernel
theorem dL_reason_16 : decode cL_reason 16 = .ok (.ireturn, 1) := by decide +kernel
theorem dL_law_0 : decode cL_law 0 = .ok (.new 8, 3) := by decide +kernel
theorem dL_law_3 : decode cL_law 3 = .ok (.dup, 1) := by decide +kernel
theorem dL_law_4 : decode cL_law 4 = .ok (.invokespecial 79, 3) := by decide +kernel
theorem dL_law_7 : decode cL_law 7 = .ok (.astore_n 1, 1) := by decide +kernel
theorem dL_law_8 : decode cL_law 8 = .ok (.new 80, 3) := by decide +kernel
theorem dL_law_11 : decode cL_law 11 = .ok (.dup, 1) := by decide +kernel
theorem dL_law_12 : decode cL_law 12 = .ok (.invokespecial 82, 3) := by decide +kernel
theorem dL_law_15 : decode cL_law 15 = .ok (.astore_n 2, 1) := by decide +kernel
theorem dL_law_16 : decode cL_law 16 = .ok (.iconst 1, 1) := by decide +kernel
theorem dL_law_17 : decode cL_law 17 = .ok (.newarray .long, 2) := by decide +kernel
theorem dL_law_19 : decode cL_law 19 = .ok (.astore_n 3, 1) := by decide +kernel
theorem dL_law_20 : decode cL_law 20 = .ok (.iconst 0, 1) := by decide +kernel
theorem dL_law_21 : decode cL_law 21 = .ok (.istore 4, 2) := by decide +kernel
theorem dL_law_23 : decode cL_law 23 = .ok (.iload 4, 2) := by decide +kernel
theorem dL_law_25 : decode cL_law 25 = .ok (.aload_n 0, 1) := by decide +kernel
theorem dL_law_26 : decode cL_law 26 = .ok (.arraylength, 1) := by decide +kernel
theorem dL_law_27 : decode cL_law 27 = .ok (.iconst 5, 1) := by decide +kernel
theorem dL_law_28 : decode cL_law 28 = .ok (.isub, 1) := by decide +kernel
theorem dL_law_29 : decode cL_law 29 = .ok (.if_icmp .gt 1451, 3) := by decide +kernel
theorem dL_law_32 : decode cL_law 32 = .ok (.aload_n 0, 1) := by decide +kernel
theorem dL_law_33 : decode cL_law 33 = .ok (.iload 4, 2) := by decide +kernel
theorem dL_law_35 : decode cL_law 35 = .ok (.iaload, 1) := by decide +kernel
theorem dL_law_36 : decode cL_law 36 = .ok (.bipush 31, 2) := by decide +kernel
theorem dL_law_38 : decode cL_law 38 = .ok (.iand, 1) := by decide +kernel
theorem dL_law_39 : decode cL_law 39 = .ok (.tableswitch 1435 0 25 #[117, 209, 277, 369, 425, 481, 561, 574, 630, 643, 656, 712, 768, 824, 880, 936, 949, 1005, 1061, 1117, 1130, 1186, 1254, 1267, 1323, 1379], 117) := by decide +kernel
theorem dL_law_156 : decode cL_law 156 = .ok (.aload_n 1, 1) := by decide +kernel
theorem dL_law_157 : decode cL_law 157 = .ok (.aload_n 0, 1) := by decide +kernel
theorem dL_law_158 : decode cL_law 158 = .ok (.iload 4, 2) := by decide +kernel
theorem dL_law_160 : decode cL_law 160 = .ok (.iconst 1, 1) := by decide +kernel
theorem dL_law_161 : decode cL_law 161 = .ok (.iadd, 1) := by decide +kernel
theorem dL_law_162 : decode cL_law 162 = .ok (.iaload, 1) := by decide +kernel
theorem dL_law_163 : decode cL_law 163 = .ok (.aload_n 0, 1) := by decide +kernel
theorem dL_law_164 : decode cL_law 164 = .ok (.iload 4, 2) := by decide +kernel
theorem dL_law_166 : decode cL_law 166 = .ok (.iconst 2, 1) := by decide +kernel
theorem dL_law_167 : decode cL_law 167 = .ok (.iadd, 1) := by decide +kernel
theorem dL_law_168 : decode cL_law 168 = .ok (.iaload, 1) := by decide +kernel
theorem dL_law_169 : decode cL_law 169 = .ok (.aload_n 0, 1) := by decide +kernel
theorem dL_law_170 : decode cL_law 170 = .ok (.iload 4, 2) := by decide +kernel
theorem dL_law_172 : decode cL_law 172 = .ok (.iconst 3, 1) := by decide +kernel
theorem dL_law_173 : decode cL_law 173 = .ok (.iadd, 1) := by decide +kernel
theorem dL_law_174 : decode cL_law 174 = .ok (.iaload, 1) := by decide +kernel
theorem dL_law_175 : decode cL_law 175 = .ok (.aload_n 0, 1) := by decide +kernel
theorem dL_law_176 : decode cL_law 176 = .ok (.iload 4, 2) := by decide +kernel
theorem dL_law_178 : decode cL_law 178 = .ok (.iconst 4, 1) := by decide +kernel
theorem dL_law_179 : decode cL_law 179 = .ok (.iadd, 1) := by decide +kernel
theorem dL_law_180 : decode cL_law 180 = .ok (.iaload, 1) := by decide +kernel
theorem dL_law_181 : decode cL_law 181 = .ok (.aload_n 3, 1) := by decide +kernel
theorem dL_law_182 : decode cL_law 182 = .ok (.invokestatic 83, 3) := by decide +kernel
theorem dL_law_185 : decode cL_law 185 = .ok (.istore 5, 2) := by decide +kernel
theorem dL_law_187 : decode cL_law 187 = .ok (.aload_n 2, 1) := by decide +kernel
theorem dL_law_188 : decode cL_law 188 = .ok (.aload_n 0, 1) := by decide +kernel
theorem dL_law_189 : decode cL_law 189 = .ok (.iload 4, 2) := by decide +kernel
theorem dL_law_191 : decode cL_law 191 = .ok (.iconst 1, 1) := by decide +kernel
theorem dL_law_192 : decode cL_law 192 = .ok (.iadd, 1) := by decide +kernel
theorem dL_law_193 : decode cL_law 193 = .ok (.iaload, 1) := by decide +kernel
theorem dL_law_194 : decode cL_law 194 = .ok (.aload_n 0, 1) := by decide +kernel
theorem dL_law_195 : decode cL_law 195 = .ok (.iload 4, 2) := by decide +kernel
theorem dL_law_197 : decode cL_law 197 = .ok (.iconst 2, 1) := by decide +kernel
theorem dL_law_198 : decode cL_law 198 = .ok (.iadd, 1) := by decide +kernel
theorem dL_law_199 : decode cL_law 199 = .ok (.iaload, 1) := by decide +kernel
theorem dL_law_200 : decode cL_law 200 = .ok (.aload_n 0, 1) := by decide +kernel
theorem dL_law_201 : decode cL_law 201 = .ok (.iload 4, 2) := by decide +kernel
theorem dL_law_203 : decode cL_law 203 = .ok (.iconst 3, 1) := by decide +kernel
theorem dL_law_204 : decode cL_law 204 = .ok (.iadd, 1) := by decide +kernel
theorem dL_law_205 : decode cL_law 205 = .ok (.iaload, 1) := by decide +kernel
theorem dL_law_206 : decode cL_law 206 = .ok (.aload_n 0, 1) := by decide +kernel
theorem dL_law_207 : decode cL_law 207 = .ok (.iload 4, 2) := by decide +kernel
theorem dL_law_209 : decode cL_law 209 = .ok (.iconst 4, 1) := by decide +kernel
theorem dL_law_210 : decode cL_law 210 = .ok (.iadd, 1) := by decide +kernel
theorem dL_law_211 : decode cL_law 211 = .ok (.iaload, 1) := by decide +kernel
theorem dL_law_212 : decode cL_law 212 = .ok (.invokevirtual 88, 3) := by decide +kernel
theorem dL_law_215 : decode cL_law 215 = .ok (.istore 6, 2) := by decide +kernel
theorem dL_law_217 : decode cL_law 217 = .ok (.aload_n 2, 1) := by decide +kernel
theorem dL_law_218 : decode cL_law 218 = .ok (.invokevirtual 89, 3) := by decide +kernel
theorem dL_law_221 : decode cL_law 221 = .ok (.iload 5, 2) := by decide +kernel
theorem dL_law_223 : decode cL_law 223 = .ok (.if_icmp .eq 5, 3) := by decide +kernel
theorem dL_law_226 : decode cL_law 226 = .ok (.iconst 0, 1) := by decide +kernel
theorem dL_law_227 : decode cL_law 227 = .ok (.ireturn, 1) := by decide +kernel
theorem dL_law_228 : decode cL_law 228 = .ok (.iload 5, 2) := by decide +kernel
theorem dL_law_230 : decode cL_law 230 = .ok (.ifCond .ne 15, 3) := by decide +kernel
theorem dL_law_233 : decode cL_law 233 = .ok (.aload_n 3, 1) := by decide +kernel
theorem dL_law_234 : decode cL_law 234 = .ok (.iconst 0, 1) := by decide +kernel
theorem dL_law_235 : decode cL_law 235 = .ok (.laload, 1) := by decide +kernel
theorem dL_law_236 : decode cL_law 236 = .ok (.iload 6, 2) := by decide +kernel
theorem dL_law_238 : decode cL_law 238 = .ok (.i2l, 1) := by decide +kernel
theorem dL_law_239 : decode cL_law 239 = .ok (.lcmp, 1) := by decide +kernel
theorem dL_law_240 : decode cL_law 240 = .ok (.ifCond .eq 5, 3) := by decide +kernel
theorem dL_law_243 : decode cL_law 243 = .ok (.iconst 0, 1) := by decide +kernel
theorem dL_law_244 : decode cL_law 244 = .ok (.ireturn, 1) := by decide +kernel
theorem dL_law_245 : decode cL_law 245 = .ok (.goto 1229, 3) := by decide +kernel
theorem dL_law_248 : decode cL_law 248 = .ok (.aload_n 1, 1) := by decide +kernel
theorem dL_law_249 : decode cL_law 249 = .ok (.aload_n 0, 1) := by decide +kernel
theorem dL_law_250 : decode cL_law 250 = .ok (.iload 4, 2) := by decide +kernel
theorem dL_law_252 : decode cL_law 252 = .ok (.iconst 1, 1) := by decide +kernel
theorem dL_law_253 : decode cL_law 253 = .ok (.iadd, 1) := by decide +kernel
theorem dL_law_254 : decode cL_law 254 = .ok (.iaload, 1) := by decide +kernel
theorem dL_law_255 : decode cL_law 255 = .ok (.aload_n 0, 1) := by decide +kernel
theorem dL_law_256 : decode cL_law 256 = .ok (.iload 4, 2) := by decide +kernel
theorem dL_law_258 : decode cL_law 258 = .ok (.iconst 2, 1) := by decide +kernel
theorem dL_law_259 : decode cL_law 259 = .ok (.iadd, 1) := by decide +kernel
theorem dL_law_260 : decode cL_law 260 = .ok (.iaload, 1) := by decide +kernel
theorem dL_law_261 : decode cL_law 261 = .ok (.aload_n 3, 1) := by decide +kernel
theorem dL_law_262 : decode cL_law 262 = .ok (.invokestatic 93, 3) := by decide +kernel
theorem dL_law_265 : decode cL_law 265 = .ok (.istore 5, 2) := by decide +kernel
theorem dL_law_267 : decode cL_law 267 = .ok (.aload_n 2, 1) := by decide +kernel
theorem dL_law_268 : decode cL_law 268 = .ok (.aload_n 0, 1) := by decide +kernel
theorem dL_law_269 : decode cL_law 269 = .ok (.iload 4, 2) := by decide +kernel
theorem dL_law_271 : decode cL_law 271 = .ok (.iconst 1, 1) := by decide +kernel
theorem dL_law_272 : decode cL_law 272 = .ok (.iadd, 1) := by decide +kernel
theorem dL_law_273 : decode cL_law 273 = .ok (.iaload, 1) := by decide +kernel
theorem dL_law_274 : decode cL_law 274 = .ok (.aload_n 0, 1) := by decide +kernel
theorem dL_law_275 : decode cL_law 275 = .ok (.iload 4, 2) := by decide +kernel
theorem dL_law_277 : decode cL_law 277 = .ok (.iconst 2, 1) := by decide +kernel
theorem dL_law_278 : decode cL_law 278 = .ok (.iadd, 1) := by decide +kernel
theorem dL_law_279 : decode cL_law 279 = .ok (.iaload, 1) := by decide +kernel
theorem dL_law_280 : decode cL_law 280 = .ok (.invokevirtual 96, 3) := by decide +kernel
theorem dL_law_283 : decode cL_law 283 = .ok (.istore 6, 2) := by decide +kernel
theorem dL_law_285 : decode cL_law 285 = .ok (.aload_n 2, 1) := by decide +kernel
theorem dL_law_286 : decode cL_law 286 = .ok (.invokevirtual 89, 3) := by decide +kernel
theorem dL_law_289 : decode cL_law 289 = .ok (.iload 5, 2) := by decide +kernel
theorem dL_law_291 : decode cL_law 291 = .ok (.if_icmp .eq 5, 3) := by decide +kernel
theorem dL_law_294 : decode cL_law 294 = .ok (.iconst 0, 1) := by decide +kernel
theorem dL_law_295 : decode cL_law 295 = .ok (.ireturn, 1) := by decide +kernel
theorem dL_law_296 : decode cL_law 296 = .ok (.iload 5, 2) := by decide +kernel
theorem dL_law_298 : decode cL_law 298 = .ok (.ifCond .ne 15, 3) := by decide +kernel
theorem dL_law_301 : decode cL_law 301 = .ok (.aload_n 3, 1) := by decide +kernel
theorem dL_law_302 : decode cL_law 302 = .ok (.iconst 0, 1) := by decide +kernel
theorem dL_law_303 : decode cL_law 303 = .ok (.laload, 1) := by decide +kernel
theorem dL_law_304 : decode cL_law 304 = .ok (.iload 6, 2) := by decide +kernel
theorem dL_law_306 : decode cL_law 306 = .ok (.i2l, 1) := by decide +kernel
theorem dL_law_307 : decode cL_law 307 = .ok (.lcmp, 1) := by decide +kernel
theorem dL_law_308 : decode cL_law 308 = .ok (.ifCond .eq 5, 3) := by decide +kernel
theorem dL_law_311 : decode cL_law 311 = .ok (.iconst 0, 1) := by decide +kernel
theorem dL_law_312 : decode cL_law 312 = .ok (.ireturn, 1) := by decide +kernel
theorem dL_law_313 : decode cL_law 313 = .ok (.goto 1161, 3) := by decide +kernel
theorem dL_law_316 : decode cL_law 316 = .ok (.aload_n 1, 1) := by decide +kernel
theorem dL_law_317 : decode cL_law 317 = .ok (.aload_n 0, 1) := by decide +kernel
theorem dL_law_318 : decode cL_law 318 = .ok (.iload 4, 2) := by decide +kernel
theorem dL_law_320 : decode cL_law 320 = .ok (.iconst 1, 1) := by decide +kernel
theorem dL_law_321 : decode cL_law 321 = .ok (.iadd, 1) := by decide +kernel
theorem dL_law_322 : decode cL_law 322 = .ok (.iaload, 1) := by decide +kernel
theorem dL_law_323 : decode cL_law 323 = .ok (.aload_n 0, 1) := by decide +kernel
theorem dL_law_324 : decode cL_law 324 = .ok (.iload 4, 2) := by decide +kernel
theorem dL_law_326 : decode cL_law 326 = .ok (.iconst 2, 1) := by decide +kernel
theorem dL_law_327 : decode cL_law 327 = .ok (.iadd, 1) := by decide +kernel
theorem dL_law_328 : decode cL_law 328 = .ok (.iaload, 1) := by decide +kernel
theorem dL_law_329 : decode cL_law 329 = .ok (.aload_n 0, 1) := by decide +kernel
theorem dL_law_330 : decode cL_law 330 = .ok (.iload 4, 2) := by decide +kernel
theorem dL_law_332 : decode cL_law 332 = .ok (.iconst 3, 1) := by decide +kernel
theorem dL_law_333 : decode cL_law 333 = .ok (.iadd, 1) := by decide +kernel
theorem dL_law_334 : decode cL_law 334 = .ok (.iaload, 1) := by decide +kernel
theorem dL_law_335 : decode cL_law 335 = .ok (.aload_n 0, 1) := by decide +kernel
theorem dL_law_336 : decode cL_law 336 = .ok (.iload 4, 2) := by decide +kernel
theorem dL_law_338 : decode cL_law 338 = .ok (.iconst 4, 1) := by decide +kernel
theorem dL_law_339 : decode cL_law 339 = .ok (.iadd, 1) := by decide +kernel
theorem dL_law_340 : decode cL_law 340 = .ok (.iaload, 1) := by decide +kernel
theorem dL_law_341 : decode cL_law 341 = .ok (.aload_n 3, 1) := by decide +kernel
theorem dL_law_342 : decode cL_law 342 = .ok (.invokestatic 97, 3) := by decide +kernel
theorem dL_law_345 : decode cL_law 345 = .ok (.istore 5, 2) := by decide +kernel
theorem dL_law_347 : decode cL_law 347 = .ok (.aload_n 2, 1) := by decide +kernel
theorem dL_law_348 : decode cL_law 348 = .ok (.aload_n 0, 1) := by decide +kernel
theorem dL_law_349 : decode cL_law 349 = .ok (.iload 4, 2) := by decide +kernel
theorem dL_law_351 : decode cL_law 351 = .ok (.iconst 1, 1) := by decide +kernel
theorem dL_law_352 : decode cL_law 352 = .ok (.iadd, 1) := by decide +kernel
theorem dL_law_353 : decode cL_law 353 = .ok (.iaload, 1) := by decide +kernel
theorem dL_law_354 : decode cL_law 354 = .ok (.aload_n 0, 1) := by decide +kernel
theorem dL_law_355 : decode cL_law 355 = .ok (.iload 4, 2) := by decide +kernel
theorem dL_law_357 : decode cL_law 357 = .ok (.iconst 2, 1) := by decide +kernel
theorem dL_law_358 : decode cL_law 358 = .ok (.iadd, 1) := by decide +kernel
theorem dL_law_359 : decode cL_law 359 = .ok (.iaload, 1) := by decide +kernel
theorem dL_law_360 : decode cL_law 360 = .ok (.aload_n 0, 1) := by decide +kernel
theorem dL_law_361 : decode cL_law 361 = .ok (.iload 4, 2) := by decide +kernel
theorem dL_law_363 : decode cL_law 363 = .ok (.iconst 3, 1) := by decide +kernel
theorem dL_law_364 : decode cL_law 364 = .ok (.iadd, 1) := by decide +kernel
theorem dL_law_365 : decode cL_law 365 = .ok (.iaload, 1) := by decide +kernel
theorem dL_law_366 : decode cL_law 366 = .ok (.aload_n 0, 1) := by decide +kernel
theorem dL_law_367 : decode cL_law 367 = .ok (.iload 4, 2) := by decide +kernel
theorem dL_law_369 : decode cL_law 369 = .ok (.iconst 4, 1) := by decide +kernel
theorem dL_law_370 : decode cL_law 370 = .ok (.iadd, 1) := by decide +kernel
theorem dL_law_371 : decode cL_law 371 = .ok (.iaload, 1) := by decide +kernel
theorem dL_law_372 : decode cL_law 372 = .ok (.invokevirtual 99, 3) := by decide +kernel
theorem dL_law_375 : decode cL_law 375 = .ok (.istore 6, 2) := by decide +kernel
theorem dL_law_377 : decode cL_law 377 = .ok (.aload_n 2, 1) := by decide +kernel
theorem dL_law_378 : decode cL_law 378 = .ok (.invokevirtual 89, 3) := by decide +kernel
theorem dL_law_381 : decode cL_law 381 = .ok (.iload 5, 2) := by decide +kernel
theorem dL_law_383 : decode cL_law 383 = .ok (.if_icmp .eq 5, 3) := by decide +kernel
theorem dL_law_386 : decode cL_law 386 = .ok (.iconst 0, 1) := by decide +kernel
theorem dL_law_387 : decode cL_law 387 = .ok (.ireturn, 1) := by decide +kernel
theorem dL_law_388 : decode cL_law 388 = .ok (.iload 5, 2) := by decide +kernel
theorem dL_law_390 : decode cL_law 390 = .ok (.ifCond .ne 15, 3) := by decide +kernel
theorem dL_law_393 : decode cL_law 393 = .ok (.aload_n 3, 1) := by decide +kernel
theorem dL_law_394 : decode cL_law 394 = .ok (.iconst 0, 1) := by decide +kernel
theorem dL_law_395 : decode cL_law 395 = .ok (.laload, 1) := by decide +kernel
theorem dL_law_396 : decode cL_law 396 = .ok (.iload 6, 2) := by decide +kernel
theorem dL_law_398 : decode cL_law 398 = .ok (.i2l, 1) := by decide +kernel
theorem dL_law_399 : decode cL_law 399 = .ok (.lcmp, 1) := by decide +kernel
theorem dL_law_400 : decode cL_law 400 = .ok (.ifCond .eq 5, 3) := by decide +kernel
theorem dL_law_403 : decode cL_law 403 = .ok (.iconst 0, 1) := by decide +kernel
theorem dL_law_404 : decode cL_law 404 = .ok (.ireturn, 1) := by decide +kernel
theorem dL_law_405 : decode cL_law 405 = .ok (.goto 1069, 3) := by decide +kernel
theorem dL_law_408 : decode cL_law 408 = .ok (.aload_n 1, 1) := by decide +kernel
theorem dL_law_409 : decode cL_law 409 = .ok (.aload_n 0, 1) := by decide +kernel
theorem dL_law_410 : decode cL_law 410 = .ok (.iload 4, 2) := by decide +kernel
theorem dL_law_412 : decode cL_law 412 = .ok (.iconst 1, 1) := by decide +kernel
theorem dL_law_413 : decode cL_law 413 = .ok (.iadd, 1) := by decide +kernel
theorem dL_law_414 : decode cL_law 414 = .ok (.iaload, 1) := by decide +kernel
theorem dL_law_415 : decode cL_law 415 = .ok (.aload_n 3, 1) := by decide +kernel
theorem dL_law_416 : decode cL_law 416 = .ok (.invokestatic 100, 3) := by decide +kernel
theorem dL_law_419 : decode cL_law 419 = .ok (.istore 5, 2) := by decide +kernel
theorem dL_law_421 : decode cL_law 421 = .ok (.aload_n 2, 1) := by decide +kernel
theorem dL_law_422 : decode cL_law 422 = .ok (.aload_n 0, 1) := by decide +kernel
theorem dL_law_423 : decode cL_law 423 = .ok (.iload 4, 2) := by decide +kernel
theorem dL_law_425 : decode cL_law 425 = .ok (.iconst 1, 1) := by decide +kernel
theorem dL_law_426 : decode cL_law 426 = .ok (.iadd, 1) := by decide +kernel
theorem dL_law_427 : decode cL_law 427 = .ok (.iaload, 1) := by decide +kernel
theorem dL_law_428 : decode cL_law 428 = .ok (.invokevirtual 103, 3) := by decide +kernel
theorem dL_law_431 : decode cL_law 431 = .ok (.istore 6, 2) := by decide +kernel
theorem dL_law_433 : decode cL_law 433 = .ok (.aload_n 2, 1) := by decide +kernel
theorem dL_law_434 : decode cL_law 434 = .ok (.invokevirtual 89, 3) := by decide +kernel
theorem dL_law_437 : decode cL_law 437 = .ok (.iload 5, 2) := by decide +kernel
theorem dL_law_439 : decode cL_law 439 = .ok (.if_icmp .eq 5, 3) := by decide +kernel
theorem dL_law_442 : decode cL_law 442 = .ok (.iconst 0, 1) := by decide +kernel
theorem dL_law_443 : decode cL_law 443 = .ok (.ireturn, 1) := by decide +kernel
theorem dL_law_444 : decode cL_law 444 = .ok (.iload 5, 2) := by decide +kernel
theorem dL_law_446 : decode cL_law 446 = .ok (.ifCond .ne 15, 3) := by decide +kernel
theorem dL_law_449 : decode cL_law 449 = .ok (.aload_n 3, 1) := by decide +kernel
theorem dL_law_450 : decode cL_law 450 = .ok (.iconst 0, 1) := by decide +kernel
theorem dL_law_451 : decode cL_law 451 = .ok (.laload, 1) := by decide +kernel
theorem dL_law_452 : decode cL_law 452 = .ok (.iload 6, 2) := by decide +kernel
theorem dL_law_454 : decode cL_law 454 = .ok (.i2l, 1) := by decide +kernel
theorem dL_law_455 : decode cL_law 455 = .ok (.lcmp, 1) := by decide +kernel
theorem dL_law_456 : decode cL_law 456 = .ok (.ifCond .eq 5, 3) := by decide +kernel
theorem dL_law_459 : decode cL_law 459 = .ok (.iconst 0, 1) := by decide +kernel
theorem dL_law_460 : decode cL_law 460 = .ok (.ireturn, 1) := by decide +kernel
theorem dL_law_461 : decode cL_law 461 = .ok (.goto 1013, 3) := by decide +kernel
theorem dL_law_464 : decode cL_law 464 = .ok (.aload_n 1, 1) := by decide +kernel
theorem dL_law_465 : decode cL_law 465 = .ok (.aload_n 0, 1) := by decide +kernel
theorem dL_law_466 : decode cL_law 466 = .ok (.iload 4, 2) := by decide +kernel
theorem dL_law_468 : decode cL_law 468 = .ok (.iconst 1, 1) := by decide +kernel
theorem dL_law_469 : decode cL_law 469 = .ok (.iadd, 1) := by decide +kernel
theorem dL_law_470 : decode cL_law 470 = .ok (.iaload, 1) := by decide +kernel
theorem dL_law_471 : decode cL_law 471 = .ok (.aload_n 3, 1) := by decide +kernel
theorem dL_law_472 : decode cL_law 472 = .ok (.invokestatic 104, 3) := by decide +kernel
theorem dL_law_475 : decode cL_law 475 = .ok (.istore 5, 2) := by decide +kernel
theorem dL_law_477 : decode cL_law 477 = .ok (.aload_n 2, 1) := by decide +kernel
theorem dL_law_478 : decode cL_law 478 = .ok (.aload_n 0, 1) := by decide +kernel
theorem dL_law_479 : decode cL_law 479 = .ok (.iload 4, 2) := by decide +kernel
theorem dL_law_481 : decode cL_law 481 = .ok (.iconst 1, 1) := by decide +kernel
theorem dL_law_482 : decode cL_law 482 = .ok (.iadd, 1) := by decide +kernel
theorem dL_law_483 : decode cL_law 483 = .ok (.iaload, 1) := by decide +kernel
theorem dL_law_484 : decode cL_law 484 = .ok (.invokevirtual 106, 3) := by decide +kernel
theorem dL_law_487 : decode cL_law 487 = .ok (.istore 6, 2) := by decide +kernel
theorem dL_law_489 : decode cL_law 489 = .ok (.aload_n 2, 1) := by decide +kernel
theorem dL_law_490 : decode cL_law 490 = .ok (.invokevirtual 89, 3) := by decide +kernel
theorem dL_law_493 : decode cL_law 493 = .ok (.iload 5, 2) := by decide +kernel
theorem dL_law_495 : decode cL_law 495 = .ok (.if_icmp .eq 5, 3) := by decide +kernel
theorem dL_law_498 : decode cL_law 498 = .ok (.iconst 0, 1) := by decide +kernel
theorem dL_law_499 : decode cL_law 499 = .ok (.ireturn, 1) := by decide +kernel
theorem dL_law_500 : decode cL_law 500 = .ok (.iload 5, 2) := by decide +kernel
theorem dL_law_502 : decode cL_law 502 = .ok (.ifCond .ne 15, 3) := by decide +kernel
theorem dL_law_505 : decode cL_law 505 = .ok (.aload_n 3, 1) := by decide +kernel
theorem dL_law_506 : decode cL_law 506 = .ok (.iconst 0, 1) := by decide +kernel
theorem dL_law_507 : decode cL_law 507 = .ok (.laload, 1) := by decide +kernel
theorem dL_law_508 : decode cL_law 508 = .ok (.iload 6, 2) := by decide +kernel
theorem dL_law_510 : decode cL_law 510 = .ok (.i2l, 1) := by decide +kernel
theorem dL_law_511 : decode cL_law 511 = .ok (.lcmp, 1) := by decide +kernel
theorem dL_law_512 : decode cL_law 512 = .ok (.ifCond .eq 5, 3) := by decide +kernel
theorem dL_law_515 : decode cL_law 515 = .ok (.iconst 0, 1) := by decide +kernel
theorem dL_law_516 : decode cL_law 516 = .ok (.ireturn, 1) := by decide +kernel
theorem dL_law_517 : decode cL_law 517 = .ok (.goto 957, 3) := by decide +kernel
theorem dL_law_520 : decode cL_law 520 = .ok (.aload_n 1, 1) := by decide +kernel
theorem dL_law_521 : decode cL_law 521 = .ok (.aload_n 0, 1) := by decide +kernel
theorem dL_law_522 : decode cL_law 522 = .ok (.iload 4, 2) := by decide +kernel
theorem dL_law_524 : decode cL_law 524 = .ok (.iconst 1, 1) := by decide +kernel
theorem dL_law_525 : decode cL_law 525 = .ok (.iadd, 1) := by decide +kernel
theorem dL_law_526 : decode cL_law 526 = .ok (.iaload, 1) := by decide +kernel
theorem dL_law_527 : decode cL_law 527 = .ok (.aload_n 0, 1) := by decide +kernel
theorem dL_law_528 : decode cL_law 528 = .ok (.iload 4, 2) := by decide +kernel
theorem dL_law_530 : decode cL_law 530 = .ok (.iconst 2, 1) := by decide +kernel
theorem dL_law_531 : decode cL_law 531 = .ok (.iadd, 1) := by decide +kernel
theorem dL_law_532 : decode cL_law 532 = .ok (.iaload, 1) := by decide +kernel
theorem dL_law_533 : decode cL_law 533 = .ok (.aload_n 0, 1) := by decide +kernel
theorem dL_law_534 : decode cL_law 534 = .ok (.iload 4, 2) := by decide +kernel
theorem dL_law_536 : decode cL_law 536 = .ok (.iconst 3, 1) := by decide +kernel
theorem dL_law_537 : decode cL_law 537 = .ok (.iadd, 1) := by decide +kernel
theorem dL_law_538 : decode cL_law 538 = .ok (.iaload, 1) := by decide +kernel
theorem dL_law_539 : decode cL_law 539 = .ok (.aload_n 3, 1) := by decide +kernel
theorem dL_law_540 : decode cL_law 540 = .ok (.invokestatic 107, 3) := by decide +kernel
theorem dL_law_543 : decode cL_law 543 = .ok (.istore 5, 2) := by decide +kernel
theorem dL_law_545 : decode cL_law 545 = .ok (.aload_n 2, 1) := by decide +kernel
theorem dL_law_546 : decode cL_law 546 = .ok (.aload_n 0, 1) := by decide +kernel
theorem dL_law_547 : decode cL_law 547 = .ok (.iload 4, 2) := by decide +kernel
theorem dL_law_549 : decode cL_law 549 = .ok (.iconst 1, 1) := by decide +kernel
theorem dL_law_550 : decode cL_law 550 = .ok (.iadd, 1) := by decide +kernel
theorem dL_law_551 : decode cL_law 551 = .ok (.iaload, 1) := by decide +kernel
theorem dL_law_552 : decode cL_law 552 = .ok (.aload_n 0, 1) := by decide +kernel
theorem dL_law_553 : decode cL_law 553 = .ok (.iload 4, 2) := by decide +kernel
theorem dL_law_555 : decode cL_law 555 = .ok (.iconst 2, 1) := by decide +kernel
theorem dL_law_556 : decode cL_law 556 = .ok (.iadd, 1) := by decide +kernel
theorem dL_law_557 : decode cL_law 557 = .ok (.iaload, 1) := by decide +kernel
theorem dL_law_558 : decode cL_law 558 = .ok (.aload_n 0, 1) := by decide +kernel
theorem dL_law_559 : decode cL_law 559 = .ok (.iload 4, 2) := by decide +kernel
theorem dL_law_561 : decode cL_law 561 = .ok (.iconst 3, 1) := by decide +kernel
theorem dL_law_562 : decode cL_law 562 = .ok (.iadd, 1) := by decide +kernel
theorem dL_law_563 : decode cL_law 563 = .ok (.iaload, 1) := by decide +kernel
theorem dL_law_564 : decode cL_law 564 = .ok (.invokevirtual 110, 3) := by decide +kernel
theorem dL_law_567 : decode cL_law 567 = .ok (.istore 6, 2) := by decide +kernel
theorem dL_law_569 : decode cL_law 569 = .ok (.aload_n 2, 1) := by decide +kernel
theorem dL_law_570 : decode cL_law 570 = .ok (.invokevirtual 89, 3) := by decide +kernel
theorem dL_law_573 : decode cL_law 573 = .ok (.iload 5, 2) := by decide +kernel
theorem dL_law_575 : decode cL_law 575 = .ok (.if_icmp .eq 5, 3) := by decide +kernel
theorem dL_law_578 : decode cL_law 578 = .ok (.iconst 0, 1) := by decide +kernel
theorem dL_law_579 : decode cL_law 579 = .ok (.ireturn, 1) := by decide +kernel
theorem dL_law_580 : decode cL_law 580 = .ok (.iload 5, 2) := by decide +kernel
theorem dL_law_582 : decode cL_law 582 = .ok (.ifCond .ne 15, 3) := by decide +kernel
theorem dL_law_585 : decode cL_law 585 = .ok (.aload_n 3, 1) := by decide +kernel
theorem dL_law_586 : decode cL_law 586 = .ok (.iconst 0, 1) := by decide +kernel
theorem dL_law_587 : decode cL_law 587 = .ok (.laload, 1) := by decide +kernel
theorem dL_law_588 : decode cL_law 588 = .ok (.iload 6, 2) := by decide +kernel
theorem dL_law_590 : decode cL_law 590 = .ok (.i2l, 1) := by decide +kernel
theorem dL_law_591 : decode cL_law 591 = .ok (.lcmp, 1) := by decide +kernel
theorem dL_law_592 : decode cL_law 592 = .ok (.ifCond .eq 5, 3) := by decide +kernel
theorem dL_law_595 : decode cL_law 595 = .ok (.iconst 0, 1) := by decide +kernel
theorem dL_law_596 : decode cL_law 596 = .ok (.ireturn, 1) := by decide +kernel
theorem dL_law_597 : decode cL_law 597 = .ok (.goto 877, 3) := by decide +kernel
theorem dL_law_600 : decode cL_law 600 = .ok (.aload_n 1, 1) := by decide +kernel
theorem dL_law_601 : decode cL_law 601 = .ok (.invokevirtual 111, 3) := by decide +kernel
theorem dL_law_604 : decode cL_law 604 = .ok (.aload_n 2, 1) := by decide +kernel
theorem dL_law_605 : decode cL_law 605 = .ok (.invokevirtual 114, 3) := by decide +kernel
theorem dL_law_608 : decode cL_law 608 = .ok (.if_icmp .eq 866, 3) := by decide +kernel
theorem dL_law_611 : decode cL_law 611 = .ok (.iconst 0, 1) := by decide +kernel
theorem dL_law_612 : decode cL_law 612 = .ok (.ireturn, 1) := by decide +kernel
theorem dL_law_613 : decode cL_law 613 = .ok (.aload_n 1, 1) := by decide +kernel
theorem dL_law_614 : decode cL_law 614 = .ok (.aload_n 0, 1) := by decide +kernel
theorem dL_law_615 : decode cL_law 615 = .ok (.iload 4, 2) := by decide +kernel
theorem dL_law_617 : decode cL_law 617 = .ok (.iconst 1, 1) := by decide +kernel
theorem dL_law_618 : decode cL_law 618 = .ok (.iadd, 1) := by decide +kernel
theorem dL_law_619 : decode cL_law 619 = .ok (.iaload, 1) := by decide +kernel
theorem dL_law_620 : decode cL_law 620 = .ok (.aload_n 3, 1) := by decide +kernel
theorem dL_law_621 : decode cL_law 621 = .ok (.invokestatic 115, 3) := by decide +kernel
theorem dL_law_624 : decode cL_law 624 = .ok (.istore 5, 2) := by decide +kernel
theorem dL_law_626 : decode cL_law 626 = .ok (.aload_n 2, 1) := by decide +kernel
theorem dL_law_627 : decode cL_law 627 = .ok (.aload_n 0, 1) := by decide +kernel
theorem dL_law_628 : decode cL_law 628 = .ok (.iload 4, 2) := by decide +kernel
theorem dL_law_630 : decode cL_law 630 = .ok (.iconst 1, 1) := by decide +kernel
theorem dL_law_631 : decode cL_law 631 = .ok (.iadd, 1) := by decide +kernel
theorem dL_law_632 : decode cL_law 632 = .ok (.iaload, 1) := by decide +kernel
theorem dL_law_633 : decode cL_law 633 = .ok (.invokevirtual 117, 3) := by decide +kernel
theorem dL_law_636 : decode cL_law 636 = .ok (.istore 6, 2) := by decide +kernel
theorem dL_law_638 : decode cL_law 638 = .ok (.aload_n 2, 1) := by decide +kernel
theorem dL_law_639 : decode cL_law 639 = .ok (.invokevirtual 89, 3) := by decide +kernel
theorem dL_law_642 : decode cL_law 642 = .ok (.iload 5, 2) := by decide +kernel
theorem dL_law_644 : decode cL_law 644 = .ok (.if_icmp .eq 5, 3) := by decide +kernel
theorem dL_law_647 : decode cL_law 647 = .ok (.iconst 0, 1) := by decide +kernel
theorem dL_law_648 : decode cL_law 648 = .ok (.ireturn, 1) := by decide +kernel
theorem dL_law_649 : decode cL_law 649 = .ok (.iload 5, 2) := by decide +kernel
theorem dL_law_651 : decode cL_law 651 = .ok (.ifCond .ne 15, 3) := by decide +kernel
theorem dL_law_654 : decode cL_law 654 = .ok (.aload_n 3, 1) := by decide +kernel
theorem dL_law_655 : decode cL_law 655 = .ok (.iconst 0, 1) := by decide +kernel
theorem dL_law_656 : decode cL_law 656 = .ok (.laload, 1) := by decide +kernel
theorem dL_law_657 : decode cL_law 657 = .ok (.iload 6, 2) := by decide +kernel
theorem dL_law_659 : decode cL_law 659 = .ok (.i2l, 1) := by decide +kernel
theorem dL_law_660 : decode cL_law 660 = .ok (.lcmp, 1) := by decide +kernel
theorem dL_law_661 : decode cL_law 661 = .ok (.ifCond .eq 5, 3) := by decide +kernel
theorem dL_law_664 : decode cL_law 664 = .ok (.iconst 0, 1) := by decide +kernel
theorem dL_law_665 : decode cL_law 665 = .ok (.ireturn, 1) := by decide +kernel
theorem dL_law_666 : decode cL_law 666 = .ok (.goto 808, 3) := by decide +kernel
theorem dL_law_669 : decode cL_law 669 = .ok (.aload_n 1, 1) := by decide +kernel
theorem dL_law_670 : decode cL_law 670 = .ok (.invokevirtual 118, 3) := by decide +kernel
theorem dL_law_673 : decode cL_law 673 = .ok (.aload_n 2, 1) := by decide +kernel
theorem dL_law_674 : decode cL_law 674 = .ok (.invokevirtual 121, 3) := by decide +kernel
theorem dL_law_677 : decode cL_law 677 = .ok (.if_icmp .eq 797, 3) := by decide +kernel
theorem dL_law_680 : decode cL_law 680 = .ok (.iconst 0, 1) := by decide +kernel
theorem dL_law_681 : decode cL_law 681 = .ok (.ireturn, 1) := by decide +kernel
theorem dL_law_682 : decode cL_law 682 = .ok (.aload_n 1, 1) := by decide +kernel
theorem dL_law_683 : decode cL_law 683 = .ok (.invokevirtual 122, 3) := by decide +kernel
theorem dL_law_686 : decode cL_law 686 = .ok (.aload_n 2, 1) := by decide +kernel
theorem dL_law_687 : decode cL_law 687 = .ok (.invokevirtual 125, 3) := by decide +kernel
theorem dL_law_690 : decode cL_law 690 = .ok (.if_icmp .eq 784, 3) := by decide +kernel
theorem dL_law_693 : decode cL_law 693 = .ok (.iconst 0, 1) := by decide +kernel
theorem dL_law_694 : decode cL_law 694 = .ok (.ireturn, 1) := by decide +kernel
theorem dL_law_695 : decode cL_law 695 = .ok (.aload_n 1, 1) := by decide +kernel
theorem dL_law_696 : decode cL_law 696 = .ok (.aload_n 0, 1) := by decide +kernel
theorem dL_law_697 : decode cL_law 697 = .ok (.iload 4, 2) := by decide +kernel
theorem dL_law_699 : decode cL_law 699 = .ok (.iconst 1, 1) := by decide +kernel
theorem dL_law_700 : decode cL_law 700 = .ok (.iadd, 1) := by decide +kernel
theorem dL_law_701 : decode cL_law 701 = .ok (.iaload, 1) := by decide +kernel
theorem dL_law_702 : decode cL_law 702 = .ok (.aload_n 3, 1) := by decide +kernel
theorem dL_law_703 : decode cL_law 703 = .ok (.invokestatic 126, 3) := by decide +kernel
theorem dL_law_706 : decode cL_law 706 = .ok (.istore 5, 2) := by decide +kernel
theorem dL_law_708 : decode cL_law 708 = .ok (.aload_n 2, 1) := by decide +kernel
theorem dL_law_709 : decode cL_law 709 = .ok (.aload_n 0, 1) := by decide +kernel
theorem dL_law_710 : decode cL_law 710 = .ok (.iload 4, 2) := by decide +kernel
theorem dL_law_712 : decode cL_law 712 = .ok (.iconst 1, 1) := by decide +kernel
theorem dL_law_713 : decode cL_law 713 = .ok (.iadd, 1) := by decide +kernel
theorem dL_law_714 : decode cL_law 714 = .ok (.iaload, 1) := by decide +kernel
theorem dL_law_715 : decode cL_law 715 = .ok (.invokevirtual 128, 3) := by decide +kernel
theorem dL_law_718 : decode cL_law 718 = .ok (.istore 6, 2) := by decide +kernel
theorem dL_law_720 : decode cL_law 720 = .ok (.aload_n 2, 1) := by decide +kernel
theorem dL_law_721 : decode cL_law 721 = .ok (.invokevirtual 89, 3) := by decide +kernel
theorem dL_law_724 : decode cL_law 724 = .ok (.iload 5, 2) := by decide +kernel
theorem dL_law_726 : decode cL_law 726 = .ok (.if_icmp .eq 5, 3) := by decide +kernel
theorem dL_law_729 : decode cL_law 729 = .ok (.iconst 0, 1) := by decide +kernel
theorem dL_law_730 : decode cL_law 730 = .ok (.ireturn, 1) := by decide +kernel
theorem dL_law_731 : decode cL_law 731 = .ok (.iload 5, 2) := by decide +kernel
theorem dL_law_733 : decode cL_law 733 = .ok (.ifCond .ne 15, 3) := by decide +kernel
theorem dL_law_736 : decode cL_law 736 = .ok (.aload_n 3, 1) := by decide +kernel
theorem dL_law_737 : decode cL_law 737 = .ok (.iconst 0, 1) := by decide +kernel
theorem dL_law_738 : decode cL_law 738 = .ok (.laload, 1) := by decide +kernel
theorem dL_law_739 : decode cL_law 739 = .ok (.iload 6, 2) := by decide +kernel
theorem dL_law_741 : decode cL_law 741 = .ok (.i2l, 1) := by decide +kernel
theorem dL_law_742 : decode cL_law 742 = .ok (.lcmp, 1) := by decide +kernel
theorem dL_law_743 : decode cL_law 743 = .ok (.ifCond .eq 5, 3) := by decide +kernel
theorem dL_law_746 : decode cL_law 746 = .ok (.iconst 0, 1) := by decide +kernel
theorem dL_law_747 : decode cL_law 747 = .ok (.ireturn, 1) := by decide +kernel
theorem dL_law_748 : decode cL_law 748 = .ok (.goto 726, 3) := by decide +kernel
theorem dL_law_751 : decode cL_law 751 = .ok (.aload_n 1, 1) := by decide +kernel
theorem dL_law_752 : decode cL_law 752 = .ok (.aload_n 0, 1) := by decide +kernel
theorem dL_law_753 : decode cL_law 753 = .ok (.iload 4, 2) := by decide +kernel
theorem dL_law_755 : decode cL_law 755 = .ok (.iconst 1, 1) := by decide +kernel
theorem dL_law_756 : decode cL_law 756 = .ok (.iadd, 1) := by decide +kernel
theorem dL_law_757 : decode cL_law 757 = .ok (.iaload, 1) := by decide +kernel
theorem dL_law_758 : decode cL_law 758 = .ok (.aload_n 3, 1) := by decide +kernel
theorem dL_law_759 : decode cL_law 759 = .ok (.invokestatic 129, 3) := by decide +kernel
theorem dL_law_762 : decode cL_law 762 = .ok (.istore 5, 2) := by decide +kernel
theorem dL_law_764 : decode cL_law 764 = .ok (.aload_n 2, 1) := by decide +kernel
theorem dL_law_765 : decode cL_law 765 = .ok (.aload_n 0, 1) := by decide +kernel
theorem dL_law_766 : decode cL_law 766 = .ok (.iload 4, 2) := by decide +kernel
theorem dL_law_768 : decode cL_law 768 = .ok (.iconst 1, 1) := by decide +kernel
theorem dL_law_769 : decode cL_law 769 = .ok (.iadd, 1) := by decide +kernel
theorem dL_law_770 : decode cL_law 770 = .ok (.iaload, 1) := by decide +kernel
theorem dL_law_771 : decode cL_law 771 = .ok (.invokevirtual 131, 3) := by decide +kernel
theorem dL_law_774 : decode cL_law 774 = .ok (.istore 6, 2) := by decide +kernel
theorem dL_law_776 : decode cL_law 776 = .ok (.aload_n 2, 1) := by decide +kernel
theorem dL_law_777 : decode cL_law 777 = .ok (.invokevirtual 89, 3) := by decide +kernel
theorem dL_law_780 : decode cL_law 780 = .ok (.iload 5, 2) := by decide +kernel
theorem dL_law_782 : decode cL_law 782 = .ok (.if_icmp .eq 5, 3) := by decide +kernel
theorem dL_law_785 : decode cL_law 785 = .ok (.iconst 0, 1) := by decide +kernel
theorem dL_law_786 : decode cL_law 786 = .ok (.ireturn, 1) := by decide +kernel
theorem dL_law_787 : decode cL_law 787 = .ok (.iload 5, 2) := by decide +kernel
theorem dL_law_789 : decode cL_law 789 = .ok (.ifCond .ne 15, 3) := by decide +kernel
theorem dL_law_792 : decode cL_law 792 = .ok (.aload_n 3, 1) := by decide +kernel
theorem dL_law_793 : decode cL_law 793 = .ok (.iconst 0, 1) := by decide +kernel
theorem dL_law_794 : decode cL_law 794 = .ok (.laload, 1) := by decide +kernel
theorem dL_law_795 : decode cL_law 795 = .ok (.iload 6, 2) := by decide +kernel
theorem dL_law_797 : decode cL_law 797 = .ok (.i2l, 1) := by decide +kernel
theorem dL_law_798 : decode cL_law 798 = .ok (.lcmp, 1) := by decide +kernel
theorem dL_law_799 : decode cL_law 799 = .ok (.ifCond .eq 5, 3) := by decide +kernel
theorem dL_law_802 : decode cL_law 802 = .ok (.iconst 0, 1) := by decide +kernel
theorem dL_law_803 : decode cL_law 803 = .ok (.ireturn, 1) := by decide +kernel
theorem dL_law_804 : decode cL_law 804 = .ok (.goto 670, 3) := by decide +kernel
theorem dL_law_807 : decode cL_law 807 = .ok (.aload_n 1, 1) := by decide +kernel
theorem dL_law_808 : decode cL_law 808 = .ok (.aload_n 0, 1) := by decide +kernel
theorem dL_law_809 : decode cL_law 809 = .ok (.iload 4, 2) := by decide +kernel
theorem dL_law_811 : decode cL_law 811 = .ok (.iconst 1, 1) := by decide +kernel
theorem dL_law_812 : decode cL_law 812 = .ok (.iadd, 1) := by decide +kernel
theorem dL_law_813 : decode cL_law 813 = .ok (.iaload, 1) := by decide +kernel
theorem dL_law_814 : decode cL_law 814 = .ok (.aload_n 3, 1) := by decide +kernel
theorem dL_law_815 : decode cL_law 815 = .ok (.invokestatic 132, 3) := by decide +kernel
theorem dL_law_818 : decode cL_law 818 = .ok (.istore 5, 2) := by decide +kernel
theorem dL_law_820 : decode cL_law 820 = .ok (.aload_n 2, 1) := by decide +kernel
theorem dL_law_821 : decode cL_law 821 = .ok (.aload_n 0, 1) := by decide +kernel
theorem dL_law_822 : decode cL_law 822 = .ok (.iload 4, 2) := by decide +kernel
theorem dL_law_824 : decode cL_law 824 = .ok (.iconst 1, 1) := by decide +kernel
theorem dL_law_825 : decode cL_law 825 = .ok (.iadd, 1) := by decide +kernel
theorem dL_law_826 : decode cL_law 826 = .ok (.iaload, 1) := by decide +kernel
theorem dL_law_827 : decode cL_law 827 = .ok (.invokevirtual 134, 3) := by decide +kernel
theorem dL_law_830 : decode cL_law 830 = .ok (.istore 6, 2) := by decide +kernel
theorem dL_law_832 : decode cL_law 832 = .ok (.aload_n 2, 1) := by decide +kernel
theorem dL_law_833 : decode cL_law 833 = .ok (.invokevirtual 89, 3) := by decide +kernel
theorem dL_law_836 : decode cL_law 836 = .ok (.iload 5, 2) := by decide +kernel
theorem dL_law_838 : decode cL_law 838 = .ok (.if_icmp .eq 5, 3) := by decide +kernel
theorem dL_law_841 : decode cL_law 841 = .ok (.iconst 0, 1) := by decide +kernel
theorem dL_law_842 : decode cL_law 842 = .ok (.ireturn, 1) := by decide +kernel
theorem dL_law_843 : decode cL_law 843 = .ok (.iload 5, 2) := by decide +kernel
theorem dL_law_845 : decode cL_law 845 = .ok (.ifCond .ne 15, 3) := by decide +kernel
theorem dL_law_848 : decode cL_law 848 = .ok (.aload_n 3, 1) := by decide +kernel
theorem dL_law_849 : decode cL_law 849 = .ok (.iconst 0, 1) := by decide +kernel
theorem dL_law_850 : decode cL_law 850 = .ok (.laload, 1) := by decide +kernel
theorem dL_law_851 : decode cL_law 851 = .ok (.iload 6, 2) := by decide +kernel
theorem dL_law_853 : decode cL_law 853 = .ok (.i2l, 1) := by decide +kernel
theorem dL_law_854 : decode cL_law 854 = .ok (.lcmp, 1) := by decide +kernel
theorem dL_law_855 : decode cL_law 855 = .ok (.ifCond .eq 5, 3) := by decide +kernel
theorem dL_law_858 : decode cL_law 858 = .ok (.iconst 0, 1) := by decide +kernel
theorem dL_law_859 : decode cL_law 859 = .ok (.ireturn, 1) := by decide +kernel
theorem dL_law_860 : decode cL_law 860 = .ok (.goto 614, 3) := by decide +kernel
theorem dL_law_863 : decode cL_law 863 = .ok (.aload_n 1, 1) := by decide +kernel
theorem dL_law_864 : decode cL_law 864 = .ok (.aload_n 0, 1) := by decide +kernel
theorem dL_law_865 : decode cL_law 865 = .ok (.iload 4, 2) := by decide +kernel
theorem dL_law_867 : decode cL_law 867 = .ok (.iconst 1, 1) := by decide +kernel
theorem dL_law_868 : decode cL_law 868 = .ok (.iadd, 1) := by decide +kernel
theorem dL_law_869 : decode cL_law 869 = .ok (.iaload, 1) := by decide +kernel
theorem dL_law_870 : decode cL_law 870 = .ok (.aload_n 3, 1) := by decide +kernel
theorem dL_law_871 : decode cL_law 871 = .ok (.invokestatic 135, 3) := by decide +kernel
theorem dL_law_874 : decode cL_law 874 = .ok (.istore 5, 2) := by decide +kernel
theorem dL_law_876 : decode cL_law 876 = .ok (.aload_n 2, 1) := by decide +kernel
theorem dL_law_877 : decode cL_law 877 = .ok (.aload_n 0, 1) := by decide +kernel
theorem dL_law_878 : decode cL_law 878 = .ok (.iload 4, 2) := by decide +kernel
theorem dL_law_880 : decode cL_law 880 = .ok (.iconst 1, 1) := by decide +kernel
theorem dL_law_881 : decode cL_law 881 = .ok (.iadd, 1) := by decide +kernel
theorem dL_law_882 : decode cL_law 882 = .ok (.iaload, 1) := by decide +kernel
theorem dL_law_883 : decode cL_law 883 = .ok (.invokevirtual 137, 3) := by decide +kernel
theorem dL_law_886 : decode cL_law 886 = .ok (.istore 6, 2) := by decide +kernel
theorem dL_law_888 : decode cL_law 888 = .ok (.aload_n 2, 1) := by decide +kernel
theorem dL_law_889 : decode cL_law 889 = .ok (.invokevirtual 89, 3) := by decide +kernel
theorem dL_law_892 : decode cL_law 892 = .ok (.iload 5, 2) := by decide +kernel
theorem dL_law_894 : decode cL_law 894 = .ok (.if_icmp .eq 5, 3) := by decide +kernel
theorem dL_law_897 : decode cL_law 897 = .ok (.iconst 0, 1) := by decide +kernel
theorem dL_law_898 : decode cL_law 898 = .ok (.ireturn, 1) := by decide +kernel
theorem dL_law_899 : decode cL_law 899 = .ok (.iload 5, 2) := by decide +kernel
theorem dL_law_901 : decode cL_law 901 = .ok (.ifCond .ne 15, 3) := by decide +kernel
theorem dL_law_904 : decode cL_law 904 = .ok (.aload_n 3, 1) := by decide +kernel
theorem dL_law_905 : decode cL_law 905 = .ok (.iconst 0, 1) := by decide +kernel
theorem dL_law_906 : decode cL_law 906 = .ok (.laload, 1) := by decide +kernel
theorem dL_law_907 : decode cL_law 907 = .ok (.iload 6, 2) := by decide +kernel
theorem dL_law_909 : decode cL_law 909 = .ok (.i2l, 1) := by decide +kernel
theorem dL_law_910 : decode cL_law 910 = .ok (.lcmp, 1) := by decide +kernel
theorem dL_law_911 : decode cL_law 911 = .ok (.ifCond .eq 5, 3) := by decide +kernel
theorem dL_law_914 : decode cL_law 914 = .ok (.iconst 0, 1) := by decide +kernel
theorem dL_law_915 : decode cL_law 915 = .ok (.ireturn, 1) := by decide +kernel
theorem dL_law_916 : decode cL_law 916 = .ok (.goto 558, 3) := by decide +kernel
theorem dL_law_919 : decode cL_law 919 = .ok (.aload_n 1, 1) := by decide +kernel
theorem dL_law_920 : decode cL_law 920 = .ok (.aload_n 0, 1) := by decide +kernel
theorem dL_law_921 : decode cL_law 921 = .ok (.iload 4, 2) := by decide +kernel
theorem dL_law_923 : decode cL_law 923 = .ok (.iconst 1, 1) := by decide +kernel
theorem dL_law_924 : decode cL_law 924 = .ok (.iadd, 1) := by decide +kernel
theorem dL_law_925 : decode cL_law 925 = .ok (.iaload, 1) := by decide +kernel
theorem dL_law_926 : decode cL_law 926 = .ok (.aload_n 3, 1) := by decide +kernel
theorem dL_law_927 : decode cL_law 927 = .ok (.invokestatic 138, 3) := by decide +kernel
theorem dL_law_930 : decode cL_law 930 = .ok (.istore 5, 2) := by decide +kernel
theorem dL_law_932 : decode cL_law 932 = .ok (.aload_n 2, 1) := by decide +kernel
theorem dL_law_933 : decode cL_law 933 = .ok (.aload_n 0, 1) := by decide +kernel
theorem dL_law_934 : decode cL_law 934 = .ok (.iload 4, 2) := by decide +kernel
theorem dL_law_936 : decode cL_law 936 = .ok (.iconst 1, 1) := by decide +kernel
theorem dL_law_937 : decode cL_law 937 = .ok (.iadd, 1) := by decide +kernel
theorem dL_law_938 : decode cL_law 938 = .ok (.iaload, 1) := by decide +kernel
theorem dL_law_939 : decode cL_law 939 = .ok (.invokevirtual 140, 3) := by decide +kernel
theorem dL_law_942 : decode cL_law 942 = .ok (.istore 6, 2) := by decide +kernel
theorem dL_law_944 : decode cL_law 944 = .ok (.aload_n 2, 1) := by decide +kernel
theorem dL_law_945 : decode cL_law 945 = .ok (.invokevirtual 89, 3) := by decide +kernel
theorem dL_law_948 : decode cL_law 948 = .ok (.iload 5, 2) := by decide +kernel
theorem dL_law_950 : decode cL_law 950 = .ok (.if_icmp .eq 5, 3) := by decide +kernel
theorem dL_law_953 : decode cL_law 953 = .ok (.iconst 0, 1) := by decide +kernel
theorem dL_law_954 : decode cL_law 954 = .ok (.ireturn, 1) := by decide +kernel
theorem dL_law_955 : decode cL_law 955 = .ok (.iload 5, 2) := by decide +kernel
theorem dL_law_957 : decode cL_law 957 = .ok (.ifCond .ne 15, 3) := by decide +kernel
theorem dL_law_960 : decode cL_law 960 = .ok (.aload_n 3, 1) := by decide +kernel
theorem dL_law_961 : decode cL_law 961 = .ok (.iconst 0, 1) := by decide +kernel
theorem dL_law_962 : decode cL_law 962 = .ok (.laload, 1) := by decide +kernel
theorem dL_law_963 : decode cL_law 963 = .ok (.iload 6, 2) := by decide +kernel
theorem dL_law_965 : decode cL_law 965 = .ok (.i2l, 1) := by decide +kernel
theorem dL_law_966 : decode cL_law 966 = .ok (.lcmp, 1) := by decide +kernel
theorem dL_law_967 : decode cL_law 967 = .ok (.ifCond .eq 5, 3) := by decide +kernel
theorem dL_law_970 : decode cL_law 970 = .ok (.iconst 0, 1) := by decide +kernel
theorem dL_law_971 : decode cL_law 971 = .ok (.ireturn, 1) := by decide +kernel
theorem dL_law_972 : decode cL_law 972 = .ok (.goto 502, 3) := by decide +kernel
theorem dL_law_975 : decode cL_law 975 = .ok (.aload_n 1, 1) := by decide +kernel
theorem dL_law_976 : decode cL_law 976 = .ok (.invokevirtual 141, 3) := by decide +kernel
theorem dL_law_979 : decode cL_law 979 = .ok (.aload_n 2, 1) := by decide +kernel
theorem dL_law_980 : decode cL_law 980 = .ok (.invokevirtual 144, 3) := by decide +kernel
theorem dL_law_983 : decode cL_law 983 = .ok (.if_icmp .eq 491, 3) := by decide +kernel
theorem dL_law_986 : decode cL_law 986 = .ok (.iconst 0, 1) := by decide +kernel
theorem dL_law_987 : decode cL_law 987 = .ok (.ireturn, 1) := by decide +kernel
theorem dL_law_988 : decode cL_law 988 = .ok (.aload_n 1, 1) := by decide +kernel
theorem dL_law_989 : decode cL_law 989 = .ok (.aload_n 0, 1) := by decide +kernel
theorem dL_law_990 : decode cL_law 990 = .ok (.iload 4, 2) := by decide +kernel
theorem dL_law_992 : decode cL_law 992 = .ok (.iconst 1, 1) := by decide +kernel
theorem dL_law_993 : decode cL_law 993 = .ok (.iadd, 1) := by decide +kernel
theorem dL_law_994 : decode cL_law 994 = .ok (.iaload, 1) := by decide +kernel
theorem dL_law_995 : decode cL_law 995 = .ok (.aload_n 3, 1) := by decide +kernel
theorem dL_law_996 : decode cL_law 996 = .ok (.invokestatic 145, 3) := by decide +kernel
theorem dL_law_999 : decode cL_law 999 = .ok (.istore 5, 2) := by decide +kernel
theorem dL_law_1001 : decode cL_law 1001 = .ok (.aload_n 2, 1) := by decide +kernel
theorem dL_law_1002 : decode cL_law 1002 = .ok (.aload_n 0, 1) := by decide +kernel
theorem dL_law_1003 : decode cL_law 1003 = .ok (.iload 4, 2) := by decide +kernel
theorem dL_law_1005 : decode cL_law 1005 = .ok (.iconst 1, 1) := by decide +kernel
theorem dL_law_1006 : decode cL_law 1006 = .ok (.iadd, 1) := by decide +kernel
theorem dL_law_1007 : decode cL_law 1007 = .ok (.iaload, 1) := by decide +kernel
theorem dL_law_1008 : decode cL_law 1008 = .ok (.invokevirtual 147, 3) := by decide +kernel
theorem dL_law_1011 : decode cL_law 1011 = .ok (.istore 6, 2) := by decide +kernel
theorem dL_law_1013 : decode cL_law 1013 = .ok (.aload_n 2, 1) := by decide +kernel
theorem dL_law_1014 : decode cL_law 1014 = .ok (.invokevirtual 89, 3) := by decide +kernel
theorem dL_law_1017 : decode cL_law 1017 = .ok (.iload 5, 2) := by decide +kernel
theorem dL_law_1019 : decode cL_law 1019 = .ok (.if_icmp .eq 5, 3) := by decide +kernel
theorem dL_law_1022 : decode cL_law 1022 = .ok (.iconst 0, 1) := by decide +kernel
theorem dL_law_1023 : decode cL_law 1023 = .ok (.ireturn, 1) := by decide +kernel
theorem dL_law_1024 : decode cL_law 1024 = .ok (.iload 5, 2) := by decide +kernel
theorem dL_law_1026 : decode cL_law 1026 = .ok (.ifCond .ne 15, 3) := by decide +kernel
theorem dL_law_1029 : decode cL_law 1029 = .ok (.aload_n 3, 1) := by decide +kernel
theorem dL_law_1030 : decode cL_law 1030 = .ok (.iconst 0, 1) := by decide +kernel
theorem dL_law_1031 : decode cL_law 1031 = .ok (.laload, 1) := by decide +kernel
theorem dL_law_1032 : decode cL_law 1032 = .ok (.iload 6, 2) := by decide +kernel
theorem dL_law_1034 : decode cL_law 1034 = .ok (.i2l, 1) := by decide +kernel
theorem dL_law_1035 : decode cL_law 1035 = .ok (.lcmp, 1) := by decide +kernel
theorem dL_law_1036 : decode cL_law 1036 = .ok (.ifCond .eq 5, 3) := by decide +kernel
theorem dL_law_1039 : decode cL_law 1039 = .ok (.iconst 0, 1) := by decide +kernel
theorem dL_law_1040 : decode cL_law 1040 = .ok (.ireturn, 1) := by decide +kernel
theorem dL_law_1041 : decode cL_law 1041 = .ok (.goto 433, 3) := by decide +kernel
theorem dL_law_1044 : decode cL_law 1044 = .ok (.aload_n 1, 1) := by decide +kernel
theorem dL_law_1045 : decode cL_law 1045 = .ok (.aload_n 0, 1) := by decide +kernel
theorem dL_law_1046 : decode cL_law 1046 = .ok (.iload 4, 2) := by decide +kernel
theorem dL_law_1048 : decode cL_law 1048 = .ok (.iconst 1, 1) := by decide +kernel
theorem dL_law_1049 : decode cL_law 1049 = .ok (.iadd, 1) := by decide +kernel
theorem dL_law_1050 : decode cL_law 1050 = .ok (.iaload, 1) := by decide +kernel
theorem dL_law_1051 : decode cL_law 1051 = .ok (.aload_n 3, 1) := by decide +kernel
theorem dL_law_1052 : decode cL_law 1052 = .ok (.invokestatic 148, 3) := by decide +kernel
theorem dL_law_1055 : decode cL_law 1055 = .ok (.istore 5, 2) := by decide +kernel
theorem dL_law_1057 : decode cL_law 1057 = .ok (.aload_n 2, 1) := by decide +kernel
theorem dL_law_1058 : decode cL_law 1058 = .ok (.aload_n 0, 1) := by decide +kernel
theorem dL_law_1059 : decode cL_law 1059 = .ok (.iload 4, 2) := by decide +kernel
theorem dL_law_1061 : decode cL_law 1061 = .ok (.iconst 1, 1) := by decide +kernel
theorem dL_law_1062 : decode cL_law 1062 = .ok (.iadd, 1) := by decide +kernel
theorem dL_law_1063 : decode cL_law 1063 = .ok (.iaload, 1) := by decide +kernel
theorem dL_law_1064 : decode cL_law 1064 = .ok (.invokevirtual 150, 3) := by decide +kernel
theorem dL_law_1067 : decode cL_law 1067 = .ok (.istore 6, 2) := by decide +kernel
theorem dL_law_1069 : decode cL_law 1069 = .ok (.aload_n 2, 1) := by decide +kernel
theorem dL_law_1070 : decode cL_law 1070 = .ok (.invokevirtual 89, 3) := by decide +kernel
theorem dL_law_1073 : decode cL_law 1073 = .ok (.iload 5, 2) := by decide +kernel
theorem dL_law_1075 : decode cL_law 1075 = .ok (.if_icmp .eq 5, 3) := by decide +kernel
theorem dL_law_1078 : decode cL_law 1078 = .ok (.iconst 0, 1) := by decide +kernel
theorem dL_law_1079 : decode cL_law 1079 = .ok (.ireturn, 1) := by decide +kernel
theorem dL_law_1080 : decode cL_law 1080 = .ok (.iload 5, 2) := by decide +kernel
theorem dL_law_1082 : decode cL_law 1082 = .ok (.ifCond .ne 15, 3) := by decide +kernel
theorem dL_law_1085 : decode cL_law 1085 = .ok (.aload_n 3, 1) := by decide +kernel
theorem dL_law_1086 : decode cL_law 1086 = .ok (.iconst 0, 1) := by decide +kernel
theorem dL_law_1087 : decode cL_law 1087 = .ok (.laload, 1) := by decide +kernel
theorem dL_law_1088 : decode cL_law 1088 = .ok (.iload 6, 2) := by decide +kernel
theorem dL_law_1090 : decode cL_law 1090 = .ok (.i2l, 1) := by decide +kernel
theorem dL_law_1091 : decode cL_law 1091 = .ok (.lcmp, 1) := by decide +kernel
theorem dL_law_1092 : decode cL_law 1092 = .ok (.ifCond .eq 5, 3) := by decide +kernel
theorem dL_law_1095 : decode cL_law 1095 = .ok (.iconst 0, 1) := by decide +kernel
theorem dL_law_1096 : decode cL_law 1096 = .ok (.ireturn, 1) := by decide +kernel
theorem dL_law_1097 : decode cL_law 1097 = .ok (.goto 377, 3) := by decide +kernel
theorem dL_law_1100 : decode cL_law 1100 = .ok (.aload_n 1, 1) := by decide +kernel
theorem dL_law_1101 : decode cL_law 1101 = .ok (.aload_n 0, 1) := by decide +kernel
theorem dL_law_1102 : decode cL_law 1102 = .ok (.iload 4, 2) := by decide +kernel
theorem dL_law_1104 : decode cL_law 1104 = .ok (.iconst 1, 1) := by decide +kernel
theorem dL_law_1105 : decode cL_law 1105 = .ok (.iadd, 1) := by decide +kernel
theorem dL_law_1106 : decode cL_law 1106 = .ok (.iaload, 1) := by decide +kernel
theorem dL_law_1107 : decode cL_law 1107 = .ok (.aload_n 3, 1) := by decide +kernel
theorem dL_law_1108 : decode cL_law 1108 = .ok (.invokestatic 151, 3) := by decide +kernel
theorem dL_law_1111 : decode cL_law 1111 = .ok (.istore 5, 2) := by decide +kernel
theorem dL_law_1113 : decode cL_law 1113 = .ok (.aload_n 2, 1) := by decide +kernel
theorem dL_law_1114 : decode cL_law 1114 = .ok (.aload_n 0, 1) := by decide +kernel
theorem dL_law_1115 : decode cL_law 1115 = .ok (.iload 4, 2) := by decide +kernel
theorem dL_law_1117 : decode cL_law 1117 = .ok (.iconst 1, 1) := by decide +kernel
theorem dL_law_1118 : decode cL_law 1118 = .ok (.iadd, 1) := by decide +kernel
theorem dL_law_1119 : decode cL_law 1119 = .ok (.iaload, 1) := by decide +kernel
theorem dL_law_1120 : decode cL_law 1120 = .ok (.invokevirtual 153, 3) := by decide +kernel
theorem dL_law_1123 : decode cL_law 1123 = .ok (.istore 6, 2) := by decide +kernel
theorem dL_law_1125 : decode cL_law 1125 = .ok (.aload_n 2, 1) := by decide +kernel
theorem dL_law_1126 : decode cL_law 1126 = .ok (.invokevirtual 89, 3) := by decide +kernel
theorem dL_law_1129 : decode cL_law 1129 = .ok (.iload 5, 2) := by decide +kernel
theorem dL_law_1131 : decode cL_law 1131 = .ok (.if_icmp .eq 5, 3) := by decide +kernel
theorem dL_law_1134 : decode cL_law 1134 = .ok (.iconst 0, 1) := by decide +kernel
theorem dL_law_1135 : decode cL_law 1135 = .ok (.ireturn, 1) := by decide +kernel
theorem dL_law_1136 : decode cL_law 1136 = .ok (.iload 5, 2) := by decide +kernel
theorem dL_law_1138 : decode cL_law 1138 = .ok (.ifCond .ne 15, 3) := by decide +kernel
theorem dL_law_1141 : decode cL_law 1141 = .ok (.aload_n 3, 1) := by decide +kernel
theorem dL_law_1142 : decode cL_law 1142 = .ok (.iconst 0, 1) := by decide +kernel
theorem dL_law_1143 : decode cL_law 1143 = .ok (.laload, 1) := by decide +kernel
theorem dL_law_1144 : decode cL_law 1144 = .ok (.iload 6, 2) := by decide +kernel
theorem dL_law_1146 : decode cL_law 1146 = .ok (.i2l, 1) := by decide +kernel
theorem dL_law_1147 : decode cL_law 1147 = .ok (.lcmp, 1) := by decide +kernel
theorem dL_law_1148 : decode cL_law 1148 = .ok (.ifCond .eq 5, 3) := by decide +kernel
theorem dL_law_1151 : decode cL_law 1151 = .ok (.iconst 0, 1) := by decide +kernel
theorem dL_law_1152 : decode cL_law 1152 = .ok (.ireturn, 1) := by decide +kernel
theorem dL_law_1153 : decode cL_law 1153 = .ok (.goto 321, 3) := by decide +kernel
theorem dL_law_1156 : decode cL_law 1156 = .ok (.aload_n 1, 1) := by decide +kernel
theorem dL_law_1157 : decode cL_law 1157 = .ok (.invokevirtual 154, 3) := by decide +kernel
theorem dL_law_1160 : decode cL_law 1160 = .ok (.aload_n 2, 1) := by decide +kernel
theorem dL_law_1161 : decode cL_law 1161 = .ok (.invokevirtual 157, 3) := by decide +kernel
theorem dL_law_1164 : decode cL_law 1164 = .ok (.if_icmp .eq 310, 3) := by decide +kernel
theorem dL_law_1167 : decode cL_law 1167 = .ok (.iconst 0, 1) := by decide +kernel
theorem dL_law_1168 : decode cL_law 1168 = .ok (.ireturn, 1) := by decide +kernel
theorem dL_law_1169 : decode cL_law 1169 = .ok (.aload_n 1, 1) := by decide +kernel
theorem dL_law_1170 : decode cL_law 1170 = .ok (.aload_n 0, 1) := by decide +kernel
theorem dL_law_1171 : decode cL_law 1171 = .ok (.iload 4, 2) := by decide +kernel
theorem dL_law_1173 : decode cL_law 1173 = .ok (.iconst 1, 1) := by decide +kernel
theorem dL_law_1174 : decode cL_law 1174 = .ok (.iadd, 1) := by decide +kernel
theorem dL_law_1175 : decode cL_law 1175 = .ok (.iaload, 1) := by decide +kernel
theorem dL_law_1176 : decode cL_law 1176 = .ok (.aload_n 3, 1) := by decide +kernel
theorem dL_law_1177 : decode cL_law 1177 = .ok (.invokestatic 158, 3) := by decide +kernel
theorem dL_law_1180 : decode cL_law 1180 = .ok (.istore 5, 2) := by decide +kernel
theorem dL_law_1182 : decode cL_law 1182 = .ok (.aload_n 2, 1) := by decide +kernel
theorem dL_law_1183 : decode cL_law 1183 = .ok (.aload_n 0, 1) := by decide +kernel
theorem dL_law_1184 : decode cL_law 1184 = .ok (.iload 4, 2) := by decide +kernel
theorem dL_law_1186 : decode cL_law 1186 = .ok (.iconst 1, 1) := by decide +kernel
theorem dL_law_1187 : decode cL_law 1187 = .ok (.iadd, 1) := by decide +kernel
theorem dL_law_1188 : decode cL_law 1188 = .ok (.iaload, 1) := by decide +kernel
theorem dL_law_1189 : decode cL_law 1189 = .ok (.invokevirtual 160, 3) := by decide +kernel
theorem dL_law_1192 : decode cL_law 1192 = .ok (.istore 6, 2) := by decide +kernel
theorem dL_law_1194 : decode cL_law 1194 = .ok (.aload_n 2, 1) := by decide +kernel
theorem dL_law_1195 : decode cL_law 1195 = .ok (.invokevirtual 89, 3) := by decide +kernel
theorem dL_law_1198 : decode cL_law 1198 = .ok (.iload 5, 2) := by decide +kernel
theorem dL_law_1200 : decode cL_law 1200 = .ok (.if_icmp .eq 5, 3) := by decide +kernel
theorem dL_law_1203 : decode cL_law 1203 = .ok (.iconst 0, 1) := by decide +kernel
theorem dL_law_1204 : decode cL_law 1204 = .ok (.ireturn, 1) := by decide +kernel
theorem dL_law_1205 : decode cL_law 1205 = .ok (.iload 5, 2) := by decide +kernel
theorem dL_law_1207 : decode cL_law 1207 = .ok (.ifCond .ne 15, 3) := by decide +kernel
theorem dL_law_1210 : decode cL_law 1210 = .ok (.aload_n 3, 1) := by decide +kernel
theorem dL_law_1211 : decode cL_law 1211 = .ok (.iconst 0, 1) := by decide +kernel
theorem dL_law_1212 : decode cL_law 1212 = .ok (.laload, 1) := by decide +kernel
theorem dL_law_1213 : decode cL_law 1213 = .ok (.iload 6, 2) := by decide +kernel
theorem dL_law_1215 : decode cL_law 1215 = .ok (.i2l, 1) := by decide +kernel
theorem dL_law_1216 : decode cL_law 1216 = .ok (.lcmp, 1) := by decide +kernel
theorem dL_law_1217 : decode cL_law 1217 = .ok (.ifCond .eq 5, 3) := by decide +kernel
theorem dL_law_1220 : decode cL_law 1220 = .ok (.iconst 0, 1) := by decide +kernel
theorem dL_law_1221 : decode cL_law 1221 = .ok (.ireturn, 1) := by decide +kernel
theorem dL_law_1222 : decode cL_law 1222 = .ok (.goto 252, 3) := by decide +kernel
theorem dL_law_1225 : decode cL_law 1225 = .ok (.aload_n 1, 1) := by decide +kernel
theorem dL_law_1226 : decode cL_law 1226 = .ok (.aload_n 0, 1) := by decide +kernel
theorem dL_law_1227 : decode cL_law 1227 = .ok (.iload 4, 2) := by decide +kernel
theorem dL_law_1229 : decode cL_law 1229 = .ok (.iconst 1, 1) := by decide +kernel
theorem dL_law_1230 : decode cL_law 1230 = .ok (.iadd, 1) := by decide +kernel
theorem dL_law_1231 : decode cL_law 1231 = .ok (.iaload, 1) := by decide +kernel
theorem dL_law_1232 : decode cL_law 1232 = .ok (.aload_n 0, 1) := by decide +kernel
theorem dL_law_1233 : decode cL_law 1233 = .ok (.iload 4, 2) := by decide +kernel
theorem dL_law_1235 : decode cL_law 1235 = .ok (.iconst 2, 1) := by decide +kernel
theorem dL_law_1236 : decode cL_law 1236 = .ok (.iadd, 1) := by decide +kernel
theorem dL_law_1237 : decode cL_law 1237 = .ok (.iaload, 1) := by decide +kernel
theorem dL_law_1238 : decode cL_law 1238 = .ok (.aload_n 3, 1) := by decide +kernel
theorem dL_law_1239 : decode cL_law 1239 = .ok (.invokestatic 161, 3) := by decide +kernel
theorem dL_law_1242 : decode cL_law 1242 = .ok (.istore 5, 2) := by decide +kernel
theorem dL_law_1244 : decode cL_law 1244 = .ok (.aload_n 2, 1) := by decide +kernel
theorem dL_law_1245 : decode cL_law 1245 = .ok (.aload_n 0, 1) := by decide +kernel
theorem dL_law_1246 : decode cL_law 1246 = .ok (.iload 4, 2) := by decide +kernel
theorem dL_law_1248 : decode cL_law 1248 = .ok (.iconst 1, 1) := by decide +kernel
theorem dL_law_1249 : decode cL_law 1249 = .ok (.iadd, 1) := by decide +kernel
theorem dL_law_1250 : decode cL_law 1250 = .ok (.iaload, 1) := by decide +kernel
theorem dL_law_1251 : decode cL_law 1251 = .ok (.aload_n 0, 1) := by decide +kernel
theorem dL_law_1252 : decode cL_law 1252 = .ok (.iload 4, 2) := by decide +kernel
theorem dL_law_1254 : decode cL_law 1254 = .ok (.iconst 2, 1) := by decide +kernel
theorem dL_law_1255 : decode cL_law 1255 = .ok (.iadd, 1) := by decide +kernel
theorem dL_law_1256 : decode cL_law 1256 = .ok (.iaload, 1) := by decide +kernel
theorem dL_law_1257 : decode cL_law 1257 = .ok (.invokevirtual 163, 3) := by decide +kernel
theorem dL_law_1260 : decode cL_law 1260 = .ok (.istore 6, 2) := by decide +kernel
theorem dL_law_1262 : decode cL_law 1262 = .ok (.aload_n 2, 1) := by decide +kernel
theorem dL_law_1263 : decode cL_law 1263 = .ok (.invokevirtual 89, 3) := by decide +kernel
theorem dL_law_1266 : decode cL_law 1266 = .ok (.iload 5, 2) := by decide +kernel
theorem dL_law_1268 : decode cL_law 1268 = .ok (.if_icmp .eq 5, 3) := by decide +kernel
theorem dL_law_1271 : decode cL_law 1271 = .ok (.iconst 0, 1) := by decide +kernel
theorem dL_law_1272 : decode cL_law 1272 = .ok (.ireturn, 1) := by decide +kernel
theorem dL_law_1273 : decode cL_law 1273 = .ok (.iload 5, 2) := by decide +kernel
theorem dL_law_1275 : decode cL_law 1275 = .ok (.ifCond .ne 15, 3) := by decide +kernel
theorem dL_law_1278 : decode cL_law 1278 = .ok (.aload_n 3, 1) := by decide +kernel
theorem dL_law_1279 : decode cL_law 1279 = .ok (.iconst 0, 1) := by decide +kernel
theorem dL_law_1280 : decode cL_law 1280 = .ok (.laload, 1) := by decide +kernel
theorem dL_law_1281 : decode cL_law 1281 = .ok (.iload 6, 2) := by decide +kernel
theorem dL_law_1283 : decode cL_law 1283 = .ok (.i2l, 1) := by decide +kernel
theorem dL_law_1284 : decode cL_law 1284 = .ok (.lcmp, 1) := by decide +kernel
theorem dL_law_1285 : decode cL_law 1285 = .ok (.ifCond .eq 5, 3) := by decide +kernel
theorem dL_law_1288 : decode cL_law 1288 = .ok (.iconst 0, 1) := by decide +kernel
theorem dL_law_1289 : decode cL_law 1289 = .ok (.ireturn, 1) := by decide +kernel
theorem dL_law_1290 : decode cL_law 1290 = .ok (.goto 184, 3) := by decide +kernel
theorem dL_law_1293 : decode cL_law 1293 = .ok (.aload_n 1, 1) := by decide +kernel
theorem dL_law_1294 : decode cL_law 1294 = .ok (.invokevirtual 164, 3) := by decide +kernel
theorem dL_law_1297 : decode cL_law 1297 = .ok (.aload_n 2, 1) := by decide +kernel
theorem dL_law_1298 : decode cL_law 1298 = .ok (.invokevirtual 167, 3) := by decide +kernel
theorem dL_law_1301 : decode cL_law 1301 = .ok (.if_icmp .eq 173, 3) := by decide +kernel
theorem dL_law_1304 : decode cL_law 1304 = .ok (.iconst 0, 1) := by decide +kernel
theorem dL_law_1305 : decode cL_law 1305 = .ok (.ireturn, 1) := by decide +kernel
theorem dL_law_1306 : decode cL_law 1306 = .ok (.aload_n 1, 1) := by decide +kernel
theorem dL_law_1307 : decode cL_law 1307 = .ok (.aload_n 0, 1) := by decide +kernel
theorem dL_law_1308 : decode cL_law 1308 = .ok (.iload 4, 2) := by decide +kernel
theorem dL_law_1310 : decode cL_law 1310 = .ok (.iconst 1, 1) := by decide +kernel
theorem dL_law_1311 : decode cL_law 1311 = .ok (.iadd, 1) := by decide +kernel
theorem dL_law_1312 : decode cL_law 1312 = .ok (.iaload, 1) := by decide +kernel
theorem dL_law_1313 : decode cL_law 1313 = .ok (.aload_n 3, 1) := by decide +kernel
theorem dL_law_1314 : decode cL_law 1314 = .ok (.invokestatic 168, 3) := by decide +kernel
theorem dL_law_1317 : decode cL_law 1317 = .ok (.istore 5, 2) := by decide +kernel
theorem dL_law_1319 : decode cL_law 1319 = .ok (.aload_n 2, 1) := by decide +kernel
theorem dL_law_1320 : decode cL_law 1320 = .ok (.aload_n 0, 1) := by decide +kernel
theorem dL_law_1321 : decode cL_law 1321 = .ok (.iload 4, 2) := by decide +kernel
theorem dL_law_1323 : decode cL_law 1323 = .ok (.iconst 1, 1) := by decide +kernel
theorem dL_law_1324 : decode cL_law 1324 = .ok (.iadd, 1) := by decide +kernel
theorem dL_law_1325 : decode cL_law 1325 = .ok (.iaload, 1) := by decide +kernel
theorem dL_law_1326 : decode cL_law 1326 = .ok (.invokevirtual 170, 3) := by decide +kernel
theorem dL_law_1329 : decode cL_law 1329 = .ok (.istore 6, 2) := by decide +kernel
theorem dL_law_1331 : decode cL_law 1331 = .ok (.aload_n 2, 1) := by decide +kernel
theorem dL_law_1332 : decode cL_law 1332 = .ok (.invokevirtual 89, 3) := by decide +kernel
theorem dL_law_1335 : decode cL_law 1335 = .ok (.iload 5, 2) := by decide +kernel
theorem dL_law_1337 : decode cL_law 1337 = .ok (.if_icmp .eq 5, 3) := by decide +kernel
theorem dL_law_1340 : decode cL_law 1340 = .ok (.iconst 0, 1) := by decide +kernel
theorem dL_law_1341 : decode cL_law 1341 = .ok (.ireturn, 1) := by decide +kernel
theorem dL_law_1342 : decode cL_law 1342 = .ok (.iload 5, 2) := by decide +kernel
theorem dL_law_1344 : decode cL_law 1344 = .ok (.ifCond .ne 15, 3) := by decide +kernel
theorem dL_law_1347 : decode cL_law 1347 = .ok (.aload_n 3, 1) := by decide +kernel
theorem dL_law_1348 : decode cL_law 1348 = .ok (.iconst 0, 1) := by decide +kernel
theorem dL_law_1349 : decode cL_law 1349 = .ok (.laload, 1) := by decide +kernel
theorem dL_law_1350 : decode cL_law 1350 = .ok (.iload 6, 2) := by decide +kernel
theorem dL_law_1352 : decode cL_law 1352 = .ok (.i2l, 1) := by decide +kernel
theorem dL_law_1353 : decode cL_law 1353 = .ok (.lcmp, 1) := by decide +kernel
theorem dL_law_1354 : decode cL_law 1354 = .ok (.ifCond .eq 5, 3) := by decide +kernel
theorem dL_law_1357 : decode cL_law 1357 = .ok (.iconst 0, 1) := by decide +kernel
theorem dL_law_1358 : decode cL_law 1358 = .ok (.ireturn, 1) := by decide +kernel
theorem dL_law_1359 : decode cL_law 1359 = .ok (.goto 115, 3) := by decide +kernel
theorem dL_law_1362 : decode cL_law 1362 = .ok (.aload_n 1, 1) := by decide +kernel
theorem dL_law_1363 : decode cL_law 1363 = .ok (.aload_n 0, 1) := by decide +kernel
theorem dL_law_1364 : decode cL_law 1364 = .ok (.iload 4, 2) := by decide +kernel
theorem dL_law_1366 : decode cL_law 1366 = .ok (.iconst 1, 1) := by decide +kernel
theorem dL_law_1367 : decode cL_law 1367 = .ok (.iadd, 1) := by decide +kernel
theorem dL_law_1368 : decode cL_law 1368 = .ok (.iaload, 1) := by decide +kernel
theorem dL_law_1369 : decode cL_law 1369 = .ok (.aload_n 3, 1) := by decide +kernel
theorem dL_law_1370 : decode cL_law 1370 = .ok (.invokestatic 171, 3) := by decide +kernel
theorem dL_law_1373 : decode cL_law 1373 = .ok (.istore 5, 2) := by decide +kernel
theorem dL_law_1375 : decode cL_law 1375 = .ok (.aload_n 2, 1) := by decide +kernel
theorem dL_law_1376 : decode cL_law 1376 = .ok (.aload_n 0, 1) := by decide +kernel
theorem dL_law_1377 : decode cL_law 1377 = .ok (.iload 4, 2) := by decide +kernel
theorem dL_law_1379 : decode cL_law 1379 = .ok (.iconst 1, 1) := by decide +kernel
theorem dL_law_1380 : decode cL_law 1380 = .ok (.iadd, 1) := by decide +kernel
theorem dL_law_1381 : decode cL_law 1381 = .ok (.iaload, 1) := by decide +kernel
theorem dL_law_1382 : decode cL_law 1382 = .ok (.invokevirtual 173, 3) := by decide +kernel
theorem dL_law_1385 : decode cL_law 1385 = .ok (.istore 6, 2) := by decide +kernel
theorem dL_law_1387 : decode cL_law 1387 = .ok (.aload_n 2, 1) := by decide +kernel
theorem dL_law_1388 : decode cL_law 1388 = .ok (.invokevirtual 89, 3) := by decide +kernel
theorem dL_law_1391 : decode cL_law 1391 = .ok (.iload 5, 2) := by decide +kernel
theorem dL_law_1393 : decode cL_law 1393 = .ok (.if_icmp .eq 5, 3) := by decide +kernel
theorem dL_law_1396 : decode cL_law 1396 = .ok (.iconst 0, 1) := by decide +kernel
theorem dL_law_1397 : decode cL_law 1397 = .ok (.ireturn, 1) := by decide +kernel
theorem dL_law_1398 : decode cL_law 1398 = .ok (.iload 5, 2) := by decide +kernel
theorem dL_law_1400 : decode cL_law 1400 = .ok (.ifCond .ne 15, 3) := by decide +kernel
theorem dL_law_1403 : decode cL_law 1403 = .ok (.aload_n 3, 1) := by decide +kernel
theorem dL_law_1404 : decode cL_law 1404 = .ok (.iconst 0, 1) := by decide +kernel
theorem dL_law_1405 : decode cL_law 1405 = .ok (.laload, 1) := by decide +kernel
theorem dL_law_1406 : decode cL_law 1406 = .ok (.iload 6, 2) := by decide +kernel
theorem dL_law_1408 : decode cL_law 1408 = .ok (.i2l, 1) := by decide +kernel
theorem dL_law_1409 : decode cL_law 1409 = .ok (.lcmp, 1) := by decide +kernel
theorem dL_law_1410 : decode cL_law 1410 = .ok (.ifCond .eq 5, 3) := by decide +kernel
theorem dL_law_1413 : decode cL_law 1413 = .ok (.iconst 0, 1) := by decide +kernel
theorem dL_law_1414 : decode cL_law 1414 = .ok (.ireturn, 1) := by decide +kernel
theorem dL_law_1415 : decode cL_law 1415 = .ok (.goto 59, 3) := by decide +kernel
theorem dL_law_1418 : decode cL_law 1418 = .ok (.aload_n 1, 1) := by decide +kernel
theorem dL_law_1419 : decode cL_law 1419 = .ok (.aload_n 0, 1) := by decide +kernel
theorem dL_law_1420 : decode cL_law 1420 = .ok (.iload 4, 2) := by decide +kernel
theorem dL_law_1422 : decode cL_law 1422 = .ok (.iconst 1, 1) := by decide +kernel
theorem dL_law_1423 : decode cL_law 1423 = .ok (.iadd, 1) := by decide +kernel
theorem dL_law_1424 : decode cL_law 1424 = .ok (.iaload, 1) := by decide +kernel
theorem dL_law_1425 : decode cL_law 1425 = .ok (.aload_n 3, 1) := by decide +kernel
theorem dL_law_1426 : decode cL_law 1426 = .ok (.invokestatic 174, 3) := by decide +kernel
theorem dL_law_1429 : decode cL_law 1429 = .ok (.istore 5, 2) := by decide +kernel
theorem dL_law_1431 : decode cL_law 1431 = .ok (.aload_n 2, 1) := by decide +kernel
theorem dL_law_1432 : decode cL_law 1432 = .ok (.aload_n 0, 1) := by decide +kernel
theorem dL_law_1433 : decode cL_law 1433 = .ok (.iload 4, 2) := by decide +kernel
theorem dL_law_1435 : decode cL_law 1435 = .ok (.iconst 1, 1) := by decide +kernel
theorem dL_law_1436 : decode cL_law 1436 = .ok (.iadd, 1) := by decide +kernel
theorem dL_law_1437 : decode cL_law 1437 = .ok (.iaload, 1) := by decide +kernel
theorem dL_law_1438 : decode cL_law 1438 = .ok (.invokevirtual 176, 3) := by decide +kernel
theorem dL_law_1441 : decode cL_law 1441 = .ok (.istore 6, 2) := by decide +kernel
theorem dL_law_1443 : decode cL_law 1443 = .ok (.aload_n 2, 1) := by decide +kernel
theorem dL_law_1444 : decode cL_law 1444 = .ok (.invokevirtual 89, 3) := by decide +kernel
theorem dL_law_1447 : decode cL_law 1447 = .ok (.iload 5, 2) := by decide +kernel
theorem dL_law_1449 : decode cL_law 1449 = .ok (.if_icmp .eq 5, 3) := by decide +kernel
theorem dL_law_1452 : decode cL_law 1452 = .ok (.iconst 0, 1) := by decide +kernel
theorem dL_law_1453 : decode cL_law 1453 = .ok (.ireturn, 1) := by decide +kernel
theorem dL_law_1454 : decode cL_law 1454 = .ok (.iload 5, 2) := by decide +kernel
theorem dL_law_1456 : decode cL_law 1456 = .ok (.ifCond .ne 15, 3) := by decide +kernel
theorem dL_law_1459 : decode cL_law 1459 = .ok (.aload_n 3, 1) := by decide +kernel
theorem dL_law_1460 : decode cL_law 1460 = .ok (.iconst 0, 1) := by decide +kernel
theorem dL_law_1461 : decode cL_law 1461 = .ok (.laload, 1) := by decide +kernel
theorem dL_law_1462 : decode cL_law 1462 = .ok (.iload 6, 2) := by decide +kernel
theorem dL_law_1464 : decode cL_law 1464 = .ok (.i2l, 1) := by decide +kernel
theorem dL_law_1465 : decode cL_law 1465 = .ok (.lcmp, 1) := by decide +kernel
theorem dL_law_1466 : decode cL_law 1466 = .ok (.ifCond .eq 5, 3) := by decide +kernel
theorem dL_law_1469 : decode cL_law 1469 = .ok (.iconst 0, 1) := by decide +kernel
theorem dL_law_1470 : decode cL_law 1470 = .ok (.ireturn, 1) := by decide +kernel
theorem dL_law_1471 : decode cL_law 1471 = .ok (.goto 3, 3) := by decide +kernel
theorem dL_law_1474 : decode cL_law 1474 = .ok (.iinc 4 5, 3) := by decide +kernel
theorem dL_law_1477 : decode cL_law 1477 = .ok (.goto (-1454), 3) := by decide +kernel
theorem dL_law_1480 : decode cL_law 1480 = .ok (.iconst 1, 1) := by decide +kernel
theorem dL_law_1481 : decode cL_law 1481 = .ok (.ireturn, 1) := by decide +kernel
end
section
/-! ===== numbers ===== -/
def zI (z : Int) : Int32 := Int32.ofInt z
def zL (z : Int) : Int64 := Int64.ofInt z
def inR (z : Int) : Prop := -2147483648 ≤ z ∧ z < 2147483648
def inL (z : Int) : Prop := -9223372036854775808 ≤ z ∧ z < 9223372036854775808
theorem zI_add (a b : Int) : zI a + zI b = zI (a + b) := (Int32.ofInt_add a b).symm
theorem zI_sub (a b : Int) : zI a - zI b = zI (a - b) := (Int32.ofInt_sub a b).symm
theorem zI_mul (a b : Int) : zI a * zI b = zI (a * b) := (Int32.ofInt_mul a b).symm
theorem zI_neg (a : Int) : - zI a = zI (- a) := (Int32.ofInt_neg a).symm
theorem zL_add (a b : Int) : zL a + zL b = zL (a + b) := (Int64.ofInt_add a b).symm
theorem zL_mul (a b : Int) : zL a * zL b = zL (a * b) := (Int64.ofInt_mul a b).symm
theorem zI_to {a : Int} (h : inR a) : (zI a).toInt = a := Int32.toInt_ofInt_of_le h.1 h.2
theorem zL_to {a : Int} (h : inL a) : (zL a).toInt = a := Int64.toInt_ofInt_of_le h.1 h.2
theorem zI_of (x : Int32) : x = zI x.toInt := (Int32.ofInt_toInt x).symm
theorem inR_of (x : Int32) : inR x.toInt := ⟨x.le_toInt, x.toInt_lt⟩
theorem zI_lt {a b : Int} (ha : inR a) (hb : inR b) : zI a < zI b ↔ a < b := by
  rw [Int32.lt_iff_toInt_lt, zI_to ha, zI_to hb]
theorem zI_le {a b : Int} (ha : inR a) (hb : inR b) : zI a ≤ zI b ↔ a ≤ b := by
  rw [Int32.le_iff_toInt_le, zI_to ha, zI_to hb]
theorem zI_eq {a b : Int} (ha : inR a) (hb : inR b) : zI a = zI b ↔ a = b := by
  rw [← Int32.toInt_inj, zI_to ha, zI_to hb]
theorem zL_lt {a b : Int} (ha : inL a) (hb : inL b) : zL a < zL b ↔ a < b := by
  rw [Int64.lt_iff_toInt_lt, zL_to ha, zL_to hb]
theorem zL_eq {a b : Int} (ha : inL a) (hb : inL b) : zL a = zL b ↔ a = b := by
  rw [← Int64.toInt_inj, zL_to ha, zL_to hb]
theorem zI_nI (n : Nat) : zI (n : Int) = nI n := Int32.ofInt_eq_ofNat
theorem zI_cl {n : Nat} (h : n < 2147483648) : (zI (n : Int)).toNatClampNeg = n := by
  rw [Int32.toNatClampNeg, zI_to ⟨by omega, by omega⟩]; rfl
theorem zI_in {i n : Nat} (h : i < n) (hn : n < 2147483648) : vp_in (zI (i : Int)) n := by
  rw [zI_nI]; exact vp_in_nI h hn
theorem zI_L {a : Int} (h : inR a) : (zI a).toInt64 = zL a := by
  rw [← Int64.toInt_inj, Int32.toInt_toInt64, zI_to h, zL_to ⟨by have := h.1; omega, by have := h.2; omega⟩]
theorem zL_I {a : Int} : (zL a).toInt32 = zI a := by
  rw [zL, zI, Int64.toInt32_ofInt]
noncomputable def bP (P : Prop) : Int32 := @ite _ P (Classical.propDecidable P) (zI 1) (zI 0)
theorem bP_t {P : Prop} (h : P) : zI 1 = bP P := (@if_pos _ (Classical.propDecidable P) h _ _ _).symm
theorem bP_f {P : Prop} (h : ¬ P) : zI 0 = bP P := (@if_neg _ (Classical.propDecidable P) h _ _ _).symm
theorem bP_eq0 {P : Prop} : bP P = 0 ↔ ¬ P := by
  unfold bP; by_cases h : P
  · rw [if_pos h]; exact ⟨fun q => absurd q (by decide), fun q => absurd h q⟩
  · rw [if_neg h]; exact ⟨fun _ => h, fun _ => by decide⟩
end
section
/-! ===== pictures of the heap: F : role -> cell, ad : role -> address; roles from 100 on may be written ===== -/
abbrev Pic := Nat → Option va_E
abbrev Gx := (Nat × va_G) × ((Nat → ClassId) × (Nat → Nat))
def gz (g : Gx) : Nat := g.1.1
def gD (g : Gx) : va_G := g.1.2
def gA (g : Gx) : Nat → Prop := fun q => gz g ≤ q
def gc (g : Gx) (k : Nat) : ClassId := g.2.1 k
def gn (g : Gx) (k : Nat) : Nat := g.2.2 k
def gT (g : Gx) : List (ClassId × FieldType) := [(gc g 0, .int), (gc g 1, .long), (gc g 2, .object "java/lang/Object"), (gc g 3, .array .int)]
def Kn (g : Gx) (U : State) : Prop := va_K (gD g) vwCl (gT g) U
abbrev cI (g : Gx) (n : Nat) (f : Nat → Int32) : va_E := .inl (gc g 0, n, .inl f)
abbrev cJ (g : Gx) (n : Nat) (f : Nat → Int64) : va_E := .inl (gc g 1, n, .inr (.inl f))
abbrev cO (g : Gx) (n : Nat) (f : Nat → Option Nat) : va_E := .inl (gc g 2, n, .inr (.inr (.inr (.inr f))))
abbrev cQ (g : Gx) (n : Nat) (f : Nat → Option Nat) : va_E := .inl (gc g 3, n, .inr (.inr (.inr (.inr f))))
def pu (F : Pic) (r : Nat) (e : va_E) : Pic := fun x => if x = r then some e else F x
theorem pu_s {F : Pic} {r : Nat} {e : va_E} : pu F r e r = some e := if_pos rfl
theorem pu_n {F : Pic} {r x : Nat} {e : va_E} (h : x ≠ r) : pu F r e x = F x := if_neg h
theorem pu_ne {F : Pic} {r x : Nat} {e : va_E} (h : F x ≠ none) : pu F r e x ≠ none := by
  unfold pu; split
  · exact fun q => by cases q
  · exact h
def wl (ad : Nat → Nat) (F : Pic) (L : List Nat) : va_W := L.map (fun r => (ad r, (F r).getD (.inr (0, []))))
def HP (g : Gx) (ad : Nat → Nat) (F : Pic) (H : Heap) : Prop := ∃ L : List Nat, L.Nodup ∧ (∀ r, r ∈ L ↔ (100 ≤ r ∧ F r ≠ none)) ∧ va_P (gD g) vwCl (wl ad F L) H ∧ va_D (gA g) (wl ad F L) ∧ (∀ r e, r < 100 → F r = some e → va_at (gD g) vwCl (ad r, e) H ∧ ad r < gz g)
theorem wl_at {ad : Nat → Nat} {F : Pic} {L : List Nat} {r : Nat} {e : va_E} (h : r ∈ L) (hF : F r = some e) : ∃ k : Nat, L[k]? = some r ∧ (wl ad F L)[k]? = some (ad r, e) := by
  obtain ⟨k, hk⟩ := List.getElem?_of_mem h
  refine ⟨k, hk, ?_⟩
  unfold wl
  rw [List.getElem?_map, hk]
  simp [hF]
theorem HP.at {g : Gx} {ad : Nat → Nat} {F : Pic} {H : Heap} {r : Nat} {e : va_E} (h : HP g ad F H) (hF : F r = some e) : va_at (gD g) vwCl (ad r, e) H := by
  obtain ⟨L, -, h2, h3, -, h5⟩ := h
  by_cases hr : r < 100
  · exact (h5 r e hr hF).1
  · obtain ⟨k, -, hk⟩ := wl_at (ad := ad) ((h2 r).mpr ⟨by omega, by rw [hF]; exact fun q => by cases q⟩) hF
    exact h3 k _ hk
theorem HP.one {g : Gx} {ad : Nat → Nat} {F : Pic} {H : Heap} {r : Nat} {e : va_E} (h : HP g ad F H) (hF : F r = some e) : va_P (gD g) vwCl [(ad r, e)] H := by
  intro k q hk
  have h0 : k < 1 := (List.getElem?_eq_some_iff.mp hk).1
  rw [show k = 0 by omega] at hk
  cases hk
  exact h.at hF
theorem HP.inj {g : Gx} {ad : Nat → Nat} {F : Pic} {H : Heap} {r r' : Nat} {e e' : va_E} (h : HP g ad F H) (hF : F r = some e) (hF' : F r' = some e') (hr : 100 ≤ r) (hr' : 100 ≤ r') (ha : ad r = ad r') : r = r' := by
  obtain ⟨L, h1, h2, h3, h4, h5⟩ := h
  obtain ⟨k, k1, k2⟩ := wl_at (ad := ad) ((h2 r).mpr ⟨hr, by rw [hF]; exact fun q => by cases q⟩) hF
  obtain ⟨k', k1', k2'⟩ := wl_at (ad := ad) ((h2 r').mpr ⟨hr', by rw [hF']; exact fun q => by cases q⟩) hF'
  have e := h4.1 k k' _ _ k2 k2' ha
  subst e
  exact Option.some.inj (k1.symm.trans k1')
theorem nd_set {α β : Type} (f : α → β) (r : α) (y : β) : ∀ (L : List α) (k : Nat), L.Nodup → L[k]? = some r → ∀ g : α → β, (∀ x, x ≠ r → g x = f x) → g r = y → (L.map f).set k y = L.map g := by
  intro L
  induction L with
  | nil => intro k _ h; simp at h
  | cons a t ih =>
    intro k hn hk g hg hr
    have hn2 := List.nodup_cons.mp hn
    cases k with
    | zero =>
      have e : a = r := by simpa using hk
      subst e
      simp only [List.map_cons, List.set_cons_zero, hr]
      congr 1
      exact List.map_congr_left (fun x hx => (hg x (fun q => hn2.1 (q ▸ hx))).symm)
    | succ k =>
      have hk' : t[k]? = some r := by simpa using hk
      have hm : r ∈ t := List.mem_of_getElem? hk'
      simp only [List.map_cons, List.set_cons_succ]
      rw [ih k hn2.2 hk' g hg hr, hg a (fun q => hn2.1 (q ▸ hm))]
theorem HP.opn {g : Gx} {ad : Nat → Nat} {F : Pic} {H : Heap} (h : HP g ad F H) : ∃ ws : va_W, va_P (gD g) vwCl ws H ∧ va_D (gA g) ws ∧
    (∀ r e, F r = some e → 100 ≤ r → ∃ k, ws[k]? = some (ad r, e) ∧ ∀ (e' : va_E) (H1 : Heap), va_P (gD g) vwCl (ws.set k (ad r, e')) H1 → va_D (gA g) (ws.set k (ad r, e')) → (∀ q, q < gz g → H1[q]? = H[q]?) → HP g ad (pu F r e') H1) ∧
    (∀ (r : Nat) (e : va_E) (q : Nat) (H1 : Heap) (ad' : Nat → Nat), F r = none → 100 ≤ r → ad' r = q → (∀ x, F x ≠ none → ad' x = ad x) → va_P (gD g) vwCl (ws ++ [(q, e)]) H1 → va_D (gA g) (ws ++ [(q, e)]) → (∀ q, q < gz g → H1[q]? = H[q]?) → HP g ad' (pu F r e) H1) := by
  obtain ⟨L, h1, h2, h3, h4, h5⟩ := h
  refine ⟨wl ad F L, h3, h4, ?_, ?_⟩
  · intro r e hF hr
    have hm : r ∈ L := (h2 r).mpr ⟨hr, by rw [hF]; exact fun q => by cases q⟩
    obtain ⟨k, k1, k2⟩ := wl_at (ad := ad) hm hF
    refine ⟨k, k2, fun e' H1 hP hD hq => ?_⟩
    have hw : (wl ad F L).set k (ad r, e') = wl ad (pu F r e') L := by
      unfold wl
      refine nd_set _ r _ L k h1 k1 _ (fun x hx => ?_) ?_
      · rw [pu_n hx]
      · rw [pu_s]; rfl
    rw [hw] at hP hD
    refine ⟨L, h1, fun x => ?_, hP, hD, fun x e9 hx he => ?_⟩
    · rw [h2 x]
      by_cases hxr : x = r
      · subst hxr
        rw [pu_s, hF]
        exact ⟨fun q => ⟨q.1, fun z => by cases z⟩, fun q => ⟨q.1, fun z => by cases z⟩⟩
      · rw [pu_n hxr]
    · rw [pu_n (by omega)] at he
      obtain ⟨a1, a2⟩ := h5 x e9 hx he
      exact ⟨a1.kept (hq _ a2), a2⟩
  · intro r e q H1 ad' hF hr hq hx hP hD hk
    have hnm : r ∉ L := fun z => ((h2 r).mp z).2 hF
    have hw : wl ad F L ++ [(q, e)] = wl ad' (pu F r e) (L ++ [r]) := by
      unfold wl
      rw [List.map_append]
      congr 1
      · refine List.map_congr_left (fun x hxL => ?_)
        rw [hx x ((h2 x).mp hxL).2, pu_n (show x ≠ r from fun z => hnm (z ▸ hxL))]
      · simp [pu_s, hq]
    rw [hw] at hP hD
    refine ⟨L ++ [r], ?_, fun x => ?_, hP, hD, fun x e9 hx9 he => ?_⟩
    · refine List.nodup_append.mpr ⟨h1, by simp, fun a ha b hb => ?_⟩
      rw [List.mem_singleton.mp hb]
      exact fun z => hnm (z ▸ ha)
    · rw [List.mem_append, h2 x, List.mem_singleton]
      by_cases hxr : x = r
      · subst hxr
        rw [pu_s]
        exact ⟨fun _ => ⟨hr, fun z => by cases z⟩, fun _ => Or.inr rfl⟩
      · rw [pu_n hxr]
        exact ⟨fun z => z.elim id (fun z => absurd z hxr), Or.inl⟩
    · rw [pu_n (by omega)] at he
      obtain ⟨a1, a2⟩ := h5 x e9 hx9 he
      have hxx : ad' x = ad x := hx x (by rw [he]; exact fun z => by cases z)
      rw [hxx]
      exact ⟨a1.kept (hk _ a2), a2⟩
/-- fewer cells -/
theorem HP.less {g : Gx} {ad : Nat → Nat} {F F' : Pic} {H : Heap} (h : HP g ad F H) (hF : ∀ r e, F' r = some e → F r = some e) : HP g ad F' H := by
  obtain ⟨L, h1, h2, h3, h4, h5⟩ := h
  have sub : ∀ r, F' r ≠ none → r ∈ L → (ad r, (F' r).getD (.inr (0, []))) = (ad r, (F r).getD (.inr (0, []))) := fun r hr _ => by
    cases hc : F' r with
    | none => exact absurd hc hr
    | some e => rw [hF r e hc]
  refine ⟨L.filter (fun r => (F' r).isSome), h1.filter _, fun r => ?_, ?_, ?_, fun r e hr he => h5 r e hr (hF r e he)⟩
  · rw [List.mem_filter, h2]
    constructor
    · exact fun z => ⟨z.1.1, fun q => by rw [q] at z; cases z.2⟩
    · intro z
      cases hc : F' r with
      | none => exact absurd hc z.2
      | some e => exact ⟨⟨z.1, by rw [hF r e hc]; exact fun q => by cases q⟩, rfl⟩
  · intro k q hk
    have hm := List.mem_of_getElem? hk
    unfold wl at hm
    obtain ⟨r, hr, rfl⟩ := List.mem_map.mp hm
    obtain ⟨hr1, hr2⟩ := List.mem_filter.mp hr
    rw [sub r (fun z => by rw [z] at hr2; cases hr2) hr1]
    obtain ⟨j, hj⟩ := List.getElem?_of_mem hr1
    refine h3 j _ ?_
    unfold wl
    rw [List.getElem?_map, hj]; rfl
  · refine ⟨fun i j a b hi hj hab => ?_, fun k q hk => ?_⟩
    · unfold wl at hi hj
      rw [List.getElem?_map] at hi hj
      cases h9 : (L.filter (fun r => (F' r).isSome))[i]? with
      | none => rw [h9] at hi; cases hi
      | some r =>
        cases h8 : (L.filter (fun r => (F' r).isSome))[j]? with
        | none => rw [h8] at hj; cases hj
        | some r' =>
          rw [h9] at hi; rw [h8] at hj
          cases hi; cases hj
          have m1 := (List.mem_filter.mp (List.mem_of_getElem? h9)).1
          have m2 := (List.mem_filter.mp (List.mem_of_getElem? h8)).1
          obtain ⟨i', hi'⟩ := List.getElem?_of_mem m1
          obtain ⟨j', hj'⟩ := List.getElem?_of_mem m2
          have e := h4.1 i' j' (ad r, (F r).getD (.inr (0, []))) (ad r', (F r').getD (.inr (0, []))) (by unfold wl; rw [List.getElem?_map, hi']; rfl) (by unfold wl; rw [List.getElem?_map, hj']; rfl) hab
          subst e
          have er : r = r' := Option.some.inj (hi'.symm.trans hj')
          subst er
          exact (List.getElem?_inj (List.getElem?_eq_some_iff.mp h9).1 (h1.filter _)).mp (h9.trans h8.symm)
    · have hm := List.mem_of_getElem? hk
      unfold wl at hm
      obtain ⟨r, hr, rfl⟩ := List.mem_map.mp hm
      obtain ⟨j, hj⟩ := List.getElem?_of_mem (List.mem_filter.mp hr).1
      exact h4.2 j (ad r, (F r).getD (.inr (0, []))) (by unfold wl; rw [List.getElem?_map, hj]; rfl)
theorem va_S.low {g : Gx} {H0 H H1 : Heap} {l0 l1 : List Loc} (h : va_S (gA g) H0 H l0) (h1 : va_S (gA g) H0 H1 l1) (hz : gz g ≤ H0.size) : ∀ q, q < gz g → H1[q]? = H[q]? := fun q hq =>
  (h1.2.1 q (by omega) (by unfold gA; omega)).trans (h.2.1 q (by omega) (by unfold gA; omega)).symm
/-! ===== locals as a list ===== -/
def las (LS : List (Option Value)) : List (Nat × Value) := (List.range LS.length).filterMap (fun i => match LS[i]? with | some (some v) => some (i, v) | _ => none)
theorem las_mem {LS : List (Option Value)} {i : Nat} {v : Value} : (i, v) ∈ las LS ↔ LS[i]? = some (some v) := by
  unfold las
  rw [List.mem_filterMap]
  constructor
  · rintro ⟨j, -, hj⟩
    split at hj
    · next w hw => cases hj; exact hw
    · cases hj
  · intro h
    refine ⟨i, List.mem_range.mpr (List.getElem?_eq_some_iff.mp h).1, ?_⟩
    rw [h]
def lvs (ls : Array Slot) (n : Nat) (LS : List (Option Value)) : Prop := lv_has ls n (las LS)
theorem lvs.at {ls : Array Slot} {n : Nat} {LS : List (Option Value)} (h : lvs ls n LS) {i : Nat} {v : Value} (e : LS[i]? = some (some v)) : ls[i]? = some (.val v) := h.2.2 (i, v) (las_mem.mpr e)
/-- no long reaches into place i -/
def lok (LS : List (Option Value)) : Nat → Bool
  | 0 => true
  | i + 1 => match LS[i]? with | some (some v) => v.category == 1 | _ => true
theorem lvs.set1 {ls : Array Slot} {n i : Nat} {LS : List (Option Value)} {v : Value} (h : lv_has ls n ((i, v) :: (las LS).filter (fun q => !(q.1 == i) && !(q.1 + 1 == i && q.2.category == 2)))) (hk : lok LS i = true) : lvs ls n (LS.set i (some v)) := by
  refine ⟨h.1, h.2.1, fun q hq => h.2.2 q ?_⟩
  obtain ⟨j, w⟩ := q
  have e := las_mem.mp hq
  rw [List.getElem?_set] at e
  split at e
  · next hij => subst hij; split at e
                · cases e; exact List.mem_cons_self
                · cases e
  · next hij =>
    refine List.mem_cons_of_mem _ (List.mem_filter.mpr ⟨las_mem.mpr e, ?_⟩)
    have h1 : (j == i) = false := by simp; exact fun z => hij z.symm
    by_cases h2 : j + 1 = i
    · subst h2
      have hk2 : (match LS[j]? with | some (some v) => v.category == 1 | _ => true) = true := hk
      rw [e] at hk2
      have hc : w.category = 1 := by simpa using hk2
      simp [hc]
    · simp [h2]; exact fun z => hij z.symm
theorem lvs.set2 {ls : Array Slot} {n i : Nat} {LS : List (Option Value)} {v : Value} (h : lv_has ls n ((i, v) :: (las LS).filter (fun q => !(q.1 == i) && (!(q.1 == i + 1) && !(q.1 + 1 == i && q.2.category == 2))))) (hk : lok LS i = true) : lvs ls n ((LS.set i (some v)).set (i + 1) none) := by
  refine ⟨h.1, h.2.1, fun q hq => h.2.2 q ?_⟩
  obtain ⟨j, w⟩ := q
  have e := las_mem.mp hq
  rw [List.getElem?_set] at e
  split at e
  · split at e
    · cases e
    · cases e
  · next hij2 =>
    rw [List.getElem?_set] at e
    split at e
    · next hij => subst hij; split at e
                  · cases e; exact List.mem_cons_self
                  · cases e
    · next hij =>
      refine List.mem_cons_of_mem _ (List.mem_filter.mpr ⟨las_mem.mpr e, ?_⟩)
      have h1 : (j == i) = false := by simp; exact fun z => hij z.symm
      have h3 : (j == i + 1) = false := by simp; exact fun z => hij2 z.symm
      by_cases h2 : j + 1 = i
      · subst h2
        have hk2 : (match LS[j]? with | some (some v) => v.category == 1 | _ => true) = true := hk
        rw [e] at hk2
        have hc : w.category = 1 := by simpa using hk2
        simp [hc]; omega
      · simp [h2]; exact ⟨fun z => hij z.symm, fun z => hij2 z.symm⟩
theorem lvs.less {ls : Array Slot} {n : Nat} {LS LS' : List (Option Value)} (h : lvs ls n LS) (hq : ∀ (i : Nat) (v : Value), LS'[i]? = some (some v) → LS[i]? = some (some v)) : lvs ls n LS' :=
  ⟨h.1, h.2.1, fun q hm => h.2.2 q (las_mem.mpr (hq q.1 q.2 (las_mem.mp hm)))⟩
end
section
/-! ===== a method's walk over pictures ===== -/
abbrev Mx := (Program × Launch × Env × Room × State) × (MethodId × Array Value × List Frame × Method × Code) × (Nat × (State → Prop))
abbrev mP (M : Mx) : Program := M.1.1
abbrev mL (M : Mx) : Launch := M.1.2.1
abbrev mE (M : Mx) : Env := M.1.2.2.1
abbrev mR (M : Mx) : Room := M.1.2.2.2.1
abbrev mS (M : Mx) : State := M.1.2.2.2.2
abbrev mM (M : Mx) : MethodId := M.2.1.1
abbrev mA (M : Mx) : Array Value := M.2.1.2.1
abbrev mB (M : Mx) : List Frame := M.2.1.2.2.1
abbrev mMe (M : Mx) : Method := M.2.1.2.2.2.1
abbrev mC (M : Mx) : Code := M.2.1.2.2.2.2
abbrev mN (M : Mx) : Nat := M.2.2.1
abbrev mQ (M : Mx) : State → Prop := M.2.2.2
def V (M : Mx) (g : Gx) (ad : Nat → Nat) (F : Pic) (kc ks pc : Nat) (LS : List (Option Value)) (ST : List Value) : Prop :=
  ∀ (H : Heap) (locs : List Loc) (ls : Array Slot), HP g ad F H → va_S (gA g) (mS M).heap H locs → lvs ls (mN M) LS →
    W (mP M) (mL M) (mE M) (mR M) (mS M) (mM M) (mA M) (mB M) (mMe M) (mC M) H locs kc ks (mQ M) (F0 (mM M) pc ls ST)
def yX4_owner : MethodName := ⟨RX4, "owner", "()LRestrictedFunds$Fund;"⟩
def yX4_expiry : MethodName := ⟨RX4, "expiry", "()I"⟩
def yX4_mayPay : MethodName := ⟨RX4, "mayPay", "(LRestrictedFunds$Cost;)Z"⟩
/-- what the tables and the statics say at any time, beside the steady words -/
def Zw (g : Gx) (U : State) (H : Heap) : Prop :=
  (va_Nw (.methodLinkNest RX2 28 yX5_has RX5) U ∧ va_Nw (.methodLinkNest RX3 71 yX5_has RX5) U ∧ va_Nw (.methodLinkNest RX5 27 yX3_init RX5) U) ∧
  (va_Nw (.declares yX4_owner) U ∧ va_Nw (.declares yX4_expiry) U ∧ va_Nw (.declares yX4_mayPay) U) ∧
  (va_Nw (.castable RX2 RX4) U ∧ va_Nw (.castable RX0 RX4) U ∧ va_Nw (.castable RX2 "java/lang/Object") U ∧ va_Nw (.castable RX0 "java/lang/Object") U ∧ va_Nw (.castable RX1 "java/lang/Object") U) ∧
  (vx_Zq Bundle.tN "UNASSIGNED_STACK" Bundle.steD (gA g) U H ∧ vx_Zq Bundle.tN "SUPPRESSED_SENTINEL" Bundle.listD (gA g) U H) ∧
  (vk_R RX5 177 "a number is out of range" (gn g 0) U ∧ vk_R RX5 184 "the ledger does not allow this now" (gn g 1) U ∧ vk_R RX5 189 "there is no such fund" (gn g 2) U ∧ vk_R RX5 192 "there is no such commitment" (gn g 3) U ∧ vk_R RX5 194 "there is no such cost" (gn g 4) U) ∧
  va_AOA .int U ∧ va_AO "java/lang/Object" U ∧ va_Z "java/util/ArrayList" "DEFAULTCAPACITY_EMPTY_ELEMENTDATA" "[Ljava/lang/Object;" (.ref (gn g 99)) (gA g) U H ∧ va_Mi "[Ljava/lang/Object;" (gn g 98) U ∧ va_Nw (.castable "[Ljava/lang/Object;" "java/lang/Object") U
theorem va_AOA.moved {ty : FieldType} {u U : State} (hvm : u.vm.Alike U.vm) (h : va_AOA ty u) : va_AOA ty U := arrayOver_alikeB hvm h
theorem Zw.moved {g : Gx} {s U : State} {H H1 : Heap} (hW : s.WarmedH U.vm) (hk : ∀ a : Nat, a < H.size → ¬ gA g a → H1[a]? = H[a]?) (h : Zw g s H) : Zw g U H1 := by
  obtain ⟨⟨a1, a2, a3⟩, ⟨b1, b2, b3⟩, ⟨c1, c2, c3, c4, c5⟩, ⟨d1, d2⟩, ⟨e1, e2, e3, e4, e5⟩, f1, f2, f3, f4, f5⟩ := h
  exact ⟨⟨a1.warmM hW, a2.warmM hW, a3.warmM hW⟩, ⟨b1.warmD hW, b2.warmD hW, b3.warmD hW⟩, ⟨c1.warmC hW, c2.warmC hW, c3.warmC hW, c4.warmC hW, c5.warmC hW⟩, ⟨(d1.moved hW.alike).kept hk, (d2.moved hW.alike).kept hk⟩, ⟨e1.warm hW, e2.warm hW, e3.warm hW, e4.warm hW, e5.warm hW⟩, f1.moved hW.alike, f2.moved hW.alike, (f3.moved hW.alike).kept hk, f4.moved hW.alike, f5.warmC hW⟩
def WS : List Cond := lw_tbl.filter goodWord
theorem ws_in {w : Cond} (h : w ∈ tables_1) (hg : goodWord w = true) : w ∈ WS := List.mem_filter.mpr ⟨List.mem_append_right _ h, hg⟩
theorem ws_sel {w : Cond} (h : w ∈ k2_sels lw_privs) (hg : goodWord w = true) : w ∈ WS := List.mem_filter.mpr ⟨List.mem_append_left _ h, hg⟩
theorem ws_all {w : Cond} (h : w ∈ WS) : (w.onTables && w.keeps) = true ∨ ∃ ty, w = .arrayClass ty := good_of_word (List.mem_filter.mp h).2
def PcK (g : Gx) (as : List Value) (ad : Nat → Nat) (F : Pic) : Array Value → State → Prop := va_Pc as (fun U => gz g ≤ U.heap.size ∧ HP g ad F U.heap ∧ Kn g U ∧ Zw g U U.heap)
def QcK (g : Gx) (K : Option Value → (Nat → Nat) → Pic → Prop) : Array Value → State → Outcome → State → Prop := fun _ st oc t => (∃ v ad F, oc = .returned v ∧ K v ad F ∧ HP g ad F t.heap) ∧ va_F (gA g) st t
def XcK (g : Gx) (KX : String → (Nat → Nat) → Pic → Prop) : String → State → State → Prop := fun E st t => ∃ ad F, KX E ad F ∧ HP g ad F t.heap ∧ va_F (gA g) st t
def rmL (n mc ms : Nat) : Room := { frames := n, cells := mc, slots := ms, locals := 100 * n }
def noX : String → (Nat → Nat) → Pic → Prop := fun _ _ _ => False
theorem PcK.blind {g : Gx} {as : List Value} {ad : Nat → Nat} {F : Pic} : FrameBlind (PcK g as ad F) := fun _ U _ _ h =>
  ⟨h.1, h.2.1, h.2.2.1, h.2.2.2.1.moved (Vm.Alike.refl U.vm), Zw.moved (s := U) (State.WarmedH.refl U) (fun _ _ _ => rfl) h.2.2.2.2⟩
/-- a method that returns: its contract -/
def Ct (g : Gx) (l : Launch) (y : MethodName) (cy : ByteArray) (nL : Nat) (ret : Option FieldType) (n mc ms : Nat) (as : List Value) (ad : Nat → Nat) (F : Pic) (K : Option Value → (Nat → Nat) → Pic → Prop) : Prop :=
  Met l y (.code y cy nL ret :: WS) (rmL n mc ms) (PcK g as ad F) (QcK g K) mc ms (gA g)
/-- a method that returns or throws -/
def CtX (g : Gx) (l : Launch) (y : MethodName) (cy : ByteArray) (nL : Nat) (ret : Option FieldType) (n mc ms : Nat) (as : List Value) (ad : Nat → Nat) (F : Pic) (K : Option Value → (Nat → Nat) → Pic → Prop) (KX : String → (Nat → Nat) → Pic → Prop) : Prop :=
  vx_Met l y (.code y cy nL ret :: WS) (rmL n mc ms) (PcK g as ad F) (QcK g K) (XcK g KX) mc ms (gA g)
/-- what stands during a method's walk -/
def Cx (M : Mx) (g : Gx) (y : MethodName) (cc : ByteArray) (ret : Option FieldType) (n mc ms : Nat) (tb : List ExceptionTableEntry) (K : Option Value → (Nat → Nat) → Pic → Prop) (KX : String → (Nat → Nat) → Pic → Prop) : Prop :=
  ((mP M).tables.exec = Jvm.exec ∧ (mC M).code = cc ∧ (mC M).maxLocals = mN M ∧ (mS M).vm.findClass y.cls = some (mM M).cls ∧ (∀ w ∈ WS, w.before (mA M) (mS M) = true)) ∧
  ((mMe M).sig.returnType = ret ∧ (mMe M).locks = false ∧ (mMe M).name = y.name ∧ Kn g (mS M) ∧ Zw g (mS M) (mS M).heap) ∧
  gz g ≤ (mS M).heap.size ∧ (mC M).exceptionTable.toList = tb ∧ mR M = rmL n mc ms ∧ mQ M = vx_MQ (mB M) (QcK g K) (XcK g KX) (mA M) (mS M) mc ms (gA g) ∧ ((mL M).stackTraces = false)
theorem CtX_of {g : Gx} {l : Launch} {y : MethodName} {cy : ByteArray} {nL : Nat} {ret : Option FieldType} {n mc ms : Nat} {as : List Value} {ad : Nat → Nat} {F : Pic} {K : Option Value → (Nat → Nat) → Pic → Prop} {KX : String → (Nat → Nat) → Pic → Prop}
    (hl : l.stackTraces = false) (hy : plainName y.cls = true) (LS : List (Option Value)) (hn : (lg_sl as).length ≤ nL) (hLS : ∀ q ∈ las LS, q ∈ lv_args 0 as) (body : ∀ M : Mx, mL M = l → mN M = nL → Cx M g y cy ret n mc ms [] K KX → V M g ad F 0 0 0 LS []) : CtX g l y cy nL ret n mc ms as ad F K KX := by
  refine vx_ofW (cc := cy) (maxL := nL) (ret := ret) hy rfl ?_
  intro p e s m args below meth c s₁ B hml hex hv
  obtain ⟨rfl, hz, hP, hK, hZ⟩ := hv
  have hts := atoms_spec (ws := .code y cy nL ret :: WS) B.pre
  have hown : s.vm.findClass y.cls = some m.cls := findClass_of_methodNamed B.named
  have h := body ((p, l, e, (headSpec (.code y cy nL ret :: WS) (rmL n mc ms)).room, s), (m, as.toArray, below, meth, c), (nL, vx_MQ below (QcK g K) (XcK g KX) as.toArray s mc ms (gA g))) rfl rfl
    ⟨⟨B.exec, B.bytes, hml, hown, fun w hw => hts w (List.mem_cons_of_mem _ hw)⟩, ⟨B.returns, B.notSynchronized, (name_of_methodNamed B.named B.method).1, hK, hZ⟩, hz, List.eq_nil_iff_forall_not_mem.mpr hex, rfl, rfl, hl⟩
  rw [lg_entry_eq]
  exact h s.heap [] _ hP va_S.rf ⟨(lv_entry as hn).1, (lv_entry as hn).2.1, fun q hq => (lv_entry as hn).2.2 q (hLS q hq)⟩
theorem Ct.ofX {g : Gx} {l : Launch} {y : MethodName} {cy : ByteArray} {nL : Nat} {ret : Option FieldType} {n mc ms : Nat} {as : List Value} {ad : Nat → Nat} {F : Pic} {K : Option Value → (Nat → Nat) → Pic → Prop}
    (h : CtX g l y cy nL ret n mc ms as ad F K noX) : Ct g l y cy nL ret n mc ms as ad F K := by
  unfold Ct Met
  exact MetFree.mono h (fun _ _ q => q) (fun _ _ _ _ _ q => q) (fun a st o t _ q => by
    rcases q with q | ⟨x, -, E, ce, L, ⟨_, _, hf, -⟩, -⟩
    · exact q
    · exact hf.elim)
theorem Ct_of {g : Gx} {l : Launch} {y : MethodName} {cy : ByteArray} {nL : Nat} {ret : Option FieldType} {n mc ms : Nat} {as : List Value} {ad : Nat → Nat} {F : Pic} {K : Option Value → (Nat → Nat) → Pic → Prop}
    (hl : l.stackTraces = false) (hy : plainName y.cls = true) (LS : List (Option Value)) (hn : (lg_sl as).length ≤ nL) (hLS : ∀ q ∈ las LS, q ∈ lv_args 0 as) (body : ∀ M : Mx, mL M = l → mN M = nL → Cx M g y cy ret n mc ms [] K noX → V M g ad F 0 0 0 LS []) : Ct g l y cy nL ret n mc ms as ad F K := Ct.ofX (CtX_of hl hy LS hn hLS body)
theorem lcmp_zL {x z : Int} (hx : inL x) (hz : inL z) : lg_cmp (zL x) (zL z) = zI (if x < z then -1 else if x = z then 0 else 1) := by
  unfold lg_cmp
  by_cases h1 : z < x
  · have h3 : zL x > zL z := (zL_lt hz hx).mpr h1
    rw [if_pos h3, if_neg (by omega), if_neg (by omega)]
    rfl
  · have h3 : ¬ zL x > zL z := fun q => h1 ((zL_lt hz hx).mp q)
    rw [if_neg h3]
    by_cases h2 : x = z
    · subst h2
      rw [if_pos rfl, if_neg (by omega), if_pos rfl]
      rfl
    · rw [if_neg (fun q => h2 ((zL_eq hx hz).mp q)), if_pos (by omega)]
      rfl
section Rows
variable {M : Mx} {g : Gx} {y : MethodName} {cc : ByteArray} {ret : Option FieldType} {n mc ms : Nat} {tb : List ExceptionTableEntry} {K : Option Value → (Nat → Nat) → Pic → Prop} {KX : String → (Nat → Nat) → Pic → Prop} {ad : Nat → Nat} {F : Pic} {kc ks pc : Nat} {LS : List (Option Value)} {ST rest : List Value}
theorem r_iconst (X : Cx M g y cc ret n mc ms tb K KX) {z : Int} (d : decode cc pc = .ok (.iconst z, 1)) (hv : Int32.ofInt z = zI z := by rfl) (k : V M g ad F kc ks (pc + 1) (LS) (.int (zI z) :: ST)) : V M g ad F kc ks pc LS (ST) := fun H locs ls a b c => lv_iconst X.1.1 X.1.2.1 d rfl (k H locs ls a b c)
theorem r_bipush (X : Cx M g y cc ret n mc ms tb K KX) {z : Int} (d : decode cc pc = .ok (.bipush z, 2)) (hv : (Int8.ofInt z).toInt32 = zI z := by decide) (k : V M g ad F kc ks (pc + 2) (LS) (.int (zI z) :: ST)) : V M g ad F kc ks pc LS (ST) := fun H locs ls a b c => lv_bipush X.1.1 X.1.2.1 d hv (k H locs ls a b c)
theorem r_sipush (X : Cx M g y cc ret n mc ms tb K KX) {z : Int} (d : decode cc pc = .ok (.sipush z, 3)) (hv : (Int16.ofInt z).toInt32 = zI z := by decide) (k : V M g ad F kc ks (pc + 3) (LS) (.int (zI z) :: ST)) : V M g ad F kc ks pc LS (ST) := fun H locs ls a b c => lv_sipush X.1.1 X.1.2.1 d hv (k H locs ls a b c)
theorem r_ldc (X : Cx M g y cc ret n mc ms tb K KX) {i : Nat} {v : Int32} (d : decode cc pc = .ok (.ldc i, 2)) (hw : Cond.constant y.cls i v ∈ WS) (z : Int) (hv : v = zI z) (k : V M g ad F kc ks (pc + 2) (LS) (.int (zI z) :: ST)) : V M g ad F kc ks pc LS (ST) := fun H locs ls a b c => lv_ldc X.1.1 X.1.2.1 X.1.2.2.2.1 (X.1.2.2.2.2 _ hw) d (by rw [hv]; exact (k H locs ls a b c))
theorem r_ldc2 (X : Cx M g y cc ret n mc ms tb K KX) {i : Nat} {v : Int64} (d : decode cc pc = .ok (.ldc2_w i, 3)) (hw : Cond.constantLong y.cls i v ∈ WS) (z : Int) (hv : v = zL z) (k : V M g ad F kc ks (pc + 3) (LS) (.long (zL z) :: ST)) : V M g ad F kc ks pc LS (ST) := fun H locs ls a b c => lv_ldc2 X.1.1 X.1.2.1 X.1.2.2.2.1 (X.1.2.2.2.2 _ hw) d (by rw [hv]; exact (k H locs ls a b c))
theorem r_lconst (X : Cx M g y cc ret n mc ms tb K KX) {k0 : Fin 2} (d : decode cc pc = .ok (.lconst k0, 1)) (z : Int) (hv : Int64.ofNat (k0 : Nat) = zL z) (k : V M g ad F kc ks (pc + 1) (LS) (.long (zL z) :: ST)) : V M g ad F kc ks pc LS (ST) := fun H locs ls a b c => lv_lconst X.1.1 X.1.2.1 d hv (k H locs ls a b c)
theorem r_null (X : Cx M g y cc ret n mc ms tb K KX)  (d : decode cc pc = .ok (.aconst_null, 1))  (k : V M g ad F kc ks (pc + 1) (LS) (.null :: ST)) : V M g ad F kc ks pc LS (ST) := fun H locs ls a b c => lv_null X.1.1 X.1.2.1 d (k H locs ls a b c)
theorem r_iload (X : Cx M g y cc ret n mc ms tb K KX) {i : Nat} {x : Int32} (d : decode cc pc = .ok (.iload i, 2)) (h : LS[i]? = some (some (.int x))) (k : V M g ad F kc ks (pc + 2) (LS) (.int x :: ST)) : V M g ad F kc ks pc LS (ST) := fun H locs ls a b c => lv_iload X.1.1 X.1.2.1 d (c.at h) (k H locs ls a b c)
theorem r_iload_n (X : Cx M g y cc ret n mc ms tb K KX) {j : Fin 4} {x : Int32} (d : decode cc pc = .ok (.iload_n j, 1)) (h : LS[(j : Nat)]? = some (some (.int x))) (k : V M g ad F kc ks (pc + 1) (LS) (.int x :: ST)) : V M g ad F kc ks pc LS (ST) := fun H locs ls a b c => lv_iload_n X.1.1 X.1.2.1 d rfl (c.at h) (k H locs ls a b c)
theorem r_aload (X : Cx M g y cc ret n mc ms tb K KX) {i : Nat} {x : Nat} (d : decode cc pc = .ok (.aload i, 2)) (h : LS[i]? = some (some (.ref x))) (k : V M g ad F kc ks (pc + 2) (LS) (.ref x :: ST)) : V M g ad F kc ks pc LS (ST) := fun H locs ls a b c => lv_aload X.1.1 X.1.2.1 d (c.at h) (k H locs ls a b c)
theorem r_aload_n (X : Cx M g y cc ret n mc ms tb K KX) {j : Fin 4} {x : Nat} (d : decode cc pc = .ok (.aload_n j, 1)) (h : LS[(j : Nat)]? = some (some (.ref x))) (k : V M g ad F kc ks (pc + 1) (LS) (.ref x :: ST)) : V M g ad F kc ks pc LS (ST) := fun H locs ls a b c => lv_aload_n X.1.1 X.1.2.1 d rfl (c.at h) (k H locs ls a b c)
theorem r_lload (X : Cx M g y cc ret n mc ms tb K KX) {i : Nat} {x : Int64} (d : decode cc pc = .ok (.lload i, 2)) (h : LS[i]? = some (some (.long x))) (k : V M g ad F kc ks (pc + 2) (LS) (.long x :: ST)) : V M g ad F kc ks pc LS (ST) := fun H locs ls a b c => lv_lload X.1.1 X.1.2.1 d (c.at h) (k H locs ls a b c)
theorem r_lload_n (X : Cx M g y cc ret n mc ms tb K KX) {j : Fin 4} {x : Int64} (d : decode cc pc = .ok (.lload_n j, 1)) (h : LS[(j : Nat)]? = some (some (.long x))) (k : V M g ad F kc ks (pc + 1) (LS) (.long x :: ST)) : V M g ad F kc ks pc LS (ST) := fun H locs ls a b c => lv_lload_n X.1.1 X.1.2.1 d rfl (c.at h) (k H locs ls a b c)
theorem r_istore (X : Cx M g y cc ret n mc ms tb K KX) {i : Nat} {x : Int32} (d : decode cc pc = .ok (.istore i, 2)) (hi : i < mN M) (hk : lok LS i = true) (k : V M g ad F kc ks (pc + 2) (LS.set i (some (.int x))) (ST)) : V M g ad F kc ks pc LS (.int x :: ST) := fun H locs ls a b c => lv_istore X.1.1 X.1.2.1 d c hi rfl (fun ls2 h2 => k H locs ls2 a b (lvs.set1 h2 hk))
theorem r_istore_n (X : Cx M g y cc ret n mc ms tb K KX) {j : Fin 4} {x : Int32} (d : decode cc pc = .ok (.istore_n j, 1)) (hi : (j : Nat) < mN M) (hk : lok LS j = true) (k : V M g ad F kc ks (pc + 1) (LS.set j (some (.int x))) (ST)) : V M g ad F kc ks pc LS (.int x :: ST) := fun H locs ls a b c => lv_istore_n X.1.1 X.1.2.1 d rfl c hi rfl (fun ls2 h2 => k H locs ls2 a b (lvs.set1 h2 hk))
theorem r_astore (X : Cx M g y cc ret n mc ms tb K KX) {i : Nat} {x : Nat} (d : decode cc pc = .ok (.astore i, 2)) (hi : i < mN M) (hk : lok LS i = true) (k : V M g ad F kc ks (pc + 2) (LS.set i (some (.ref x))) (ST)) : V M g ad F kc ks pc LS (.ref x :: ST) := fun H locs ls a b c => lv_astore X.1.1 X.1.2.1 d c hi rfl (fun ls2 h2 => k H locs ls2 a b (lvs.set1 h2 hk))
theorem r_astore_n (X : Cx M g y cc ret n mc ms tb K KX) {j : Fin 4} {x : Nat} (d : decode cc pc = .ok (.astore_n j, 1)) (hi : (j : Nat) < mN M) (hk : lok LS j = true) (k : V M g ad F kc ks (pc + 1) (LS.set j (some (.ref x))) (ST)) : V M g ad F kc ks pc LS (.ref x :: ST) := fun H locs ls a b c => lv_astore_n X.1.1 X.1.2.1 d rfl c hi rfl (fun ls2 h2 => k H locs ls2 a b (lvs.set1 h2 hk))
theorem r_lstore (X : Cx M g y cc ret n mc ms tb K KX) {i : Nat} {x : Int64} (d : decode cc pc = .ok (.lstore i, 2)) (hi : i + 1 < mN M) (hk : lok LS i = true) (k : V M g ad F kc ks (pc + 2) ((LS.set i (some (.long x))).set (i + 1) none) (ST)) : V M g ad F kc ks pc LS (.long x :: ST) := fun H locs ls a b c => lv_lstore X.1.1 X.1.2.1 d c hi rfl (fun ls2 h2 => k H locs ls2 a b (lvs.set2 h2 hk))
theorem r_lstore_n (X : Cx M g y cc ret n mc ms tb K KX) {j : Fin 4} {x : Int64} (d : decode cc pc = .ok (.lstore_n j, 1)) (hi : (j : Nat) + 1 < mN M) (hk : lok LS j = true) (k : V M g ad F kc ks (pc + 1) ((LS.set j (some (.long x))).set (j + 1) none) (ST)) : V M g ad F kc ks pc LS (.long x :: ST) := fun H locs ls a b c => lv_lstore_n X.1.1 X.1.2.1 d rfl c hi rfl (fun ls2 h2 => k H locs ls2 a b (lvs.set2 h2 hk))
theorem r_iadd (X : Cx M g y cc ret n mc ms tb K KX) {x z : Int} (d : decode cc pc = .ok (.iadd, 1))  (k : V M g ad F kc ks (pc + 1) (LS) (.int (zI (x + z)) :: ST)) : V M g ad F kc ks pc LS (.int (zI z) :: .int (zI x) :: ST) := fun H locs ls a b c => lv_iadd X.1.1 X.1.2.1 d (by rw [zI_add]; exact (k H locs ls a b c))
theorem r_isub (X : Cx M g y cc ret n mc ms tb K KX) {x z : Int} (d : decode cc pc = .ok (.isub, 1))  (k : V M g ad F kc ks (pc + 1) (LS) (.int (zI (x - z)) :: ST)) : V M g ad F kc ks pc LS (.int (zI z) :: .int (zI x) :: ST) := fun H locs ls a b c => lv_isub X.1.1 X.1.2.1 d (by rw [zI_sub]; exact (k H locs ls a b c))
theorem r_imul (X : Cx M g y cc ret n mc ms tb K KX) {x z : Int} (d : decode cc pc = .ok (.imul, 1))  (k : V M g ad F kc ks (pc + 1) (LS) (.int (zI (x * z)) :: ST)) : V M g ad F kc ks pc LS (.int (zI z) :: .int (zI x) :: ST) := fun H locs ls a b c => lv_imul X.1.1 X.1.2.1 d (by rw [zI_mul]; exact (k H locs ls a b c))
theorem r_ineg (X : Cx M g y cc ret n mc ms tb K KX) {x : Int} (d : decode cc pc = .ok (.ineg, 1))  (k : V M g ad F kc ks (pc + 1) (LS) (.int (zI (- x)) :: ST)) : V M g ad F kc ks pc LS (.int (zI x) :: ST) := fun H locs ls a b c => lv_ineg X.1.1 X.1.2.1 d (by rw [zI_neg]; exact (k H locs ls a b c))
theorem r_ladd (X : Cx M g y cc ret n mc ms tb K KX) {x z : Int} (d : decode cc pc = .ok (.ladd, 1))  (k : V M g ad F kc ks (pc + 1) (LS) (.long (zL (x + z)) :: ST)) : V M g ad F kc ks pc LS (.long (zL z) :: .long (zL x) :: ST) := fun H locs ls a b c => lv_ladd X.1.1 X.1.2.1 d (by rw [zL_add]; exact (k H locs ls a b c))
theorem r_lmul (X : Cx M g y cc ret n mc ms tb K KX) {x z : Int} (d : decode cc pc = .ok (.lmul, 1))  (k : V M g ad F kc ks (pc + 1) (LS) (.long (zL (x * z)) :: ST)) : V M g ad F kc ks pc LS (.long (zL z) :: .long (zL x) :: ST) := fun H locs ls a b c => lv_lmul X.1.1 X.1.2.1 d (by rw [zL_mul]; exact (k H locs ls a b c))
theorem r_ishl (X : Cx M g y cc ret n mc ms tb K KX) {x z v : Int32} (hv : x <<< (z &&& 31) = v) (d : decode cc pc = .ok (.ishl, 1))  (k : V M g ad F kc ks (pc + 1) (LS) (.int v :: ST)) : V M g ad F kc ks pc LS (.int z :: .int x :: ST) := fun H locs ls a b c => lv_ishl X.1.1 X.1.2.1 d (by rw [hv]; exact (k H locs ls a b c))
theorem r_ishr (X : Cx M g y cc ret n mc ms tb K KX) {x z v : Int32} (hv : x >>> (z &&& 31) = v) (d : decode cc pc = .ok (.ishr, 1))  (k : V M g ad F kc ks (pc + 1) (LS) (.int v :: ST)) : V M g ad F kc ks pc LS (.int z :: .int x :: ST) := fun H locs ls a b c => lv_ishr X.1.1 X.1.2.1 d (by rw [hv]; exact (k H locs ls a b c))
theorem r_iand (X : Cx M g y cc ret n mc ms tb K KX) {x z v : Int32} (hv : x &&& z = v) (d : decode cc pc = .ok (.iand, 1))  (k : V M g ad F kc ks (pc + 1) (LS) (.int v :: ST)) : V M g ad F kc ks pc LS (.int z :: .int x :: ST) := fun H locs ls a b c => lv_iand X.1.1 X.1.2.1 d (by rw [hv]; exact (k H locs ls a b c))
theorem r_ior (X : Cx M g y cc ret n mc ms tb K KX) {x z v : Int32} (hv : x ||| z = v) (d : decode cc pc = .ok (.ior, 1))  (k : V M g ad F kc ks (pc + 1) (LS) (.int v :: ST)) : V M g ad F kc ks pc LS (.int z :: .int x :: ST) := fun H locs ls a b c => lv_ior X.1.1 X.1.2.1 d (by rw [hv]; exact (k H locs ls a b c))
theorem r_ixor (X : Cx M g y cc ret n mc ms tb K KX) {x z v : Int32} (hv : x ^^^ z = v) (d : decode cc pc = .ok (.ixor, 1))  (k : V M g ad F kc ks (pc + 1) (LS) (.int v :: ST)) : V M g ad F kc ks pc LS (.int z :: .int x :: ST) := fun H locs ls a b c => lv_ixor X.1.1 X.1.2.1 d (by rw [hv]; exact (k H locs ls a b c))
theorem r_idiv (X : Cx M g y cc ret n mc ms tb K KX) {x z v : Int32} (hne : ¬ z = 0) (hv : x / z = v) (d : decode cc pc = .ok (.idiv, 1))  (k : V M g ad F kc ks (pc + 1) (LS) (.int v :: ST)) : V M g ad F kc ks pc LS (.int z :: .int x :: ST) := fun H locs ls a b c => lv_idiv X.1.1 X.1.2.1 d hne (by rw [hv]; exact (k H locs ls a b c))
theorem r_ldiv (X : Cx M g y cc ret n mc ms tb K KX) {x z v : Int64} (hne : ¬ z = 0) (hv : x / z = v) (d : decode cc pc = .ok (.ldiv, 1))  (k : V M g ad F kc ks (pc + 1) (LS) (.long v :: ST)) : V M g ad F kc ks pc LS (.long z :: .long x :: ST) := fun H locs ls a b c => lv_ldiv X.1.1 X.1.2.1 d hne (by rw [hv]; exact (k H locs ls a b c))
theorem r_i2l (X : Cx M g y cc ret n mc ms tb K KX) {x : Int} (d : decode cc pc = .ok (.i2l, 1)) (hx : inR x) (k : V M g ad F kc ks (pc + 1) (LS) (.long (zL x) :: ST)) : V M g ad F kc ks pc LS (.int (zI x) :: ST) := fun H locs ls a b c => lv_i2l X.1.1 X.1.2.1 d (zI_L hx) (k H locs ls a b c)
theorem r_l2i (X : Cx M g y cc ret n mc ms tb K KX) {x : Int} (d : decode cc pc = .ok (.l2i, 1))  (k : V M g ad F kc ks (pc + 1) (LS) (.int (zI x) :: ST)) : V M g ad F kc ks pc LS (.long (zL x) :: ST) := fun H locs ls a b c => lv_l2i X.1.1 X.1.2.1 d zL_I (k H locs ls a b c)
theorem r_dup (X : Cx M g y cc ret n mc ms tb K KX) {v : Value} (d : decode cc pc = .ok (.dup, 1)) (hv : v.category = 1 := by rfl) (k : V M g ad F kc ks (pc + 1) (LS) (v :: v :: ST)) : V M g ad F kc ks pc LS (v :: ST) := fun H locs ls a b c => lv_dup X.1.1 X.1.2.1 d hv (k H locs ls a b c)
theorem r_dup2 (X : Cx M g y cc ret n mc ms tb K KX) {v w : Value} (d : decode cc pc = .ok (.dup2, 1)) (hv : v.category = 1 := by rfl) (hw : w.category = 1 := by rfl) (k : V M g ad F kc ks (pc + 1) (LS) (v :: w :: v :: w :: ST)) : V M g ad F kc ks pc LS (v :: w :: ST) := fun H locs ls a b c => lv_dup2_11 X.1.1 X.1.2.1 d hv hw (k H locs ls a b c)
theorem r_pop (X : Cx M g y cc ret n mc ms tb K KX) {v : Value} (d : decode cc pc = .ok (.pop, 1)) (hv : v.category = 1 := by rfl) (k : V M g ad F kc ks (pc + 1) (LS) (ST)) : V M g ad F kc ks pc LS (v :: ST) := fun H locs ls a b c => lv_pop X.1.1 X.1.2.1 d hv (k H locs ls a b c)
theorem r_goto (X : Cx M g y cc ret n mc ms tb K KX) {off : Int} (d : decode cc pc = .ok (.goto off, 3)) (tgt : Nat) (ht : (pc : Int) + off = (tgt : Int)) (k : V M g ad F kc ks (tgt) (LS) (ST)) : V M g ad F kc ks pc LS (ST) := fun H locs ls a b c => lv_goto X.1.1 X.1.2.1 d ht (k H locs ls a b c)
theorem r_icmp_eq (X : Cx M g y cc ret n mc ms tb K KX) {x z : Int} {off : Int} (tgt : Nat) (d : decode cc pc = .ok (.if_icmp .eq off, 3)) (ht : (pc : Int) + off = (tgt : Int)) (hx : inR x) (hz : inR z) (kt : x = z → V M g ad F kc ks tgt LS ST) (kf : ¬ (x = z) → V M g ad F kc ks (pc + 3) LS ST) : V M g ad F kc ks pc LS (.int (zI z) :: .int (zI x) :: ST) := fun H locs ls a b c => lv_icmp_eq X.1.1 X.1.2.1 d ht (fun h => kt ((zI_eq hx hz).mp h) H locs ls a b c) (fun h => kf (fun q => h ((zI_eq hx hz).mpr q)) H locs ls a b c)
theorem r_icmp_ne (X : Cx M g y cc ret n mc ms tb K KX) {x z : Int} {off : Int} (tgt : Nat) (d : decode cc pc = .ok (.if_icmp .ne off, 3)) (ht : (pc : Int) + off = (tgt : Int)) (hx : inR x) (hz : inR z) (kt : ¬ x = z → V M g ad F kc ks tgt LS ST) (kf : x = z → V M g ad F kc ks (pc + 3) LS ST) : V M g ad F kc ks pc LS (.int (zI z) :: .int (zI x) :: ST) := fun H locs ls a b c => lv_icmp_ne X.1.1 X.1.2.1 d ht (fun h => kt (fun q => h ((zI_eq hx hz).mpr q)) H locs ls a b c) (fun h => kf ((zI_eq hx hz).mp h) H locs ls a b c)
theorem r_icmp_ge (X : Cx M g y cc ret n mc ms tb K KX) {x z : Int} {off : Int} (tgt : Nat) (d : decode cc pc = .ok (.if_icmp .ge off, 3)) (ht : (pc : Int) + off = (tgt : Int)) (hx : inR x) (hz : inR z) (kt : z ≤ x → V M g ad F kc ks tgt LS ST) (kf : ¬ (z ≤ x) → V M g ad F kc ks (pc + 3) LS ST) : V M g ad F kc ks pc LS (.int (zI z) :: .int (zI x) :: ST) := fun H locs ls a b c => lv_icmp_ge X.1.1 X.1.2.1 d ht (fun h => kt ((zI_le hz hx).mp h) H locs ls a b c) (fun h => kf (fun q => h ((zI_le hz hx).mpr q)) H locs ls a b c)
theorem r_icmp_gt (X : Cx M g y cc ret n mc ms tb K KX) {x z : Int} {off : Int} (tgt : Nat) (d : decode cc pc = .ok (.if_icmp .gt off, 3)) (ht : (pc : Int) + off = (tgt : Int)) (hx : inR x) (hz : inR z) (kt : z < x → V M g ad F kc ks tgt LS ST) (kf : ¬ (z < x) → V M g ad F kc ks (pc + 3) LS ST) : V M g ad F kc ks pc LS (.int (zI z) :: .int (zI x) :: ST) := fun H locs ls a b c => lv_icmp_gt X.1.1 X.1.2.1 d ht (fun h => kt ((zI_lt hz hx).mp h) H locs ls a b c) (fun h => kf (fun q => h ((zI_lt hz hx).mpr q)) H locs ls a b c)
theorem r_icmp_le (X : Cx M g y cc ret n mc ms tb K KX) {x z : Int} {off : Int} (tgt : Nat) (d : decode cc pc = .ok (.if_icmp .le off, 3)) (ht : (pc : Int) + off = (tgt : Int)) (hx : inR x) (hz : inR z) (kt : x ≤ z → V M g ad F kc ks tgt LS ST) (kf : ¬ (x ≤ z) → V M g ad F kc ks (pc + 3) LS ST) : V M g ad F kc ks pc LS (.int (zI z) :: .int (zI x) :: ST) := fun H locs ls a b c => lv_icmp_le X.1.1 X.1.2.1 d ht (fun h => kt ((zI_le hx hz).mp h) H locs ls a b c) (fun h => kf (fun q => h ((zI_le hx hz).mpr q)) H locs ls a b c)
theorem r_icmp_lt (X : Cx M g y cc ret n mc ms tb K KX) {x z : Int} {off : Int} (tgt : Nat) (d : decode cc pc = .ok (.if_icmp .lt off, 3)) (ht : (pc : Int) + off = (tgt : Int)) (hx : inR x) (hz : inR z) (kt : x < z → V M g ad F kc ks tgt LS ST) (kf : ¬ (x < z) → V M g ad F kc ks (pc + 3) LS ST) : V M g ad F kc ks pc LS (.int (zI z) :: .int (zI x) :: ST) := fun H locs ls a b c => lv_icmp_lt X.1.1 X.1.2.1 d ht (fun h => kt ((zI_lt hx hz).mp h) H locs ls a b c) (fun h => kf (fun q => h ((zI_lt hx hz).mpr q)) H locs ls a b c)
theorem r_if_eq (X : Cx M g y cc ret n mc ms tb K KX) {x : Int} {off : Int} (tgt : Nat) (d : decode cc pc = .ok (.ifCond .eq off, 3)) (ht : (pc : Int) + off = (tgt : Int)) (hx : inR x) (kt : x = 0 → V M g ad F kc ks tgt LS ST) (kf : ¬ (x = 0) → V M g ad F kc ks (pc + 3) LS ST) : V M g ad F kc ks pc LS (.int (zI x) :: ST) := fun H locs ls a b c => lv_if_eq X.1.1 X.1.2.1 d ht (fun h => kt ((zI_eq hx (show inR 0 from ⟨by decide, by decide⟩)).mp h) H locs ls a b c) (fun h => kf (fun q => h ((zI_eq hx (show inR 0 from ⟨by decide, by decide⟩)).mpr q)) H locs ls a b c)
theorem r_if_ne (X : Cx M g y cc ret n mc ms tb K KX) {x : Int} {off : Int} (tgt : Nat) (d : decode cc pc = .ok (.ifCond .ne off, 3)) (ht : (pc : Int) + off = (tgt : Int)) (hx : inR x) (kt : ¬ x = 0 → V M g ad F kc ks tgt LS ST) (kf : x = 0 → V M g ad F kc ks (pc + 3) LS ST) : V M g ad F kc ks pc LS (.int (zI x) :: ST) := fun H locs ls a b c => lv_if_ne X.1.1 X.1.2.1 d ht (fun h => kt (fun q => h ((zI_eq hx (show inR 0 from ⟨by decide, by decide⟩)).mpr q)) H locs ls a b c) (fun h => kf ((zI_eq hx (show inR 0 from ⟨by decide, by decide⟩)).mp h) H locs ls a b c)
theorem r_if_lt (X : Cx M g y cc ret n mc ms tb K KX) {x : Int} {off : Int} (tgt : Nat) (d : decode cc pc = .ok (.ifCond .lt off, 3)) (ht : (pc : Int) + off = (tgt : Int)) (hx : inR x) (kt : x < 0 → V M g ad F kc ks tgt LS ST) (kf : ¬ (x < 0) → V M g ad F kc ks (pc + 3) LS ST) : V M g ad F kc ks pc LS (.int (zI x) :: ST) := fun H locs ls a b c => lv_if_lt X.1.1 X.1.2.1 d ht (fun h => kt ((zI_lt hx (show inR 0 from ⟨by decide, by decide⟩)).mp h) H locs ls a b c) (fun h => kf (fun q => h ((zI_lt hx (show inR 0 from ⟨by decide, by decide⟩)).mpr q)) H locs ls a b c)
theorem r_if_ge (X : Cx M g y cc ret n mc ms tb K KX) {x : Int} {off : Int} (tgt : Nat) (d : decode cc pc = .ok (.ifCond .ge off, 3)) (ht : (pc : Int) + off = (tgt : Int)) (hx : inR x) (kt : 0 ≤ x → V M g ad F kc ks tgt LS ST) (kf : ¬ (0 ≤ x) → V M g ad F kc ks (pc + 3) LS ST) : V M g ad F kc ks pc LS (.int (zI x) :: ST) := fun H locs ls a b c => lv_if_ge X.1.1 X.1.2.1 d ht (fun h => kt ((zI_le (show inR 0 from ⟨by decide, by decide⟩) hx).mp h) H locs ls a b c) (fun h => kf (fun q => h ((zI_le (show inR 0 from ⟨by decide, by decide⟩) hx).mpr q)) H locs ls a b c)
theorem r_if_gt (X : Cx M g y cc ret n mc ms tb K KX) {x : Int} {off : Int} (tgt : Nat) (d : decode cc pc = .ok (.ifCond .gt off, 3)) (ht : (pc : Int) + off = (tgt : Int)) (hx : inR x) (kt : 0 < x → V M g ad F kc ks tgt LS ST) (kf : ¬ (0 < x) → V M g ad F kc ks (pc + 3) LS ST) : V M g ad F kc ks pc LS (.int (zI x) :: ST) := fun H locs ls a b c => lv_if_gt X.1.1 X.1.2.1 d ht (fun h => kt ((zI_lt (show inR 0 from ⟨by decide, by decide⟩) hx).mp h) H locs ls a b c) (fun h => kf (fun q => h ((zI_lt (show inR 0 from ⟨by decide, by decide⟩) hx).mpr q)) H locs ls a b c)
theorem r_if_le (X : Cx M g y cc ret n mc ms tb K KX) {x : Int} {off : Int} (tgt : Nat) (d : decode cc pc = .ok (.ifCond .le off, 3)) (ht : (pc : Int) + off = (tgt : Int)) (hx : inR x) (kt : x ≤ 0 → V M g ad F kc ks tgt LS ST) (kf : ¬ (x ≤ 0) → V M g ad F kc ks (pc + 3) LS ST) : V M g ad F kc ks pc LS (.int (zI x) :: ST) := fun H locs ls a b c => lv_if_le X.1.1 X.1.2.1 d ht (fun h => kt ((zI_le hx (show inR 0 from ⟨by decide, by decide⟩)).mp h) H locs ls a b c) (fun h => kf (fun q => h ((zI_le hx (show inR 0 from ⟨by decide, by decide⟩)).mpr q)) H locs ls a b c)
theorem r_if_eqb (X : Cx M g y cc ret n mc ms tb K KX) {P : Prop} {off : Int} (tgt : Nat) (d : decode cc pc = .ok (.ifCond .eq off, 3)) (ht : (pc : Int) + off = (tgt : Int)) (kt : ¬ P → V M g ad F kc ks tgt LS ST) (kf : P → V M g ad F kc ks (pc + 3) LS ST) : V M g ad F kc ks pc LS (.int (bP P) :: ST) := fun H locs ls a b c => lv_if_eq X.1.1 X.1.2.1 d ht (fun h => kt (bP_eq0.mp h) H locs ls a b c) (fun h => kf (Classical.not_not.mp (fun q => h (bP_eq0.mpr q))) H locs ls a b c)
theorem r_if_neb (X : Cx M g y cc ret n mc ms tb K KX) {P : Prop} {off : Int} (tgt : Nat) (d : decode cc pc = .ok (.ifCond .ne off, 3)) (ht : (pc : Int) + off = (tgt : Int)) (kt : P → V M g ad F kc ks tgt LS ST) (kf : ¬ P → V M g ad F kc ks (pc + 3) LS ST) : V M g ad F kc ks pc LS (.int (bP P) :: ST) := fun H locs ls a b c => lv_if_ne X.1.1 X.1.2.1 d ht (fun h => kt (Classical.not_not.mp (fun q => h (bP_eq0.mpr q))) H locs ls a b c) (fun h => kf (bP_eq0.mp h) H locs ls a b c)
theorem r_lcmp (X : Cx M g y cc ret n mc ms tb K KX) {x z : Int} (d : decode cc pc = .ok (.lcmp, 1)) (hx : inL x) (hz : inL z) (k : V M g ad F kc ks (pc + 1) LS (.int (zI (if x < z then -1 else if x = z then 0 else 1)) :: ST)) : V M g ad F kc ks pc LS (.long (zL z) :: .long (zL x) :: ST) := fun H locs ls a b c => W.lcmp X.1.1 X.1.2.1 d (by rw [show lg_cmp (zL x) (zL z) = zI (if x < z then -1 else if x = z then 0 else 1) from lcmp_zL hx hz]; exact (k H locs ls a b c))
theorem r_ls {LS' : List (Option Value)} (hq : ∀ (i : Nat) (v : Value), LS'[i]? = some (some v) → LS[i]? = some (some v)) (k : V M g ad F kc ks pc LS' ST) : V M g ad F kc ks pc LS ST := fun H locs ls a b c => k H locs ls a b (c.less hq)
theorem r_less {F' : Pic} (hq : ∀ r e, F' r = some e → F r = some e) (k : V M g ad F' kc ks pc LS ST) : V M g ad F kc ks pc LS ST := fun H locs ls a b c => k H locs ls (a.less hq) b c
theorem r_widen {kc' ks' : Nat} (h1 : kc ≤ kc') (h2 : ks ≤ ks') (k : V M g ad F kc' ks' pc LS ST) : V M g ad F kc ks pc LS ST := fun H locs ls a b c => W.widen h1 h2 (k H locs ls a b c)
theorem r_pure {P : Prop} (h : (∀ H, HP g ad F H → P)) (k : P → V M g ad F kc ks pc LS ST) : V M g ad F kc ks pc LS ST := fun H locs ls a b c => k (h H a) H locs ls a b c
theorem r_iret (X : Cx M g y cc ret n mc ms tb K KX) {v : Int32} {ty : FieldType} (hr : ret = some ty) (hn : narrow ty (.int v) = .int v) (d : decode cc pc = .ok (.ireturn, 1)) (hk : K (some (.int v)) ad F) (h1 : kc ≤ mc) (h2 : ks ≤ ms) : V M g ad F kc ks pc LS [.int v] := fun H locs ls a b c => by
  rw [X.2.2.2.2.2.1]
  exact vx_ret (W.widen h1 h2 (W.zret X.1.1 X.1.2.1 (X.2.1.1.trans hr) hn (fun t ht _ => ⟨⟨_, ad, F, rfl, hk, by rw [ht]; exact a⟩, b.F ht⟩) b.2.2 d X.2.1.2.1))
theorem r_lret (X : Cx M g y cc ret n mc ms tb K KX) {v : Int64} (hr : ret = some .long) (d : decode cc pc = .ok (.lreturn, 1)) (hk : K (some (.long v)) ad F) (h1 : kc ≤ mc) (h2 : ks ≤ ms) : V M g ad F kc ks pc LS [.long v] := fun H locs ls a b c => by
  rw [X.2.2.2.2.2.1]
  exact vx_ret (W.widen h1 h2 (W.lret X.1.1 X.1.2.1 (X.2.1.1.trans hr) (fun t ht _ => ⟨⟨_, ad, F, rfl, hk, by rw [ht]; exact a⟩, b.F ht⟩) b.2.2 d X.2.1.2.1))
theorem r_vret (X : Cx M g y cc ret n mc ms tb K KX) (hr : ret = none) (d : decode cc pc = .ok (.return_, 1)) (hk : K none ad F) (h1 : kc ≤ mc) (h2 : ks ≤ ms) : V M g ad F kc ks pc LS [] := fun H locs ls a b c => by
  rw [X.2.2.2.2.2.1]
  exact vx_ret (W.widen h1 h2 (W.vret X.1.1 X.1.2.1 (X.2.1.1.trans hr) (fun t ht _ => ⟨⟨_, ad, F, rfl, hk, by rw [ht]; exact a⟩, b.F ht⟩) b.2.2 d X.2.1.2.1))
theorem r_aret (X : Cx M g y cc ret n mc ms tb K KX) {v : Nat} {rt : FieldType} (hr : ret = some rt) (hrt : (∃ n, rt = .object n) ∨ ∃ t, rt = .array t) (d : decode cc pc = .ok (.areturn, 1)) (hk : K (some (.ref v)) ad F) (h1 : kc ≤ mc) (h2 : ks ≤ ms) : V M g ad F kc ks pc LS [.ref v] := fun H locs ls a b c => by
  rw [X.2.2.2.2.2.1]
  exact vx_ret (W.widen h1 h2 (W.aret X.1.1 X.1.2.1 (X.2.1.1.trans hr) hrt (Or.inr ⟨v, rfl⟩) (fun t ht _ => ⟨⟨_, ad, F, rfl, hk, by rw [ht]; exact a⟩, b.F ht⟩) b.2.2 d X.2.1.2.1))
end Rows
end
section
/-! ===== fields, arrays, new cells ===== -/
/-- a field k of the objects of class ci, read in own through the place idx -/
def FG (own : String) (idx ci k : Nat) : Prop := ∃ (ref C : String) (T : u_T) (N : Nat), vwCl[ci]? = some (C, T, N) ∧ k < N ∧ (∀ w ∈ u_ws C T N, w ∈ WS) ∧ Cond.fieldLink own idx ref (T k).2.1 (T k).2.2.1 ∈ WS ∧ ((T k).1 = ref ∨ Cond.sameField ref (T k).1 (T k).2.1 (T k).2.2.1 ∈ WS)
/-- .. and written, where it isn't final -/
def FW (own : String) (idx ci k : Nat) (ty : FieldType) : Prop := ∃ (ref C : String) (T : u_T) (N : Nat) (ty0 : Nat → FieldType), vwCl[ci]? = some (C, T, N) ∧ k < N ∧ (∀ w ∈ u_ws C T N, w ∈ WS) ∧ Cond.fieldLink own idx ref (T k).2.1 (T k).2.2.1 ∈ WS ∧ ((T k).1 = ref ∨ Cond.sameField ref (T k).1 (T k).2.1 (T k).2.2.1 ∈ WS) ∧
  (∀ k, k < N → parseFieldDescriptor (T k).2.2.1 = some (ty0 k)) ∧ (∀ a, a < N → ∀ b, b < N → a ≠ b → (T a).2.1 ≠ (T b).2.1) ∧ (T k).2.2.2 = false ∧ parseFieldDescriptor (T k).2.2.1 = some ty
/-- .. and a final one, in its class's constructor -/
def FF (own : String) (idx ci k : Nat) (ty : FieldType) : Prop := ∃ (ref C : String) (T : u_T) (N : Nat) (ty0 : Nat → FieldType), vwCl[ci]? = some (C, T, N) ∧ k < N ∧ (∀ w ∈ u_ws C T N, w ∈ WS) ∧ Cond.fieldLink own idx ref (T k).2.1 (T k).2.2.1 ∈ WS ∧ ((T k).1 = ref ∨ Cond.sameField ref (T k).1 (T k).2.1 (T k).2.2.1 ∈ WS) ∧
  (∀ k, k < N → parseFieldDescriptor (T k).2.2.1 = some (ty0 k)) ∧ (∀ a, a < N → ∀ b, b < N → a ≠ b → (T a).2.1 ≠ (T b).2.1) ∧ (T k).2.2.2 = true ∧ (T k).1 = own ∧ parseFieldDescriptor (T k).2.2.1 = some ty
section Cells
variable {M : Mx} {g : Gx} {y : MethodName} {cc : ByteArray} {ret : Option FieldType} {n mc ms : Nat} {tb : List ExceptionTableEntry} {K : Option Value → (Nat → Nat) → Pic → Prop} {KX : String → (Nat → Nat) → Pic → Prop} {ad : Nat → Nat} {F : Pic} {kc ks pc : Nat} {LS : List (Option Value)} {ST rest : List Value}
theorem same_of {s : State} {args : Array Value} {ref o nm d : String} (hts : ∀ w ∈ WS, w.before args s = true) (h : o = ref ∨ Cond.sameField ref o nm d ∈ WS) : ∀ x, s.fieldFound? o nm d = some x → s.fieldFound? ref nm d = some x := fun x hx => by
  rcases h with h | h
  · rw [← h]; exact hx
  · exact u_same (hts _ h) x hx
theorem r_get (X : Cx M g y cc ret n mc ms tb K KX) {idx ci k r : Nat} {fs : List Value} {v : Value} (d : decode cc pc = .ok (.getfield idx, 3)) (f : FG y.cls idx ci k) (hF : F r = some (.inr (ci, fs))) (hv : fs[k]? = some v)
    (kk : V M g ad F kc ks (pc + 3) LS (v :: ST)) : V M g ad F kc ks pc LS (.ref (ad r) :: ST) := fun H locs ls a b c => by
  obtain ⟨ref, C, T, N, h1, h2, h3, h4, h5⟩ := f
  exact va_get X.1.1 X.1.2.1 X.1.2.2.2.2 h3 X.1.2.2.2.1 X.2.1.2.2.2.1 (a.one hF) 0 rfl h1 k h2 (X.1.2.2.2.2 _ h4) (same_of X.1.2.2.2.2 h5) hv d (kk H locs ls a b c)
theorem r_put (X : Cx M g y cc ret n mc ms tb K KX) {idx ci k r : Nat} {ty : FieldType} {fs : List Value} {v : Value} (d : decode cc pc = .ok (.putfield idx, 3)) (f : FW y.cls idx ci k ty) (hF : F r = some (.inr (ci, fs))) (hr : 100 ≤ r) (hl : k < fs.length) (hn : narrow ty v = v) (hfit : fits ty v = true)
    (kk : V M g ad (pu F r (.inr (ci, fs.set k v))) kc ks (pc + 3) LS ST) : V M g ad F kc ks pc LS (v :: .ref (ad r) :: ST) := fun H locs ls a b c => by
  obtain ⟨ref, C, T, N, ty0, h1, h2, h3, h4, h5, h6, h7, h8, h9⟩ := f
  obtain ⟨ws, hP, hD, hput, -⟩ := a.opn
  obtain ⟨q, hq, hset⟩ := hput r _ hF hr
  exact va_put X.1.1 X.1.2.1 X.1.2.2.2.2 h3 ty0 h6 h7 X.1.2.2.2.1 X.2.1.2.2.2.1 hP hD b q hq h1 k h2 (X.1.2.2.2.2 _ h4) (same_of X.1.2.2.2.2 h5) h8 h9 hn hfit hl d (fun H1 locs1 p1 d1 s1 => kk H1 locs1 ls (hset _ H1 p1 d1 (b.low s1 X.2.2.1)) s1 c)
theorem r_putF (X : Cx M g y cc ret n mc ms tb K KX) {idx ci k r : Nat} {ty : FieldType} {fs : List Value} {v : Value} (d : decode cc pc = .ok (.putfield idx, 3)) (f : FF y.cls idx ci k ty) (hy : y.name = "<init>") (hF : F r = some (.inr (ci, fs))) (hr : 100 ≤ r) (hl : k < fs.length) (hn : narrow ty v = v) (hfit : fits ty v = true)
    (kk : V M g ad (pu F r (.inr (ci, fs.set k v))) kc ks (pc + 3) LS ST) : V M g ad F kc ks pc LS (v :: .ref (ad r) :: ST) := fun H locs ls a b c => by
  obtain ⟨ref, C, T, N, ty0, h1, h2, h3, h4, h5, h6, h7, h8, h8b, h9⟩ := f
  obtain ⟨ws, hP, hD, hput, -⟩ := a.opn
  obtain ⟨q, hq, hset⟩ := hput r _ hF hr
  exact va_putF X.1.1 X.1.2.1 X.1.2.2.2.2 h3 ty0 h6 h7 X.1.2.2.2.1 X.2.1.2.2.2.1 hP hD b q hq h1 k h2 (X.1.2.2.2.2 _ h4) (same_of X.1.2.2.2.2 h5) h8 (X.2.1.2.2.1.trans hy) h8b h9 hn hfit hl d (fun H1 locs1 p1 d1 s1 => kk H1 locs1 ls (hset _ H1 p1 d1 (b.low s1 X.2.2.1)) s1 c)
theorem r_iald (X : Cx M g y cc ret n mc ms tb K KX) {r m0 : Nat} {f : Nat → Int32} {z : Int} (i : Nat) (d : decode cc pc = .ok (.iaload, 1)) (hF : F r = some (cI g m0 f)) (hz : z = (i : Int)) (hi : i < m0) (hm : m0 < 2147483648)
    (kk : V M g ad F kc ks (pc + 1) LS (.int (f i) :: ST)) : V M g ad F kc ks pc LS (.int (zI z) :: .ref (ad r) :: ST) := fun H locs ls a b c => by
  subst hz
  refine va_iald X.1.1 X.1.2.1 X.2.1.2.2.2.1 (a.one hF) 0 0 rfl rfl (zI_in hi hm) d ?_
  rw [zI_cl (by omega)]
  exact kk H locs ls a b c
theorem r_aald (X : Cx M g y cc ret n mc ms tb K KX) {r m0 : Nat} {f : Nat → Option Nat} {z : Int} {v : Nat} (i : Nat) (d : decode cc pc = .ok (.aaload, 1)) (hF : F r = some (cO g m0 f)) (hz : z = (i : Int)) (hi : i < m0) (hm : m0 < 2147483648) (hv : f i = some v)
    (kk : V M g ad F kc ks (pc + 1) LS (.ref v :: ST)) : V M g ad F kc ks pc LS (.int (zI z) :: .ref (ad r) :: ST) := fun H locs ls a b c => by
  subst hz
  refine va_aldq X.1.1 X.1.2.1 X.2.1.2.2.2.1 (a.one hF) 0 2 rfl rfl (zI_in hi hm) d ?_
  rw [zI_cl (by omega), hv]
  exact kk H locs ls a b c
theorem r_aaldQ (X : Cx M g y cc ret n mc ms tb K KX) {r m0 : Nat} {f : Nat → Option Nat} {z : Int} {v : Nat} (i : Nat) (d : decode cc pc = .ok (.aaload, 1)) (hF : F r = some (cQ g m0 f)) (hz : z = (i : Int)) (hi : i < m0) (hm : m0 < 2147483648) (hv : f i = some v)
    (kk : V M g ad F kc ks (pc + 1) LS (.ref v :: ST)) : V M g ad F kc ks pc LS (.int (zI z) :: .ref (ad r) :: ST) := fun H locs ls a b c => by
  subst hz
  have hin := zI_in hi hm
  have e := zI_cl (n := i) (by omega)
  have hK : va_K (gD g) vwCl (gT g) (mS M) := X.2.1.2.2.2.1
  refine W.aald (v := va_rf (f (zI (i : Int)).toNatClampNeg)) (ty := .array .int) X.1.1 X.1.2.1 (a.at hF) ((hK.2 3 _ rfl).1 m0 (fun j => va_rf (f j))) rfl (fun q => by cases q) (by show ¬ (_ < 0 ∨ (arrV _ _ _).slots.size ≤ _); rw [arrV_size]; exact hin) (by show (arrV _ _ _).slots[_]? = _; rw [arrV_read _ _ (by rw [e]; exact hi)]) rfl rfl d ?_
  rw [e, hv]
  exact kk H locs ls a b c
theorem r_ist (X : Cx M g y cc ret n mc ms tb K KX) {r m0 : Nat} {f : Nat → Int32} {z : Int} {v : Int32} (i : Nat) (d : decode cc pc = .ok (.iastore, 1)) (hF : F r = some (cI g m0 f)) (hr : 100 ≤ r) (hz : z = (i : Int)) (hi : i < m0) (hm : m0 < 2147483648)
    (kk : V M g ad (pu F r (cI g m0 (upd f i v))) kc ks (pc + 1) LS ST) : V M g ad F kc ks pc LS (.int v :: .int (zI z) :: .ref (ad r) :: ST) := fun H locs ls a b c => by
  subst hz
  obtain ⟨ws, hP, hD, hput, -⟩ := a.opn
  obtain ⟨q, hq, hset⟩ := hput r _ hF hr
  refine va_iast X.1.1 X.1.2.1 X.2.1.2.2.2.1 hP hD b q 0 hq rfl (zI_in hi hm) d (fun H1 locs1 p1 d1 s1 => ?_)
  rw [zI_cl (by omega)] at p1 d1
  exact kk H1 locs1 ls (hset _ H1 p1 d1 (b.low s1 X.2.2.1)) s1 c
theorem r_lst (X : Cx M g y cc ret n mc ms tb K KX) {r m0 : Nat} {f : Nat → Int64} {z : Int} {v : Int64} (i : Nat) (d : decode cc pc = .ok (.lastore, 1)) (hF : F r = some (cJ g m0 f)) (hr : 100 ≤ r) (hz : z = (i : Int)) (hi : i < m0) (hm : m0 < 2147483648)
    (kk : V M g ad (pu F r (cJ g m0 (vp_updL f i v))) kc ks (pc + 1) LS ST) : V M g ad F kc ks pc LS (.long v :: .int (zI z) :: .ref (ad r) :: ST) := fun H locs ls a b c => by
  subst hz
  obtain ⟨ws, hP, hD, hput, -⟩ := a.opn
  obtain ⟨q, hq, hset⟩ := hput r _ hF hr
  refine va_last X.1.1 X.1.2.1 X.2.1.2.2.2.1 hP hD b q 1 hq rfl (zI_in hi hm) d (fun H1 locs1 p1 d1 s1 => ?_)
  rw [zI_cl (by omega)] at p1 d1
  exact kk H1 locs1 ls (hset _ H1 p1 d1 (b.low s1 X.2.2.1)) s1 c
theorem r_lald (X : Cx M g y cc ret n mc ms tb K KX) {r m0 : Nat} {f : Nat → Int64} {z : Int} (i : Nat) (d : decode cc pc = .ok (.laload, 1)) (hF : F r = some (cJ g m0 f)) (hz : z = (i : Int)) (hi : i < m0) (hm : m0 < 2147483648)
    (kk : V M g ad F kc ks (pc + 1) LS (.long (f i) :: ST)) : V M g ad F kc ks pc LS (.int (zI z) :: .ref (ad r) :: ST) := fun H locs ls a b c => by
  subst hz
  refine va_lald X.1.1 X.1.2.1 X.2.1.2.2.2.1 (a.one hF) 0 1 rfl rfl (zI_in hi hm) d ?_
  rw [zI_cl (by omega)]
  exact kk H locs ls a b c
/-- an object of class q.1 laid into an array of objects -/
theorem r_aast (X : Cx M g y cc ret n mc ms tb K KX) {r m0 rv ci : Nat} {q : vw_C} {vs : List Value} {f : Nat → Option Nat} {z : Int} (i : Nat) (d : decode cc pc = .ok (.aastore, 1)) (hF : F r = some (cO g m0 f)) (hr : 100 ≤ r) (hv : F rv = some (.inr (ci, vs))) (hrv : 100 ≤ rv) (hc : vwCl[ci]? = some q) (hca : va_Nw (.castable q.1 "java/lang/Object") (mS M)) (hz : z = (i : Int)) (hi : i < m0) (hm : m0 < 2147483648)
    (kk : V M g ad (pu F r (cO g m0 (va_up f i (some (ad rv))))) kc ks (pc + 1) LS ST) : V M g ad F kc ks pc LS (.ref (ad rv) :: .int (zI z) :: .ref (ad r) :: ST) := fun H locs ls a b c => by
  subst hz
  obtain ⟨ws, hP, hD, hput, -⟩ := a.opn
  obtain ⟨q1, hq, hset⟩ := hput r _ hF hr
  obtain ⟨q2, hq2, -⟩ := hput rv _ hv hrv
  refine va_astqO X.1.1 X.1.2.1 X.2.1.2.2.2.1 hP hD b q1 2 q2 ci hq rfl hca hq2 hc (zI_in hi hm) d (fun H1 locs1 p1 d1 s1 => ?_)
  rw [zI_cl (by omega)] at p1 d1
  exact kk H1 locs1 ls (hset _ H1 p1 d1 (b.low s1 X.2.2.1)) s1 c
theorem r_aastN (X : Cx M g y cc ret n mc ms tb K KX) {r m0 : Nat} {f : Nat → Option Nat} {z : Int} (i : Nat) (d : decode cc pc = .ok (.aastore, 1)) (hF : F r = some (cO g m0 f)) (hr : 100 ≤ r) (hz : z = (i : Int)) (hi : i < m0) (hm : m0 < 2147483648)
    (kk : V M g ad (pu F r (cO g m0 (va_up f i none))) kc ks (pc + 1) LS ST) : V M g ad F kc ks pc LS (.null :: .int (zI z) :: .ref (ad r) :: ST) := fun H locs ls a b c => by
  subst hz
  obtain ⟨ws, hP, hD, hput, -⟩ := a.opn
  obtain ⟨q1, hq, hset⟩ := hput r _ hF hr
  refine va_astqN X.1.1 X.1.2.1 X.2.1.2.2.2.1 hP hD b q1 2 hq rfl (zI_in hi hm) d (fun H1 locs1 p1 d1 s1 => ?_)
  rw [zI_cl (by omega)] at p1 d1
  exact kk H1 locs1 ls (hset _ H1 p1 d1 (b.low s1 X.2.2.1)) s1 c
theorem r_alen (X : Cx M g y cc ret n mc ms tb K KX) {r t0 m0 : Nat} {cA : ClassId} {x : (Nat → Int32) ⊕ (Nat → Int64) ⊕ (Nat → UInt32) ⊕ (Nat → UInt64) ⊕ (Nat → Option Nat)} {ty : FieldType} (d : decode cc pc = .ok (.arraylength, 1)) (hF : F r = some (.inl (cA, m0, x))) (ht : (gT g)[t0]? = some (cA, ty))
    (kk : V M g ad F kc ks (pc + 1) LS (.int (zI (m0 : Int)) :: ST)) : V M g ad F kc ks pc LS (.ref (ad r) :: ST) := fun H locs ls a b c =>
  va_alen X.1.1 X.1.2.1 X.2.1.2.2.2.1 (a.one hF) 0 t0 rfl ht (zI_nI m0).symm d (kk H locs ls a b c)
theorem r_new (X : Cx M g y cc ret n mc ms tb K KX) {idx ci N : Nat} {C : String} {T : u_T} {ty : Nat → FieldType} {fs : List Value} (r : Nat) (d : decode cc pc = .ok (.new idx, 3)) (hc : vwCl[ci]? = some (C, T, N)) (hin : ∀ w ∈ u_ws C T N, w ∈ WS) (hty : ∀ k, k < N → parseFieldDescriptor (T k).2.2.1 = some (ty k)) (w1 : Cond.classLink y.cls idx C ∈ WS) (w2 : Cond.instantiable C N ∈ WS) (w3 : Cond.initialized C ∈ WS) (hfs : ∀ j, j < N → defaultValue (ty j) = vp_V fs j)
    (hr : 100 ≤ r) (hF : F r = none) (h1 : kc + 1 ≤ mc) (h2 : ks + N ≤ ms)
    (kk : ∀ ad' : Nat → Nat, (∀ x, x ≠ r → ad' x = ad x) → V M g ad' (pu F r (.inr (ci, fs))) (kc + 1) (ks + N) (pc + 3) LS (.ref (ad' r) :: ST)) : V M g ad F kc ks pc LS ST := fun H locs ls a b c => by
  obtain ⟨ws, hP, hD, -, hnew⟩ := a.opn
  refine va_new X.1.1 X.1.2.1 X.1.2.2.2.2 hin ty hty X.1.2.2.2.1 (X.1.2.2.2.2 _ w1) (X.1.2.2.2.2 _ w2) (X.1.2.2.2.2 _ w3) X.2.1.2.2.2.1 hP hD b (fun q hq => Nat.le_trans X.2.2.1 hq) hc hfs (by rw [X.2.2.2.2.1]; exact h1) (by rw [X.2.2.2.2.1]; exact h2) d (fun q H1 p1 d1 s1 => ?_)
  have h := kk (fun x => if x = r then q else ad x) (fun x hx => if_neg hx)
  rw [show (if r = r then q else ad r) = q from if_pos rfl] at h
  exact h H1 locs ls (hnew r _ q H1 _ hF hr (if_pos rfl) (fun x hx => if_neg (show ¬ x = r from fun z => hx (by rw [z]; exact hF))) p1 d1 (b.low s1 X.2.2.1)) s1 c
theorem fc_eq {g : Gx} {U : State} (hK : Kn g U) {k : Nat} {cA cB : ClassId} {ty : FieldType} (h1 : (gT g)[k]? = some (cB, ty)) (h2 : va_RA U cA ty) : cA = cB := by
  have h3 := (hK.2 k _ h1).2
  cases ty with
  | object C =>
    obtain ⟨_, _, _, _, _, a⟩ := h2
    obtain ⟨_, _, _, _, _, b⟩ := h3
    exact Option.some.inj (a.symm.trans b)
  | _ => exact Option.some.inj (Eq.trans (Eq.symm h2) h3)
theorem r_newI (X : Cx M g y cc ret n mc ms tb K KX) {z : Int} (r N : Nat) (d : decode cc pc = .ok (.newarray .int, 2)) (w : Cond.arrayClass .int ∈ WS) (hz : z = (N : Int)) (hN : N ≤ 100000)
    (hr : 100 ≤ r) (hF : F r = none) (h1 : kc + 1 ≤ mc) (h2 : ks + N ≤ ms)
    (kk : ∀ ad' : Nat → Nat, (∀ x, x ≠ r → ad' x = ad x) → V M g ad' (pu F r (cI g N (fun _ => 0))) (kc + 1) (ks + N) (pc + 2) LS (.ref (ad' r) :: ST)) : V M g ad F kc ks pc LS (.int (zI z) :: ST) := fun H locs ls a b c => by
  subst hz
  obtain ⟨ws, hP, hD, -, hnew⟩ := a.opn
  refine va_newa (atype := .int) (ty := .int) (a0 := (N, .inl (fun _ => 0))) (N' := N) X.1.1 X.1.2.1 (X.1.2.2.2.2 _ w) rfl X.2.1.2.2.2.1 hP hD b (fun q hq => Nat.le_trans X.2.2.1 hq) (fun _ => rfl) (by rw [zI_nI]; exact nI_pos (by omega)) (zI_cl (by omega)) (by show N * 4 ≤ _; omega) (by rw [X.2.2.2.2.1]; exact h1) (by rw [X.2.2.2.2.1]; exact h2) d (fun q cA H1 hK1 p1 d1 s1 => ?_)
  have e : cA = gc g 0 := fc_eq X.2.1.2.2.2.1 (k := 0) rfl (hK1.2 4 (cA, .int) rfl).2
  rw [e] at p1 d1
  have h := kk (fun x => if x = r then q else ad x) (fun x hx => if_neg hx)
  rw [show (if r = r then q else ad r) = q from if_pos rfl] at h
  exact h H1 locs ls (hnew r _ q H1 _ hF hr (if_pos rfl) (fun x hx => if_neg (show ¬ x = r from fun z => hx (by rw [z]; exact hF))) p1 d1 (b.low s1 X.2.2.1)) s1 c
theorem r_newJ (X : Cx M g y cc ret n mc ms tb K KX) {z : Int} (r N : Nat) (d : decode cc pc = .ok (.newarray .long, 2)) (w : Cond.arrayClass .long ∈ WS) (hz : z = (N : Int)) (hN : N ≤ 100000)
    (hr : 100 ≤ r) (hF : F r = none) (h1 : kc + 1 ≤ mc) (h2 : ks + N ≤ ms)
    (kk : ∀ ad' : Nat → Nat, (∀ x, x ≠ r → ad' x = ad x) → V M g ad' (pu F r (cJ g N (fun _ => 0))) (kc + 1) (ks + N) (pc + 2) LS (.ref (ad' r) :: ST)) : V M g ad F kc ks pc LS (.int (zI z) :: ST) := fun H locs ls a b c => by
  subst hz
  obtain ⟨ws, hP, hD, -, hnew⟩ := a.opn
  refine va_newa (atype := .long) (ty := .long) (a0 := (N, .inr (.inl (fun _ => 0)))) (N' := N) X.1.1 X.1.2.1 (X.1.2.2.2.2 _ w) rfl X.2.1.2.2.2.1 hP hD b (fun q hq => Nat.le_trans X.2.2.1 hq) (fun _ => rfl) (by rw [zI_nI]; exact nI_pos (by omega)) (zI_cl (by omega)) (by show N * 8 ≤ _; omega) (by rw [X.2.2.2.2.1]; exact h1) (by rw [X.2.2.2.2.1]; exact h2) d (fun q cA H1 hK1 p1 d1 s1 => ?_)
  have e : cA = gc g 1 := fc_eq X.2.1.2.2.2.1 (k := 1) rfl (hK1.2 4 (cA, .long) rfl).2
  rw [e] at p1 d1
  have h := kk (fun x => if x = r then q else ad x) (fun x hx => if_neg hx)
  rw [show (if r = r then q else ad r) = q from if_pos rfl] at h
  exact h H1 locs ls (hnew r _ q H1 _ hF hr (if_pos rfl) (fun x hx => if_neg (show ¬ x = r from fun z => hx (by rw [z]; exact hF))) p1 d1 (b.low s1 X.2.2.1)) s1 c
theorem r_newO (X : Cx M g y cc ret n mc ms tb K KX) {idx : Nat} {z : Int} (r N : Nat) (d : decode cc pc = .ok (.anewarray idx, 3)) (w : Cond.classLink y.cls idx "java/lang/Object" ∈ WS) (hz : z = (N : Int)) (hN : N ≤ 100000)
    (hr : 100 ≤ r) (hF : F r = none) (h1 : kc + 1 ≤ mc) (h2 : ks + N ≤ ms)
    (kk : ∀ ad' : Nat → Nat, (∀ x, x ≠ r → ad' x = ad x) → V M g ad' (pu F r (cO g N (fun _ => none))) (kc + 1) (ks + N) (pc + 3) LS (.ref (ad' r) :: ST)) : V M g ad F kc ks pc LS (.int (zI z) :: ST) := fun H locs ls a b c => by
  subst hz
  obtain ⟨ws, hP, hD, -, hnew⟩ := a.opn
  refine va_newq (N' := N) X.1.1 X.1.2.1 X.1.2.2.2.1 (X.1.2.2.2.2 _ w) X.2.1.2.2.2.2.2.2.2.2.2.2.1 X.2.1.2.2.2.1 hP hD b (fun q hq => Nat.le_trans X.2.2.1 hq) (by rw [zI_nI]; exact nI_pos (by omega)) (zI_cl (by omega)) (by omega) (by rw [X.2.2.2.2.1]; exact h1) (by rw [X.2.2.2.2.1]; exact h2) d (fun q cA H1 hK1 p1 d1 s1 => ?_)
  have e : cA = gc g 2 := fc_eq X.2.1.2.2.2.1 (k := 2) rfl (hK1.2 4 (cA, .object "java/lang/Object") rfl).2
  rw [e] at p1 d1
  have h := kk (fun x => if x = r then q else ad x) (fun x hx => if_neg hx)
  rw [show (if r = r then q else ad r) = q from if_pos rfl] at h
  exact h H1 locs ls (hnew r _ q H1 _ hF hr (if_pos rfl) (fun x hx => if_neg (show ¬ x = r from fun z => hx (by rw [z]; exact hF))) p1 d1 (b.low s1 X.2.2.1)) s1 c
end Cells
end
section
/-! ===== calls ===== -/
def WB (own : String) (idx : Nat) (y : MethodName) (b : ByteArray) (nL : Nat) (ret : Option FieldType) (np : Nat) : Prop :=
  Cond.code y b nL ret ∈ WS ∧ Cond.initialized y.cls ∈ WS ∧ (y.cls ≠ "java/lang/invoke/MethodHandle" ∧ y.cls ≠ "java/lang/invoke/VarHandle") ∧ (parseMethodDescriptor y.desc).map (fun d => d.parameters.length) = some np ∧ Cond.methodLink own idx y ∈ WS
def WVt (own : String) (idx : Nat) (y : MethodName) (b : ByteArray) (nL : Nat) (ret : Option FieldType) (np : Nat) : Prop :=
  WB own idx y b nL ret np ∧ Cond.instanceMethod y ∈ WS ∧ Cond.selects y.cls y y ∈ WS
def WSt (own : String) (idx : Nat) (y : MethodName) (b : ByteArray) (nL : Nat) (ret : Option FieldType) (np : Nat) : Prop :=
  WB own idx y b nL ret np ∧ Cond.static y ∈ WS
def WIt (own : String) (idx : Nat) (y : MethodName) (b : ByteArray) (nL : Nat) (np : Nat) : Prop :=
  WB own idx y b nL none np ∧ y.name = "<init>" ∧ Cond.instanceMethod y ∈ WS
section Calls
variable {M : Mx} {g : Gx} {y : MethodName} {cc : ByteArray} {ret : Option FieldType} {n mc ms : Nat} {tb : List ExceptionTableEntry} {K : Option Value → (Nat → Nat) → Pic → Prop} {KX : String → (Nat → Nat) → Pic → Prop} {ad : Nat → Nat} {F : Pic} {kc ks pc : Nat} {LS : List (Option Value)} {ST rest : List Value}
variable {y' : MethodName} {cy' : ByteArray} {nL' n' mc' ms' idx np : Nat} {ret' : Option FieldType} {K' : Option Value → (Nat → Nat) → Pic → Prop} {KX' : String → (Nat → Nat) → Pic → Prop} {As : List Value}
theorem ws_warm {s : State} {args : Array Value} (hts : ∀ w ∈ WS, w.before args s = true) {w : Cond} (hw : w ∈ WS) (a' : Array Value) (U : State) (hW : s.WarmedH U.vm) : w.before a' U = true := word_at hW (ws_all hw) (hts w hw)
theorem callB_w {R : Room} {s : State} {args : Array Value} {own : String} (hts : ∀ w ∈ WS, w.before args s = true) (w : WB own idx y' cy' nL' ret' np) (hR : R = rmL n mc ms) (hlv : n' < n) (hml : nL' ≤ 81) : CallB R s args own idx y' cy' nL' ret' (.code y' cy' nL' ret' :: WS) (rmL n' mc' ms') mc' ms' np := by
  obtain ⟨w1, w2, w3, w4, w5⟩ := w
  refine ⟨rfl, rfl, by rw [hR]; exact hlv, ?_, ?_, List.mem_cons_self, hts _ w1, hts _ w2, w3, ?_, hts _ w5⟩
  · rw [hR]; show 8 + (nL' + 11) + 100 * n' ≤ 100 * n; omega
  · intro w hw a' U hW
    rcases List.mem_cons.mp hw with rfl | hw
    · exact ws_warm hts w1 a' U hW
    · exact ws_warm hts hw a' U hW
  · intro sig h; rw [h] at w4; exact (Option.some.inj w4).symm
theorem pc_at {H : Heap} {locs : List Loc} {as : List Value} (X : Cx M g y cc ret n mc ms tb K KX) (a : HP g ad F H) (b : va_S (gA g) (mS M).heap H locs) : ∀ U : State, U.heap = H → (mS M).WarmedH U.vm → PcK g as ad F as.toArray U := fun U hU hW =>
  ⟨rfl, by rw [hU]; exact Nat.le_trans X.2.2.1 b.1, by rw [hU]; exact a, X.2.1.2.2.2.1.moved hW.alike, by rw [hU]; exact X.2.1.2.2.2.2.moved hW (fun q hq hA => b.2.1 q hq hA)⟩
/-- the walk goes on behind a call -/
theorem V_run (a0 : Array Value) (hr : ∀ (H : Heap) (locs : List Loc) (ls : Array Slot), HP g ad F H → va_S (gA g) (mS M).heap H locs → lvs ls (mN M) LS →
      va_Run (mP M) (mL M) (mE M) (mR M) (mS M) (mM M) (mA M) (mB M) (mMe M) (mC M) H locs kc ks mc' ms' (F0 (mM M) pc ls ST) rest (QcK g K' a0) (gA g))
    (k : ∀ v ad' F', K' v ad' F' → V M g ad' F' (kc + mc') (ks + ms') (pc + 3) LS (v.toList ++ rest)) : V M g ad F kc ks pc LS ST := by
  intro H locs ls a b c T hT X0
  obtain ⟨v, st0, t, T', L, h0, X', hL, e1, e2, ⟨⟨v', ad', F', hv, hK', hP'⟩, hF⟩, go⟩ := hr H locs ls a b c T hT X0
  cases hv
  have hS' : va_S (gA g) (mS M).heap T'.heap (locs ++ L) := (vx_keep h0 e1 b (fun _ _ q => q) (fun _ q => q) hL hF).2.2
  obtain ⟨t9, s9, q9⟩ := k v ad' F' hK' T'.heap (locs ++ L) ls (by rw [e1]; exact hP') hS' c T' rfl X'
  exact ⟨t9, go t9 s9, q9⟩
theorem r_callV (X : Cx M g y cc ret n mc ms tb K KX) {r ci : Nat} {q : vw_C} {fs : List Value} (d : decode cc pc = .ok (.invokevirtual idx, 3)) (w : WVt y.cls idx y' cy' nL' ret' np) (hM : Ct g (mL M) y' cy' nL' ret' n' mc' ms' (.ref (ad r) :: As) ad F K') (hrc : F r = some (.inr (ci, fs))) (hq : vwCl[ci]? = some q) (hcl : q.1 = y'.cls) (hn : As.length = np)
    (hst : ST = As.reverse ++ .ref (ad r) :: rest) (hcat : (rest.map fun v => v.category).sum ≤ 8) (hlv : n' < n) (hml : nL' ≤ 81) (h1 : kc + mc' ≤ mc) (h2 : ks + ms' ≤ ms)
    (k : ∀ v ad' F', K' v ad' F' → V M g ad' F' (kc + mc') (ks + ms') (pc + 3) LS (v.toList ++ rest)) : V M g ad F kc ks pc LS ST := by
  obtain ⟨w1, w2, w3⟩ := w
  refine V_run (.ref (ad r) :: As).toArray (fun H locs ls a b c => ?_) k
  refine va_runV ⟨X.1.1, X.1.2.1, X.1.2.2.1, X.1.2.2.2.1, X.1.2.2.2.2⟩ hM ⟨callB_w X.1.2.2.2.2 w1 X.2.2.2.2.1 hlv hml, X.1.2.2.2.2 _ w2, X.1.2.2.2.2 _ w3⟩ ⟨PcK.blind, ?_, pc_at X a b⟩ rfl hn c.1 hst (lv_room hcat) d ⟨by rw [X.2.2.2.2.1]; exact h1, by rw [X.2.2.2.2.1]; exact h2⟩
  rw [← hcl]
  exact va_recv X.2.1.2.2.2.1 (a.one hrc) (ci := ci) (q0 := 0) hq rfl
theorem r_callS (X : Cx M g y cc ret n mc ms tb K KX) (d : decode cc pc = .ok (.invokestatic idx, 3)) (w : WSt y.cls idx y' cy' nL' ret' np) (hM : Ct g (mL M) y' cy' nL' ret' n' mc' ms' As ad F K') (hn : As.length = np)
    (hst : ST = As.reverse ++ rest) (hcat : (rest.map fun v => v.category).sum ≤ 8) (hlv : n' < n) (hml : nL' ≤ 81) (h1 : kc + mc' ≤ mc) (h2 : ks + ms' ≤ ms)
    (k : ∀ v ad' F', K' v ad' F' → V M g ad' F' (kc + mc') (ks + ms') (pc + 3) LS (v.toList ++ rest)) : V M g ad F kc ks pc LS ST := by
  obtain ⟨w1, w2⟩ := w
  refine V_run As.toArray (fun H locs ls a b c => ?_) k
  exact va_runS ⟨X.1.1, X.1.2.1, X.1.2.2.1, X.1.2.2.2.1, X.1.2.2.2.2⟩ hM ⟨callB_w X.1.2.2.2.2 w1 X.2.2.2.2.1 hlv hml, X.1.2.2.2.2 _ w2⟩ ⟨PcK.blind, pc_at X a b⟩ rfl hn c.1 hst (lv_room hcat) d ⟨by rw [X.2.2.2.2.1]; exact h1, by rw [X.2.2.2.2.1]; exact h2⟩
theorem r_callI (X : Cx M g y cc ret n mc ms tb K KX) {r : Nat} (d : decode cc pc = .ok (.invokespecial idx, 3)) (w : WIt y.cls idx y' cy' nL' np) (hM : Ct g (mL M) y' cy' nL' none n' mc' ms' (.ref (ad r) :: As) ad F K') (hn : As.length = np)
    (hst : ST = As.reverse ++ .ref (ad r) :: rest) (hcat : (rest.map fun v => v.category).sum ≤ 8) (hlv : n' < n) (hml : nL' ≤ 81) (h1 : kc + mc' ≤ mc) (h2 : ks + ms' ≤ ms)
    (k : ∀ v ad' F', K' v ad' F' → V M g ad' F' (kc + mc') (ks + ms') (pc + 3) LS (v.toList ++ rest)) : V M g ad F kc ks pc LS ST := by
  obtain ⟨w1, w2, w3⟩ := w
  refine V_run (.ref (ad r) :: As).toArray (fun H locs ls a b c => ?_) k
  exact va_runI ⟨X.1.1, X.1.2.1, X.1.2.2.1, X.1.2.2.2.1, X.1.2.2.2.2⟩ hM ⟨callB_w X.1.2.2.2.2 w1 X.2.2.2.2.1 hlv hml, w2, X.1.2.2.2.2 _ w3⟩ ⟨PcK.blind, pc_at X a b⟩ rfl hn c.1 hst (lv_room hcat) d ⟨by rw [X.2.2.2.2.1]; exact h1, by rw [X.2.2.2.2.1]; exact h2⟩
/-- Object.<init> -/
theorem r_objInit (X : Cx M g y cc ret n mc ms tb K KX) {q : Nat} (d : decode cc pc = .ok (.invokespecial idx, 3)) (w1 : Cond.methodLink y.cls idx Lib.objectInit ∈ WS) (w2 : Cond.instanceMethod Lib.objectInit ∈ WS) (w3 : Cond.code Lib.objectInit ⟨#[0xb1]⟩ 1 none ∈ WS) (hlv : 0 < n) (hcat : (ST.map fun v => v.category).sum ≤ 8)
    (k : V M g ad F kc ks (pc + 3) LS ST) : V M g ad F kc ks pc LS (.ref q :: ST) := fun H locs ls a b c => by
  refine W.objInit X.1.1 X.1.2.1 X.1.2.2.2.1 (X.1.2.2.2.2 _ w1) (X.1.2.2.2.2 _ w2) (X.1.2.2.2.2 _ w3) rfl (c.1.trans X.1.2.2.1.symm) rfl d (by rw [X.2.2.2.2.1]; exact hlv) ?_ (k H locs ls a b c)
  rw [X.2.2.2.2.1]
  have h9 := lv_room (m := mM M) (pc := pc) (ls := []) (rest := ls) hcat
  show 2 * 0 + (ST.map fun v => v.category).sum + 12 ≤ 100 * n
  omega
/-- a private static method of another class of the nest -/
theorem r_callSN (X : Cx M g y cc ret n mc ms tb K KX) {host : String} (d : decode cc pc = .ok (.invokestatic idx, 3)) (w1 : Cond.code y' cy' nL' ret' ∈ WS) (w2 : Cond.initialized y'.cls ∈ WS) (w3 : y'.cls ≠ "java/lang/invoke/MethodHandle" ∧ y'.cls ≠ "java/lang/invoke/VarHandle") (w4 : (parseMethodDescriptor y'.desc).map (fun d => d.parameters.length) = some np) (w5 : va_Nw (.methodLinkNest y.cls idx y' host) (mS M)) (w6 : Cond.static y' ∈ WS)
    (hM : Ct g (mL M) y' cy' nL' ret' n' mc' ms' As ad F K') (hn : As.length = np) (hst : ST = As.reverse ++ rest) (hcat : (rest.map fun v => v.category).sum ≤ 8) (hlv : n' < n) (hml : nL' ≤ 81) (h1 : kc + mc' ≤ mc) (h2 : ks + ms' ≤ ms)
    (k : ∀ v ad' F', K' v ad' F' → V M g ad' F' (kc + mc') (ks + ms') (pc + 3) LS (v.toList ++ rest)) : V M g ad F kc ks pc LS ST := by
  refine V_run As.toArray (fun H locs ls a b c => ?_) k
  refine va_runSN (host := host) ⟨X.1.1, X.1.2.1, X.1.2.2.1, X.1.2.2.2.1, X.1.2.2.2.2⟩ hM ⟨⟨⟨rfl, rfl, ?_, ?_, ?_, List.mem_cons_self⟩, X.1.2.2.2.2 _ w1, X.1.2.2.2.2 _ w2, w3, ?_, va_Nw.use rfl w5⟩, X.1.2.2.2.2 _ w6, trivial⟩ ⟨PcK.blind, pc_at X a b⟩ rfl hn c.1 hst (lv_room hcat) d ⟨by rw [X.2.2.2.2.1]; exact h1, by rw [X.2.2.2.2.1]; exact h2⟩
  · rw [X.2.2.2.2.1]; exact hlv
  · rw [X.2.2.2.2.1]; show 8 + (nL' + 11) + 100 * n' ≤ 100 * n; omega
  · intro w hw a' U hW
    rcases List.mem_cons.mp hw with rfl | hw
    · exact ws_warm X.1.2.2.2.2 w1 a' U hW
    · exact ws_warm X.1.2.2.2.2 hw a' U hW
  · intro sig h; rw [h] at w4; exact (Option.some.inj w4).symm
/-- a private constructor of another class of the nest -/
theorem r_callIN (X : Cx M g y cc ret n mc ms tb K KX) {host : String} {r : Nat} (d : decode cc pc = .ok (.invokespecial idx, 3)) (w1 : Cond.code y' cy' nL' none ∈ WS) (w2 : Cond.initialized y'.cls ∈ WS) (w3 : y'.cls ≠ "java/lang/invoke/MethodHandle" ∧ y'.cls ≠ "java/lang/invoke/VarHandle") (w4 : (parseMethodDescriptor y'.desc).map (fun d => d.parameters.length) = some np) (w5 : va_Nw (.methodLinkNest y.cls idx y' host) (mS M)) (w6 : y'.name = "<init>") (w7 : Cond.instanceMethod y' ∈ WS)
    (hM : Ct g (mL M) y' cy' nL' none n' mc' ms' (.ref (ad r) :: As) ad F K') (hn : As.length = np) (hst : ST = As.reverse ++ .ref (ad r) :: rest) (hcat : (rest.map fun v => v.category).sum ≤ 8) (hlv : n' < n) (hml : nL' ≤ 81) (h1 : kc + mc' ≤ mc) (h2 : ks + ms' ≤ ms)
    (k : ∀ v ad' F', K' v ad' F' → V M g ad' F' (kc + mc') (ks + ms') (pc + 3) LS (v.toList ++ rest)) : V M g ad F kc ks pc LS ST := by
  refine V_run (.ref (ad r) :: As).toArray (fun H locs ls a b c => ?_) k
  refine va_runIN (host := host) ⟨X.1.1, X.1.2.1, X.1.2.2.1, X.1.2.2.2.1, X.1.2.2.2.2⟩ hM ⟨⟨⟨rfl, rfl, ?_, ?_, ?_, List.mem_cons_self⟩, X.1.2.2.2.2 _ w1, X.1.2.2.2.2 _ w2, w3, ?_, va_Nw.use rfl w5⟩, w6, X.1.2.2.2.2 _ w7⟩ ⟨PcK.blind, pc_at X a b⟩ rfl hn c.1 hst (lv_room hcat) d ⟨by rw [X.2.2.2.2.1]; exact h1, by rw [X.2.2.2.2.1]; exact h2⟩
  · rw [X.2.2.2.2.1]; exact hlv
  · rw [X.2.2.2.2.1]; show 8 + (nL' + 11) + 100 * n' ≤ 100 * n; omega
  · intro w hw a' U hW
    rcases List.mem_cons.mp hw with rfl | hw
    · exact ws_warm X.1.2.2.2.2 w1 a' U hW
    · exact ws_warm X.1.2.2.2.2 hw a' U hW
  · intro sig h; rw [h] at w4; exact (Option.some.inj w4).symm
/-- an abstract method named, the receiver's own run -/
theorem r_callU (X : Cx M g y cc ret n mc ms tb K KX) {x : MethodName} {owner : String} {r ci : Nat} {q : vw_C} {fs : List Value} (d : decode cc pc = .ok (.invokevirtual idx, 3)) (w1 : Cond.code y' cy' nL' ret' ∈ WS) (w2 : Cond.initialized y'.cls ∈ WS) (w3 : owner ≠ "java/lang/invoke/MethodHandle" ∧ owner ≠ "java/lang/invoke/VarHandle") (w4 : (parseMethodDescriptor x.desc).map (fun d => d.parameters.length) = some np) (w5 : Cond.methodLink y.cls idx x ∈ WS) (w6 : Cond.sameMethod x.cls owner x.name x.desc ∈ WS) (w7 : va_Nw (.declares ⟨owner, x.name, x.desc⟩) (mS M)) (w8 : Cond.selects q.1 x y' ∈ WS) (w9 : Cond.instanceMethod y' ∈ WS)
    (hM : Ct g (mL M) y' cy' nL' ret' n' mc' ms' (.ref (ad r) :: As) ad F K') (hrc : F r = some (.inr (ci, fs))) (hq : vwCl[ci]? = some q) (hn : As.length = np) (hst : ST = As.reverse ++ .ref (ad r) :: rest) (hcat : (rest.map fun v => v.category).sum ≤ 8) (hlv : n' < n) (hml : nL' ≤ 81) (h1 : kc + mc' ≤ mc) (h2 : ks + ms' ≤ ms)
    (k : ∀ v ad' F', K' v ad' F' → V M g ad' F' (kc + mc') (ks + ms') (pc + 3) LS (v.toList ++ rest)) : V M g ad F kc ks pc LS ST := by
  refine V_run (.ref (ad r) :: As).toArray (fun H locs ls a b c => ?_) k
  refine va_runU (x := x) (owner := owner) (C := q.1) ⟨X.1.1, X.1.2.1, X.1.2.2.1, X.1.2.2.2.1, X.1.2.2.2.2⟩ hM ⟨⟨rfl, rfl, ?_, ?_, ?_, List.mem_cons_self⟩, X.1.2.2.2.2 _ w1, X.1.2.2.2.2 _ w2, w3, ?_, X.1.2.2.2.2 _ w5, X.1.2.2.2.2 _ w6, va_Decl.abs w7, X.1.2.2.2.2 _ w8, X.1.2.2.2.2 _ w9⟩ ⟨PcK.blind, va_recv X.2.1.2.2.2.1 (a.one hrc) (ci := ci) (q0 := 0) hq rfl, pc_at X a b⟩ rfl hn c.1 hst (lv_room hcat) d ⟨by rw [X.2.2.2.2.1]; exact h1, by rw [X.2.2.2.2.1]; exact h2⟩
  · rw [X.2.2.2.2.1]; exact hlv
  · rw [X.2.2.2.2.1]; show 8 + (nL' + 11) + 100 * n' ≤ 100 * n; omega
  · intro w hw a' U hW
    rcases List.mem_cons.mp hw with rfl | hw
    · exact ws_warm X.1.2.2.2.2 w1 a' U hW
    · exact ws_warm X.1.2.2.2.2 hw a' U hW
  · intro sig h; rw [h] at w4; exact (Option.some.inj w4).symm
/-! a callee that may throw: what it throws goes on to the caller -/
theorem V_runX (X : Cx M g y cc ret n mc ms [] K KX) (a0 : Array Value) (h1 : kc + mc' ≤ mc) (h2 : ks + ms' ≤ ms) (hr : ∀ (H : Heap) (locs : List Loc) (ls : Array Slot), HP g ad F H → va_S (gA g) (mS M).heap H locs → lvs ls (mN M) LS →
      vx_Run (mP M) (mL M) (mE M) (mR M) (mS M) (mM M) (mA M) (mB M) (mMe M) (mC M) H locs kc ks mc' ms' (F0 (mM M) pc ls ST) rest (QcK g K' a0) (XcK g KX') (gA g))
    (hx : ∀ E ad' F', KX' E ad' F' → KX E ad' F') (k : ∀ v ad' F', K' v ad' F' → V M g ad' F' (kc + mc') (ks + ms') (pc + 3) LS (v.toList ++ rest)) : V M g ad F kc ks pc LS ST := by
  intro H locs ls a b c T hT X0
  rcases hr H locs ls a b c T hT X0 with ⟨v, st0, t, T', L, h0, X', hL, e1, e2, ⟨⟨v', ad', F', hv, hK', hP'⟩, hF⟩, go⟩ | ⟨q, st0, t, T', L, E, ce, h0, X', hL, e1, e2, ⟨ad', F', hKX, hP', hF⟩, hce, hcv, hcl, go⟩
  · cases hv
    have hS' : va_S (gA g) (mS M).heap T'.heap (locs ++ L) := (vx_keep h0 e1 b (fun _ _ q => q) (fun _ q => q) hL hF).2.2
    obtain ⟨t9, s9, q9⟩ := k v ad' F' hK' T'.heap (locs ++ L) ls (by rw [e1]; exact hP') hS' c T' rfl X'
    exact ⟨t9, go t9 s9, q9⟩
  · have hS' : va_S (gA g) (mS M).heap T'.heap (locs ++ L) := (vx_keep h0 e1 b (fun _ _ q => q) (fun _ q => q) hL hF).2.2
    have hW : vx_W (mP M) (mL M) (mE M) (mR M) (mS M) (mM M) (mA M) (mB M) (mMe M) (mC M) T'.heap (locs ++ L) (kc + mc') (ks + ms') (mQ M) (F0 (mM M) pc ls rest) q := by
      rw [X.2.2.2.2.2.1]
      refine vx_out (fun x hx => by rw [X.2.2.2.1] at hx; cases hx) X.2.1.2.1 (by rw [e1]; exact hce) hcv hcl (fun t9 ht9 _ => ⟨ad', F', hx E ad' F' hKX, by rw [ht9, e1]; exact hP', ?_⟩) hS'.2.2 h1 h2
      exact hS'.F ht9
    obtain ⟨t9, s9, q9⟩ := hW T' rfl X'
    exact ⟨t9, go.trans s9, q9⟩
theorem r_callVX (X : Cx M g y cc ret n mc ms [] K KX) {r ci : Nat} {q : vw_C} {fs : List Value} (d : decode cc pc = .ok (.invokevirtual idx, 3)) (w : WVt y.cls idx y' cy' nL' ret' np) (hM : CtX g (mL M) y' cy' nL' ret' n' mc' ms' (.ref (ad r) :: As) ad F K' KX') (hrc : F r = some (.inr (ci, fs))) (hq : vwCl[ci]? = some q) (hcl : q.1 = y'.cls) (hn : As.length = np)
    (hst : ST = As.reverse ++ .ref (ad r) :: rest) (hcat : (rest.map fun v => v.category).sum ≤ 8) (hlv : n' < n) (hml : nL' ≤ 81) (h1 : kc + mc' ≤ mc) (h2 : ks + ms' ≤ ms) (hx : ∀ E ad' F', KX' E ad' F' → KX E ad' F')
    (k : ∀ v ad' F', K' v ad' F' → V M g ad' F' (kc + mc') (ks + ms') (pc + 3) LS (v.toList ++ rest)) : V M g ad F kc ks pc LS ST := by
  obtain ⟨w1, w2, w3⟩ := w
  refine V_runX X (.ref (ad r) :: As).toArray h1 h2 (fun H locs ls a b c => ?_) hx k
  refine vx_runV ⟨X.1.1, X.1.2.1, X.1.2.2.1, X.1.2.2.2.1, X.1.2.2.2.2⟩ hM ⟨callB_w X.1.2.2.2.2 w1 X.2.2.2.2.1 hlv hml, X.1.2.2.2.2 _ w2, X.1.2.2.2.2 _ w3⟩ ⟨PcK.blind, ?_, pc_at X a b⟩ rfl hn c.1 hst (lv_room hcat) d ⟨by rw [X.2.2.2.2.1]; exact h1, by rw [X.2.2.2.2.1]; exact h2⟩
  rw [← hcl]
  exact va_recv X.2.1.2.2.2.1 (a.one hrc) (ci := ci) (q0 := 0) hq rfl
theorem r_callSX (X : Cx M g y cc ret n mc ms [] K KX) (d : decode cc pc = .ok (.invokestatic idx, 3)) (w : WSt y.cls idx y' cy' nL' ret' np) (hM : CtX g (mL M) y' cy' nL' ret' n' mc' ms' As ad F K' KX') (hn : As.length = np)
    (hst : ST = As.reverse ++ rest) (hcat : (rest.map fun v => v.category).sum ≤ 8) (hlv : n' < n) (hml : nL' ≤ 81) (h1 : kc + mc' ≤ mc) (h2 : ks + ms' ≤ ms) (hx : ∀ E ad' F', KX' E ad' F' → KX E ad' F')
    (k : ∀ v ad' F', K' v ad' F' → V M g ad' F' (kc + mc') (ks + ms') (pc + 3) LS (v.toList ++ rest)) : V M g ad F kc ks pc LS ST := by
  obtain ⟨w1, w2⟩ := w
  refine V_runX X As.toArray h1 h2 (fun H locs ls a b c => ?_) hx k
  exact vx_runS ⟨X.1.1, X.1.2.1, X.1.2.2.1, X.1.2.2.2.1, X.1.2.2.2.2⟩ hM ⟨callB_w X.1.2.2.2.2 w1 X.2.2.2.2.1 hlv hml, X.1.2.2.2.2 _ w2⟩ ⟨PcK.blind, pc_at X a b⟩ rfl hn c.1 hst (lv_room hcat) d ⟨by rw [X.2.2.2.2.1]; exact h1, by rw [X.2.2.2.2.1]; exact h2⟩
theorem r_mmin (X : Cx M g y cc ret n mc ms tb K KX) {x z : Int} (d : decode cc pc = .ok (.invokestatic idx, 3)) (w1 : Cond.methodLink y.cls idx Lib.Math.min.name ∈ WS) (w2 : Cond.static Lib.Math.min.name ∈ WS) (w3 : Cond.initialized "java/lang/Math" ∈ WS) (w4 : Cond.code Lib.Math.min.name Lib.Math.min.code 2 (some .int) ∈ WS) (hx : inR x) (hz : inR z) (hcat : (ST.map fun v => v.category).sum ≤ 8) (hlv : 0 < n) (h1 : kc ≤ mc) (h2 : ks ≤ ms)
    (k : V M g ad F kc ks (pc + 3) LS (.int (zI (min x z)) :: ST)) : V M g ad F kc ks pc LS (.int (zI z) :: .int (zI x) :: ST) := fun H locs ls a b c => by
  refine va_mmin X.1.1 X.1.2.1 (X.1.2.2.1.trans c.1.symm) X.1.2.2.2.1 (X.1.2.2.2.2 _ w1) (X.1.2.2.2.2 _ w2) (X.1.2.2.2.2 _ w3) (X.1.2.2.2.2 _ w4) (by rw [X.2.2.2.2.1]; exact hlv) (by rw [X.2.2.2.2.1]; show _ + 13 ≤ 100 * n; omega) (by rw [X.2.2.2.2.1]; exact h1) (by rw [X.2.2.2.2.1]; exact h2) d ?_
  have e : (if zI z < zI x then zI z else zI x) = zI (min x z) := by
    by_cases h : z < x
    · rw [if_pos ((zI_lt hz hx).mpr h), Int.min_def, if_neg (by omega)]
    · rw [if_neg (fun q => h ((zI_lt hz hx).mp q)), Int.min_def, if_pos (by omega)]
  rw [e]
  exact k H locs ls a b c
theorem r_mmax (X : Cx M g y cc ret n mc ms tb K KX) {x z : Int} (d : decode cc pc = .ok (.invokestatic idx, 3)) (w1 : Cond.methodLink y.cls idx Lib.Math.max.name ∈ WS) (w2 : Cond.static Lib.Math.max.name ∈ WS) (w3 : Cond.initialized "java/lang/Math" ∈ WS) (w4 : Cond.code Lib.Math.max.name Lib.Math.max.code 2 (some .int) ∈ WS) (hx : inR x) (hz : inR z) (hcat : (ST.map fun v => v.category).sum ≤ 8) (hlv : 0 < n) (h1 : kc ≤ mc) (h2 : ks ≤ ms)
    (k : V M g ad F kc ks (pc + 3) LS (.int (zI (max x z)) :: ST)) : V M g ad F kc ks pc LS (.int (zI z) :: .int (zI x) :: ST) := fun H locs ls a b c => by
  refine va_mmax X.1.1 X.1.2.1 (X.1.2.2.1.trans c.1.symm) X.1.2.2.2.1 (X.1.2.2.2.2 _ w1) (X.1.2.2.2.2 _ w2) (X.1.2.2.2.2 _ w3) (X.1.2.2.2.2 _ w4) (by rw [X.2.2.2.2.1]; exact hlv) (by rw [X.2.2.2.2.1]; show _ + 13 ≤ 100 * n; omega) (by rw [X.2.2.2.2.1]; exact h1) (by rw [X.2.2.2.2.1]; exact h2) d ?_
  have e : (if zI x < zI z then zI z else zI x) = zI (max x z) := by
    by_cases h : x < z
    · rw [if_pos ((zI_lt hx hz).mpr h), Int.max_def, if_pos (by omega)]
    · rw [if_neg (fun q => h ((zI_lt hx hz).mp q)), Int.max_def]
      by_cases h3 : x ≤ z
      · rw [if_pos h3, show z = x by omega]
      · rw [if_neg h3]
  rw [e]
  exact k H locs ls a b c
end Calls
end
