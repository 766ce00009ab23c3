-- ===== PART A: goes FIRST, ahead of the names: the tables' words, and 'selects' of the private methods out of them =====
/-- a private method of a class that the tables say can be made, by its rows of tables_1 -/
def lw_okq (q : MethodName × Nat) : Prop := (q.1.cls ≠ "java/lang/invoke/MethodHandle" ∧ q.1.cls ≠ "java/lang/invoke/VarHandle") ∧ Cond.instantiable q.1.cls q.2 ∈ tables_1 ∧ Cond.privateMethod q.1 ∈ tables_1 ∧ Cond.instanceMethod q.1 ∈ tables_1
theorem lw_p0 : lw_okq (⟨"WishClerk$Reader", "nextToken", "()Z"⟩, 11) := ⟨⟨by decide +kernel, by decide +kernel⟩, List.mem_of_getElem? (i := 41) (by decide +kernel), List.mem_of_getElem? (i := 287) (by decide +kernel), List.mem_of_getElem? (i := 288) (by decide +kernel)⟩
theorem lw_p1 : lw_okq (⟨"WishClerk$Reader", "runEnd", "(ICC)I"⟩, 11) := ⟨⟨by decide +kernel, by decide +kernel⟩, List.mem_of_getElem? (i := 41) (by decide +kernel), List.mem_of_getElem? (i := 291) (by decide +kernel), List.mem_of_getElem? (i := 292) (by decide +kernel)⟩
theorem lw_p2 : lw_okq (⟨"WishClerk$Reader", "blame", "(II)Z"⟩, 11) := ⟨⟨by decide +kernel, by decide +kernel⟩, List.mem_of_getElem? (i := 41) (by decide +kernel), List.mem_of_getElem? (i := 295) (by decide +kernel), List.mem_of_getElem? (i := 296) (by decide +kernel)⟩
theorem lw_p3 : lw_okq (⟨"WishClerk$Reader", "takeLine", "()Z"⟩, 11) := ⟨⟨by decide +kernel, by decide +kernel⟩, List.mem_of_getElem? (i := 41) (by decide +kernel), List.mem_of_getElem? (i := 299) (by decide +kernel), List.mem_of_getElem? (i := 300) (by decide +kernel)⟩
theorem lw_p4 : lw_okq (⟨"WishClerk$Reader", "isName", "(Ljava/lang/String;)Z"⟩, 11) := ⟨⟨by decide +kernel, by decide +kernel⟩, List.mem_of_getElem? (i := 41) (by decide +kernel), List.mem_of_getElem? (i := 304) (by decide +kernel), List.mem_of_getElem? (i := 305) (by decide +kernel)⟩
theorem lw_p5 : lw_okq (⟨"WishClerk$Reader", "takeOne", "()Z"⟩, 11) := ⟨⟨by decide +kernel, by decide +kernel⟩, List.mem_of_getElem? (i := 41) (by decide +kernel), List.mem_of_getElem? (i := 356) (by decide +kernel), List.mem_of_getElem? (i := 357) (by decide +kernel)⟩
theorem lw_p6 : lw_okq (⟨"WishClerk$Reader", "takeStop", "()Z"⟩, 11) := ⟨⟨by decide +kernel, by decide +kernel⟩, List.mem_of_getElem? (i := 41) (by decide +kernel), List.mem_of_getElem? (i := 366) (by decide +kernel), List.mem_of_getElem? (i := 367) (by decide +kernel)⟩
theorem lw_p7 : lw_okq (⟨"WishClerk$Reader", "takeWish", "()Z"⟩, 11) := ⟨⟨by decide +kernel, by decide +kernel⟩, List.mem_of_getElem? (i := 41) (by decide +kernel), List.mem_of_getElem? (i := 371) (by decide +kernel), List.mem_of_getElem? (i := 372) (by decide +kernel)⟩
theorem lw_p8 : lw_okq (⟨"WishClerk$Reader", "takeNumber", "(IZ)Z"⟩, 11) := ⟨⟨by decide +kernel, by decide +kernel⟩, List.mem_of_getElem? (i := 41) (by decide +kernel), List.mem_of_getElem? (i := 375) (by decide +kernel), List.mem_of_getElem? (i := 376) (by decide +kernel)⟩
theorem lw_p9 : lw_okq (⟨"WishClerk$Reader", "takeOnes", "(I)Z"⟩, 11) := ⟨⟨by decide +kernel, by decide +kernel⟩, List.mem_of_getElem? (i := 41) (by decide +kernel), List.mem_of_getElem? (i := 379) (by decide +kernel), List.mem_of_getElem? (i := 380) (by decide +kernel)⟩
theorem lw_p10 : lw_okq (⟨"WishClerk$Reader", "takeNeeds", "()Z"⟩, 11) := ⟨⟨by decide +kernel, by decide +kernel⟩, List.mem_of_getElem? (i := 41) (by decide +kernel), List.mem_of_getElem? (i := 387) (by decide +kernel), List.mem_of_getElem? (i := 388) (by decide +kernel)⟩
theorem lw_p11 : lw_okq (⟨"WishClerk$Reader", "takeClash", "()Z"⟩, 11) := ⟨⟨by decide +kernel, by decide +kernel⟩, List.mem_of_getElem? (i := 41) (by decide +kernel), List.mem_of_getElem? (i := 392) (by decide +kernel), List.mem_of_getElem? (i := 393) (by decide +kernel)⟩
theorem lw_p12 : lw_okq (⟨"WishClerk$Reader", "takeListed", "()Z"⟩, 11) := ⟨⟨by decide +kernel, by decide +kernel⟩, List.mem_of_getElem? (i := 41) (by decide +kernel), List.mem_of_getElem? (i := 397) (by decide +kernel), List.mem_of_getElem? (i := 398) (by decide +kernel)⟩
theorem lw_p13 : lw_okq (⟨"WishClerk$Reader", "takeDepth", "()Z"⟩, 11) := ⟨⟨by decide +kernel, by decide +kernel⟩, List.mem_of_getElem? (i := 41) (by decide +kernel), List.mem_of_getElem? (i := 402) (by decide +kernel), List.mem_of_getElem? (i := 403) (by decide +kernel)⟩
theorem lw_p14 : lw_okq (⟨"WishClerk$Reader", "takePlanned", "()Z"⟩, 11) := ⟨⟨by decide +kernel, by decide +kernel⟩, List.mem_of_getElem? (i := 41) (by decide +kernel), List.mem_of_getElem? (i := 407) (by decide +kernel), List.mem_of_getElem? (i := 408) (by decide +kernel)⟩
theorem lw_p15 : lw_okq (⟨"WishClerk$Book", "gather", "([II)I"⟩, 19) := ⟨⟨by decide +kernel, by decide +kernel⟩, List.mem_of_getElem? (i := 47) (by decide +kernel), List.mem_of_getElem? (i := 419) (by decide +kernel), List.mem_of_getElem? (i := 420) (by decide +kernel)⟩
def lw_privs_1 : List (MethodName × Nat) := [(⟨"WishClerk$Reader", "nextToken", "()Z"⟩, 11), (⟨"WishClerk$Reader", "runEnd", "(ICC)I"⟩, 11), (⟨"WishClerk$Reader", "blame", "(II)Z"⟩, 11), (⟨"WishClerk$Reader", "takeLine", "()Z"⟩, 11), (⟨"WishClerk$Reader", "isName", "(Ljava/lang/String;)Z"⟩, 11), (⟨"WishClerk$Reader", "takeOne", "()Z"⟩, 11), (⟨"WishClerk$Reader", "takeStop", "()Z"⟩, 11), (⟨"WishClerk$Reader", "takeWish", "()Z"⟩, 11), (⟨"WishClerk$Reader", "takeNumber", "(IZ)Z"⟩, 11), (⟨"WishClerk$Reader", "takeOnes", "(I)Z"⟩, 11), (⟨"WishClerk$Reader", "takeNeeds", "()Z"⟩, 11), (⟨"WishClerk$Reader", "takeClash", "()Z"⟩, 11), (⟨"WishClerk$Reader", "takeListed", "()Z"⟩, 11), (⟨"WishClerk$Reader", "takeDepth", "()Z"⟩, 11), (⟨"WishClerk$Reader", "takePlanned", "()Z"⟩, 11), (⟨"WishClerk$Book", "gather", "([II)I"⟩, 19)]
theorem lw_r1 : ∀ q ∈ lw_privs_1, lw_okq q := List.forall_mem_cons.mpr ⟨lw_p0, List.forall_mem_cons.mpr ⟨lw_p1, List.forall_mem_cons.mpr ⟨lw_p2, List.forall_mem_cons.mpr ⟨lw_p3, List.forall_mem_cons.mpr ⟨lw_p4, List.forall_mem_cons.mpr ⟨lw_p5, List.forall_mem_cons.mpr ⟨lw_p6, List.forall_mem_cons.mpr ⟨lw_p7, List.forall_mem_cons.mpr ⟨lw_p8, List.forall_mem_cons.mpr ⟨lw_p9, List.forall_mem_cons.mpr ⟨lw_p10, List.forall_mem_cons.mpr ⟨lw_p11, List.forall_mem_cons.mpr ⟨lw_p12, List.forall_mem_cons.mpr ⟨lw_p13, List.forall_mem_cons.mpr ⟨lw_p14, List.forall_mem_cons.mpr ⟨lw_p15, fun _ h => absurd h List.not_mem_nil⟩⟩⟩⟩⟩⟩⟩⟩⟩⟩⟩⟩⟩⟩⟩⟩
theorem lw_p16 : lw_okq (⟨"WishClerk$Rows", "grantedAt", "(LWishClerk$Book;II)I"⟩, 6) := ⟨⟨by decide +kernel, by decide +kernel⟩, List.mem_of_getElem? (i := 187) (by decide +kernel), List.mem_of_getElem? (i := 546) (by decide +kernel), List.mem_of_getElem? (i := 547) (by decide +kernel)⟩
theorem lw_p17 : lw_okq (⟨"WishClerk$Rows", "bringToLife", "(LWishClerk$Book;I)V"⟩, 6) := ⟨⟨by decide +kernel, by decide +kernel⟩, List.mem_of_getElem? (i := 187) (by decide +kernel), List.mem_of_getElem? (i := 552) (by decide +kernel), List.mem_of_getElem? (i := 553) (by decide +kernel)⟩
theorem lw_p18 : lw_okq (⟨"WishClerk$Rows", "markNext", "(LWishClerk$Book;II)V"⟩, 6) := ⟨⟨by decide +kernel, by decide +kernel⟩, List.mem_of_getElem? (i := 187) (by decide +kernel), List.mem_of_getElem? (i := 556) (by decide +kernel), List.mem_of_getElem? (i := 557) (by decide +kernel)⟩
theorem lw_p19 : lw_okq (⟨"WishClerk$Rows", "costOfNext", "(LWishClerk$Book;IZ)I"⟩, 6) := ⟨⟨by decide +kernel, by decide +kernel⟩, List.mem_of_getElem? (i := 187) (by decide +kernel), List.mem_of_getElem? (i := 564) (by decide +kernel), List.mem_of_getElem? (i := 565) (by decide +kernel)⟩
theorem lw_p20 : lw_okq (⟨"WishClerk$Rows", "firstWish", "(LWishClerk$Book;I)I"⟩, 6) := ⟨⟨by decide +kernel, by decide +kernel⟩, List.mem_of_getElem? (i := 187) (by decide +kernel), List.mem_of_getElem? (i := 576) (by decide +kernel), List.mem_of_getElem? (i := 577) (by decide +kernel)⟩
theorem lw_p21 : lw_okq (⟨"WishClerk", "leastStruck", "(I)I"⟩, 10) := ⟨⟨by decide +kernel, by decide +kernel⟩, List.mem_of_getElem? (i := 16) (by decide +kernel), List.mem_of_getElem? (i := 596) (by decide +kernel), List.mem_of_getElem? (i := 597) (by decide +kernel)⟩
theorem lw_p22 : lw_okq (⟨"WishClerk", "leastClashing", "()I"⟩, 10) := ⟨⟨by decide +kernel, by decide +kernel⟩, List.mem_of_getElem? (i := 16) (by decide +kernel), List.mem_of_getElem? (i := 616) (by decide +kernel), List.mem_of_getElem? (i := 617) (by decide +kernel)⟩
theorem lw_p23 : lw_okq (⟨"WishClerk", "leastTaken", "()I"⟩, 10) := ⟨⟨by decide +kernel, by decide +kernel⟩, List.mem_of_getElem? (i := 16) (by decide +kernel), List.mem_of_getElem? (i := 632) (by decide +kernel), List.mem_of_getElem? (i := 633) (by decide +kernel)⟩
theorem lw_p24 : lw_okq (⟨"WishClerk", "latest", "(I)I"⟩, 10) := ⟨⟨by decide +kernel, by decide +kernel⟩, List.mem_of_getElem? (i := 16) (by decide +kernel), List.mem_of_getElem? (i := 645) (by decide +kernel), List.mem_of_getElem? (i := 646) (by decide +kernel)⟩
theorem lw_p25 : lw_okq (⟨"WishClerk", "weightOf", "(II)J"⟩, 10) := ⟨⟨by decide +kernel, by decide +kernel⟩, List.mem_of_getElem? (i := 16) (by decide +kernel), List.mem_of_getElem? (i := 677) (by decide +kernel), List.mem_of_getElem? (i := 678) (by decide +kernel)⟩
theorem lw_p26 : lw_okq (⟨"WishClerk", "aliveAfterPlan", "(I)I"⟩, 10) := ⟨⟨by decide +kernel, by decide +kernel⟩, List.mem_of_getElem? (i := 16) (by decide +kernel), List.mem_of_getElem? (i := 681) (by decide +kernel), List.mem_of_getElem? (i := 682) (by decide +kernel)⟩
theorem lw_p27 : lw_okq (⟨"WishClerkModel", "firstDraft", "()V"⟩, 31) := ⟨⟨by decide +kernel, by decide +kernel⟩, List.mem_of_getElem? (i := 746) (by decide +kernel), List.mem_of_getElem? (i := 752) (by decide +kernel), List.mem_of_getElem? (i := 753) (by decide +kernel)⟩
theorem lw_p28 : lw_okq (⟨"WishClerkModel", "keepDraft", "()V"⟩, 31) := ⟨⟨by decide +kernel, by decide +kernel⟩, List.mem_of_getElem? (i := 746) (by decide +kernel), List.mem_of_getElem? (i := 756) (by decide +kernel), List.mem_of_getElem? (i := 757) (by decide +kernel)⟩
theorem lw_p29 : lw_okq (⟨"WishClerkModel", "next", "()V"⟩, 31) := ⟨⟨by decide +kernel, by decide +kernel⟩, List.mem_of_getElem? (i := 746) (by decide +kernel), List.mem_of_getElem? (i := 870) (by decide +kernel), List.mem_of_getElem? (i := 871) (by decide +kernel)⟩
theorem lw_p30 : lw_okq (⟨"WishClerkModel", "look", "(I)I"⟩, 31) := ⟨⟨by decide +kernel, by decide +kernel⟩, List.mem_of_getElem? (i := 746) (by decide +kernel), List.mem_of_getElem? (i := 874) (by decide +kernel), List.mem_of_getElem? (i := 875) (by decide +kernel)⟩
theorem lw_p31 : lw_okq (⟨"WishClerkModel", "must", "(ZI)V"⟩, 31) := ⟨⟨by decide +kernel, by decide +kernel⟩, List.mem_of_getElem? (i := 746) (by decide +kernel), List.mem_of_getElem? (i := 882) (by decide +kernel), List.mem_of_getElem? (i := 883) (by decide +kernel)⟩
def lw_privs_2 : List (MethodName × Nat) := [(⟨"WishClerk$Rows", "grantedAt", "(LWishClerk$Book;II)I"⟩, 6), (⟨"WishClerk$Rows", "bringToLife", "(LWishClerk$Book;I)V"⟩, 6), (⟨"WishClerk$Rows", "markNext", "(LWishClerk$Book;II)V"⟩, 6), (⟨"WishClerk$Rows", "costOfNext", "(LWishClerk$Book;IZ)I"⟩, 6), (⟨"WishClerk$Rows", "firstWish", "(LWishClerk$Book;I)I"⟩, 6), (⟨"WishClerk", "leastStruck", "(I)I"⟩, 10), (⟨"WishClerk", "leastClashing", "()I"⟩, 10), (⟨"WishClerk", "leastTaken", "()I"⟩, 10), (⟨"WishClerk", "latest", "(I)I"⟩, 10), (⟨"WishClerk", "weightOf", "(II)J"⟩, 10), (⟨"WishClerk", "aliveAfterPlan", "(I)I"⟩, 10), (⟨"WishClerkModel", "firstDraft", "()V"⟩, 31), (⟨"WishClerkModel", "keepDraft", "()V"⟩, 31), (⟨"WishClerkModel", "next", "()V"⟩, 31), (⟨"WishClerkModel", "look", "(I)I"⟩, 31), (⟨"WishClerkModel", "must", "(ZI)V"⟩, 31)]
theorem lw_r2 : ∀ q ∈ lw_privs_2, lw_okq q := List.forall_mem_cons.mpr ⟨lw_p16, List.forall_mem_cons.mpr ⟨lw_p17, List.forall_mem_cons.mpr ⟨lw_p18, List.forall_mem_cons.mpr ⟨lw_p19, List.forall_mem_cons.mpr ⟨lw_p20, List.forall_mem_cons.mpr ⟨lw_p21, List.forall_mem_cons.mpr ⟨lw_p22, List.forall_mem_cons.mpr ⟨lw_p23, List.forall_mem_cons.mpr ⟨lw_p24, List.forall_mem_cons.mpr ⟨lw_p25, List.forall_mem_cons.mpr ⟨lw_p26, List.forall_mem_cons.mpr ⟨lw_p27, List.forall_mem_cons.mpr ⟨lw_p28, List.forall_mem_cons.mpr ⟨lw_p29, List.forall_mem_cons.mpr ⟨lw_p30, List.forall_mem_cons.mpr ⟨lw_p31, fun _ h => absurd h List.not_mem_nil⟩⟩⟩⟩⟩⟩⟩⟩⟩⟩⟩⟩⟩⟩⟩⟩
theorem lw_p32 : lw_okq (⟨"WishClerkModel", "readLine", "()V"⟩, 31) := ⟨⟨by decide +kernel, by decide +kernel⟩, List.mem_of_getElem? (i := 746) (by decide +kernel), List.mem_of_getElem? (i := 886) (by decide +kernel), List.mem_of_getElem? (i := 887) (by decide +kernel)⟩
theorem lw_p33 : lw_okq (⟨"WishClerkModel", "lineNow", "()I"⟩, 31) := ⟨⟨by decide +kernel, by decide +kernel⟩, List.mem_of_getElem? (i := 746) (by decide +kernel), List.mem_of_getElem? (i := 890) (by decide +kernel), List.mem_of_getElem? (i := 891) (by decide +kernel)⟩
theorem lw_p34 : lw_okq (⟨"WishClerkModel", "is", "(IIII)Z"⟩, 31) := ⟨⟨by decide +kernel, by decide +kernel⟩, List.mem_of_getElem? (i := 746) (by decide +kernel), List.mem_of_getElem? (i := 894) (by decide +kernel), List.mem_of_getElem? (i := 895) (by decide +kernel)⟩
theorem lw_p35 : lw_okq (⟨"WishClerkModel", "ends", "(III)Z"⟩, 31) := ⟨⟨by decide +kernel, by decide +kernel⟩, List.mem_of_getElem? (i := 746) (by decide +kernel), List.mem_of_getElem? (i := 898) (by decide +kernel), List.mem_of_getElem? (i := 899) (by decide +kernel)⟩
theorem lw_p36 : lw_okq (⟨"WishClerkModel", "readLineOf", "(I)V"⟩, 31) := ⟨⟨by decide +kernel, by decide +kernel⟩, List.mem_of_getElem? (i := 746) (by decide +kernel), List.mem_of_getElem? (i := 902) (by decide +kernel), List.mem_of_getElem? (i := 903) (by decide +kernel)⟩
theorem lw_p37 : lw_okq (⟨"WishClerkModel", "readOne", "()V"⟩, 31) := ⟨⟨by decide +kernel, by decide +kernel⟩, List.mem_of_getElem? (i := 746) (by decide +kernel), List.mem_of_getElem? (i := 906) (by decide +kernel), List.mem_of_getElem? (i := 907) (by decide +kernel)⟩
theorem lw_p38 : lw_okq (⟨"WishClerkModel", "kindNow", "()I"⟩, 31) := ⟨⟨by decide +kernel, by decide +kernel⟩, List.mem_of_getElem? (i := 746) (by decide +kernel), List.mem_of_getElem? (i := 910) (by decide +kernel), List.mem_of_getElem? (i := 911) (by decide +kernel)⟩
theorem lw_p39 : lw_okq (⟨"WishClerkModel", "readWish", "()V"⟩, 31) := ⟨⟨by decide +kernel, by decide +kernel⟩, List.mem_of_getElem? (i := 746) (by decide +kernel), List.mem_of_getElem? (i := 917) (by decide +kernel), List.mem_of_getElem? (i := 918) (by decide +kernel)⟩
theorem lw_p40 : lw_okq (⟨"WishClerkModel", "readNumber", "(II)I"⟩, 31) := ⟨⟨by decide +kernel, by decide +kernel⟩, List.mem_of_getElem? (i := 746) (by decide +kernel), List.mem_of_getElem? (i := 921) (by decide +kernel), List.mem_of_getElem? (i := 922) (by decide +kernel)⟩
theorem lw_p41 : lw_okq (⟨"WishClerkModel", "looked", "(II)I"⟩, 31) := ⟨⟨by decide +kernel, by decide +kernel⟩, List.mem_of_getElem? (i := 746) (by decide +kernel), List.mem_of_getElem? (i := 925) (by decide +kernel), List.mem_of_getElem? (i := 926) (by decide +kernel)⟩
theorem lw_p42 : lw_okq (⟨"WishClerkModel", "readNeeds", "()V"⟩, 31) := ⟨⟨by decide +kernel, by decide +kernel⟩, List.mem_of_getElem? (i := 746) (by decide +kernel), List.mem_of_getElem? (i := 929) (by decide +kernel), List.mem_of_getElem? (i := 930) (by decide +kernel)⟩
theorem lw_p43 : lw_okq (⟨"WishClerkModel", "readWishBut", "(I)I"⟩, 31) := ⟨⟨by decide +kernel, by decide +kernel⟩, List.mem_of_getElem? (i := 746) (by decide +kernel), List.mem_of_getElem? (i := 933) (by decide +kernel), List.mem_of_getElem? (i := 934) (by decide +kernel)⟩
theorem lw_p44 : lw_okq (⟨"WishClerkModel", "readClash", "()V"⟩, 31) := ⟨⟨by decide +kernel, by decide +kernel⟩, List.mem_of_getElem? (i := 746) (by decide +kernel), List.mem_of_getElem? (i := 937) (by decide +kernel), List.mem_of_getElem? (i := 938) (by decide +kernel)⟩
theorem lw_p45 : lw_okq (⟨"WishClerkModel", "isWish", "(I)Z"⟩, 31) := ⟨⟨by decide +kernel, by decide +kernel⟩, List.mem_of_getElem? (i := 746) (by decide +kernel), List.mem_of_getElem? (i := 953) (by decide +kernel), List.mem_of_getElem? (i := 954) (by decide +kernel)⟩
theorem lw_p46 : lw_okq (⟨"WishClerkModel", "follow", "(I)I"⟩, 31) := ⟨⟨by decide +kernel, by decide +kernel⟩, List.mem_of_getElem? (i := 746) (by decide +kernel), List.mem_of_getElem? (i := 957) (by decide +kernel), List.mem_of_getElem? (i := 958) (by decide +kernel)⟩
theorem lw_p47 : lw_okq (⟨"WishClerkModel", "allOf", "(II)I"⟩, 31) := ⟨⟨by decide +kernel, by decide +kernel⟩, List.mem_of_getElem? (i := 746) (by decide +kernel), List.mem_of_getElem? (i := 961) (by decide +kernel), List.mem_of_getElem? (i := 962) (by decide +kernel)⟩
def lw_privs_3 : List (MethodName × Nat) := [(⟨"WishClerkModel", "readLine", "()V"⟩, 31), (⟨"WishClerkModel", "lineNow", "()I"⟩, 31), (⟨"WishClerkModel", "is", "(IIII)Z"⟩, 31), (⟨"WishClerkModel", "ends", "(III)Z"⟩, 31), (⟨"WishClerkModel", "readLineOf", "(I)V"⟩, 31), (⟨"WishClerkModel", "readOne", "()V"⟩, 31), (⟨"WishClerkModel", "kindNow", "()I"⟩, 31), (⟨"WishClerkModel", "readWish", "()V"⟩, 31), (⟨"WishClerkModel", "readNumber", "(II)I"⟩, 31), (⟨"WishClerkModel", "looked", "(II)I"⟩, 31), (⟨"WishClerkModel", "readNeeds", "()V"⟩, 31), (⟨"WishClerkModel", "readWishBut", "(I)I"⟩, 31), (⟨"WishClerkModel", "readClash", "()V"⟩, 31), (⟨"WishClerkModel", "isWish", "(I)Z"⟩, 31), (⟨"WishClerkModel", "follow", "(I)I"⟩, 31), (⟨"WishClerkModel", "allOf", "(II)I"⟩, 31)]
theorem lw_r3 : ∀ q ∈ lw_privs_3, lw_okq q := List.forall_mem_cons.mpr ⟨lw_p32, List.forall_mem_cons.mpr ⟨lw_p33, List.forall_mem_cons.mpr ⟨lw_p34, List.forall_mem_cons.mpr ⟨lw_p35, List.forall_mem_cons.mpr ⟨lw_p36, List.forall_mem_cons.mpr ⟨lw_p37, List.forall_mem_cons.mpr ⟨lw_p38, List.forall_mem_cons.mpr ⟨lw_p39, List.forall_mem_cons.mpr ⟨lw_p40, List.forall_mem_cons.mpr ⟨lw_p41, List.forall_mem_cons.mpr ⟨lw_p42, List.forall_mem_cons.mpr ⟨lw_p43, List.forall_mem_cons.mpr ⟨lw_p44, List.forall_mem_cons.mpr ⟨lw_p45, List.forall_mem_cons.mpr ⟨lw_p46, List.forall_mem_cons.mpr ⟨lw_p47, fun _ h => absurd h List.not_mem_nil⟩⟩⟩⟩⟩⟩⟩⟩⟩⟩⟩⟩⟩⟩⟩⟩
theorem lw_p48 : lw_okq (⟨"WishClerkModel", "isOne", "(I)Z"⟩, 31) := ⟨⟨by decide +kernel, by decide +kernel⟩, List.mem_of_getElem? (i := 746) (by decide +kernel), List.mem_of_getElem? (i := 973) (by decide +kernel), List.mem_of_getElem? (i := 974) (by decide +kernel)⟩
theorem lw_p49 : lw_okq (⟨"WishClerkModel", "becomesBit", "(IIZ)I"⟩, 31) := ⟨⟨by decide +kernel, by decide +kernel⟩, List.mem_of_getElem? (i := 746) (by decide +kernel), List.mem_of_getElem? (i := 977) (by decide +kernel), List.mem_of_getElem? (i := 978) (by decide +kernel)⟩
theorem lw_p50 : lw_okq (⟨"WishClerkModel", "becomes", "(II)I"⟩, 31) := ⟨⟨by decide +kernel, by decide +kernel⟩, List.mem_of_getElem? (i := 746) (by decide +kernel), List.mem_of_getElem? (i := 994) (by decide +kernel), List.mem_of_getElem? (i := 995) (by decide +kernel)⟩
theorem lw_p51 : lw_okq (⟨"WishClerkModel", "looksAt", "(III)I"⟩, 31) := ⟨⟨by decide +kernel, by decide +kernel⟩, List.mem_of_getElem? (i := 746) (by decide +kernel), List.mem_of_getElem? (i := 1022) (by decide +kernel), List.mem_of_getElem? (i := 1023) (by decide +kernel)⟩
theorem lw_p52 : lw_okq (⟨"WishClerkModel", "refusal", "(IIIII)I"⟩, 31) := ⟨⟨by decide +kernel, by decide +kernel⟩, List.mem_of_getElem? (i := 746) (by decide +kernel), List.mem_of_getElem? (i := 1030) (by decide +kernel), List.mem_of_getElem? (i := 1031) (by decide +kernel)⟩
theorem lw_p53 : lw_okq (⟨"WishClerkModel", "doClash", "(II)Z"⟩, 31) := ⟨⟨by decide +kernel, by decide +kernel⟩, List.mem_of_getElem? (i := 746) (by decide +kernel), List.mem_of_getElem? (i := 1034) (by decide +kernel), List.mem_of_getElem? (i := 1035) (by decide +kernel)⟩
theorem lw_p54 : lw_okq (⟨"WishClerkModel", "takenBy", "(II)I"⟩, 31) := ⟨⟨by decide +kernel, by decide +kernel⟩, List.mem_of_getElem? (i := 746) (by decide +kernel), List.mem_of_getElem? (i := 1050) (by decide +kernel), List.mem_of_getElem? (i := 1051) (by decide +kernel)⟩
theorem lw_p55 : lw_okq (⟨"WishClerkModel", "findRow", "(I)I"⟩, 31) := ⟨⟨by decide +kernel, by decide +kernel⟩, List.mem_of_getElem? (i := 746) (by decide +kernel), List.mem_of_getElem? (i := 1068) (by decide +kernel), List.mem_of_getElem? (i := 1069) (by decide +kernel)⟩
theorem lw_p56 : lw_okq (⟨"WishClerkModel", "livingBy", "(I)I"⟩, 31) := ⟨⟨by decide +kernel, by decide +kernel⟩, List.mem_of_getElem? (i := 746) (by decide +kernel), List.mem_of_getElem? (i := 1072) (by decide +kernel), List.mem_of_getElem? (i := 1073) (by decide +kernel)⟩
theorem lw_p57 : lw_okq (⟨"WishClerkModel", "askedBy", "(IIII)I"⟩, 31) := ⟨⟨by decide +kernel, by decide +kernel⟩, List.mem_of_getElem? (i := 746) (by decide +kernel), List.mem_of_getElem? (i := 1076) (by decide +kernel), List.mem_of_getElem? (i := 1077) (by decide +kernel)⟩
theorem lw_p58 : lw_okq (⟨"WishClerkModel", "cheapOf", "(III)I"⟩, 31) := ⟨⟨by decide +kernel, by decide +kernel⟩, List.mem_of_getElem? (i := 746) (by decide +kernel), List.mem_of_getElem? (i := 1084) (by decide +kernel), List.mem_of_getElem? (i := 1085) (by decide +kernel)⟩
theorem lw_p59 : lw_okq (⟨"WishClerkModel", "findCosts", "(II)V"⟩, 31) := ⟨⟨by decide +kernel, by decide +kernel⟩, List.mem_of_getElem? (i := 746) (by decide +kernel), List.mem_of_getElem? (i := 1088) (by decide +kernel), List.mem_of_getElem? (i := 1089) (by decide +kernel)⟩
theorem lw_p60 : lw_okq (⟨"WishClerkModel", "goesRound", "(I)Z"⟩, 31) := ⟨⟨by decide +kernel, by decide +kernel⟩, List.mem_of_getElem? (i := 746) (by decide +kernel), List.mem_of_getElem? (i := 1117) (by decide +kernel), List.mem_of_getElem? (i := 1118) (by decide +kernel)⟩
theorem lw_p61 : lw_okq (⟨"WishClerkModel", "isSo", "(I)Z"⟩, 31) := ⟨⟨by decide +kernel, by decide +kernel⟩, List.mem_of_getElem? (i := 746) (by decide +kernel), List.mem_of_getElem? (i := 1134) (by decide +kernel), List.mem_of_getElem? (i := 1135) (by decide +kernel)⟩
theorem lw_p62 : lw_okq (⟨"WishClerkModel", "copies", "(II)V"⟩, 31) := ⟨⟨by decide +kernel, by decide +kernel⟩, List.mem_of_getElem? (i := 746) (by decide +kernel), List.mem_of_getElem? (i := 1156) (by decide +kernel), List.mem_of_getElem? (i := 1157) (by decide +kernel)⟩
def lw_privs_4 : List (MethodName × Nat) := [(⟨"WishClerkModel", "isOne", "(I)Z"⟩, 31), (⟨"WishClerkModel", "becomesBit", "(IIZ)I"⟩, 31), (⟨"WishClerkModel", "becomes", "(II)I"⟩, 31), (⟨"WishClerkModel", "looksAt", "(III)I"⟩, 31), (⟨"WishClerkModel", "refusal", "(IIIII)I"⟩, 31), (⟨"WishClerkModel", "doClash", "(II)Z"⟩, 31), (⟨"WishClerkModel", "takenBy", "(II)I"⟩, 31), (⟨"WishClerkModel", "findRow", "(I)I"⟩, 31), (⟨"WishClerkModel", "livingBy", "(I)I"⟩, 31), (⟨"WishClerkModel", "askedBy", "(IIII)I"⟩, 31), (⟨"WishClerkModel", "cheapOf", "(III)I"⟩, 31), (⟨"WishClerkModel", "findCosts", "(II)V"⟩, 31), (⟨"WishClerkModel", "goesRound", "(I)Z"⟩, 31), (⟨"WishClerkModel", "isSo", "(I)Z"⟩, 31), (⟨"WishClerkModel", "copies", "(II)V"⟩, 31)]
theorem lw_r4 : ∀ q ∈ lw_privs_4, lw_okq q := List.forall_mem_cons.mpr ⟨lw_p48, List.forall_mem_cons.mpr ⟨lw_p49, List.forall_mem_cons.mpr ⟨lw_p50, List.forall_mem_cons.mpr ⟨lw_p51, List.forall_mem_cons.mpr ⟨lw_p52, List.forall_mem_cons.mpr ⟨lw_p53, List.forall_mem_cons.mpr ⟨lw_p54, List.forall_mem_cons.mpr ⟨lw_p55, List.forall_mem_cons.mpr ⟨lw_p56, List.forall_mem_cons.mpr ⟨lw_p57, List.forall_mem_cons.mpr ⟨lw_p58, List.forall_mem_cons.mpr ⟨lw_p59, List.forall_mem_cons.mpr ⟨lw_p60, List.forall_mem_cons.mpr ⟨lw_p61, List.forall_mem_cons.mpr ⟨lw_p62, fun _ h => absurd h List.not_mem_nil⟩⟩⟩⟩⟩⟩⟩⟩⟩⟩⟩⟩⟩⟩⟩
def lw_privs : List (MethodName × Nat) := lw_privs_1 ++ (lw_privs_2 ++ (lw_privs_3 ++ (lw_privs_4)))
def lw_tbl : List Cond := k2_sels lw_privs ++ tables_1
theorem lw_privs_ok : ∀ q ∈ lw_privs, lw_okq q := by
  show ∀ q ∈ lw_privs_1 ++ (lw_privs_2 ++ (lw_privs_3 ++ (lw_privs_4))), lw_okq q
  exact List.forall_mem_append.mpr ⟨lw_r1, List.forall_mem_append.mpr ⟨lw_r2, List.forall_mem_append.mpr ⟨lw_r3, lw_r4⟩⟩⟩
-- ===== end of PART A; then your names; then what follows =====
def RX0 : String := "WishClerk$Book"
def TX0 : u_T := fun k => match k with
  | 0 => ("WishClerk$Book", "people", "I", false)
  | 1 => ("WishClerk$Book", "wishes", "I", false)
  | 2 => ("WishClerk$Book", "depth", "I", false)
  | 3 => ("WishClerk$Book", "lives", "I", false)
  | 4 => ("WishClerk$Book", "barred", "I", false)
  | 5 => ("WishClerk$Book", "holds", "I", false)
  | 6 => ("WishClerk$Book", "listed", "I", false)
  | 7 => ("WishClerk$Book", "years", "[I", true)
  | 8 => ("WishClerk$Book", "price", "[I", true)
  | 9 => ("WishClerk$Book", "ones", "[I", true)
  | 10 => ("WishClerk$Book", "needed", "[I", true)
  | 11 => ("WishClerk$Book", "clashing", "[I", true)
  | 12 => ("WishClerk$Book", "follows", "[I", true)
  | 13 => ("WishClerk$Book", "wanted", "[I", true)
  | 14 => ("WishClerk$Book", "planWish", "[I", true)
  | 15 => ("WishClerk$Book", "planned", "I", false)
  | 16 => ("WishClerk$Book", "seenOne", "[I", true)
  | 17 => ("WishClerk$Book", "seenAlive", "I", false)
  | _ => ("WishClerk$Book", "seen", "I", false)
def tyX0 : Nat → FieldType := fun k => match k with
  | 0 => .int
  | 1 => .int
  | 2 => .int
  | 3 => .int
  | 4 => .int
  | 5 => .int
  | 6 => .int
  | 7 => .array .int
  | 8 => .array .int
  | 9 => .array .int
  | 10 => .array .int
  | 11 => .array .int
  | 12 => .array .int
  | 13 => .array .int
  | 14 => .array .int
  | 15 => .int
  | 16 => .array .int
  | 17 => .int
  | _ => .int
abbrev wsX00 : List Cond := u_ws RX0 TX0 19
theorem nmX0 : ∀ a, a < 19 → ∀ b, b < 19 → a ≠ b → (TX0 a).2.1 ≠ (TX0 b).2.1 := by decide +kernel
theorem tyX0_ok : ∀ k, k < 19 → parseFieldDescriptor (TX0 k).2.2.1 = some (tyX0 k) := by decide +kernel
abbrev cX0_init : ByteArray := prog_2_method_1_code
def yX0_init : MethodName := ⟨RX0, "<init>", "()V"⟩
abbrev cX0_hasOne : ByteArray := prog_2_method_2_code
def yX0_hasOne : MethodName := ⟨RX0, "hasOne", "(I)Z"⟩
abbrev cX0_hasWish : ByteArray := prog_2_method_3_code
def yX0_hasWish : MethodName := ⟨RX0, "hasWish", "(I)Z"⟩
abbrev cX0_hasTwoWishes : ByteArray := prog_2_method_4_code
def yX0_hasTwoWishes : MethodName := ⟨RX0, "hasTwoWishes", "(II)Z"⟩
abbrev cX0_sets : ByteArray := prog_2_method_5_code
def yX0_sets : MethodName := ⟨RX0, "sets", "()I"⟩
abbrev cX0_makeEmpty : ByteArray := prog_2_method_6_code
def yX0_makeEmpty : MethodName := ⟨RX0, "makeEmpty", "()V"⟩
abbrev cX0_copyFrom : ByteArray := prog_2_method_7_code
def yX0_copyFrom : MethodName := ⟨RX0, "copyFrom", "(LWishClerk$Book;)V"⟩
abbrev cX0_workOutFollowers : ByteArray := prog_2_method_8_code
def yX0_workOutFollowers : MethodName := ⟨RX0, "workOutFollowers", "()V"⟩
abbrev cX0_lookedAt : ByteArray := prog_2_method_9_code
def yX0_lookedAt : MethodName := ⟨RX0, "lookedAt", "(III)I"⟩
abbrev cX0_refusal : ByteArray := prog_2_method_10_code
def yX0_refusal : MethodName := ⟨RX0, "refusal", "(IIII)I"⟩
abbrev cX0_gather : ByteArray := prog_2_method_11_code
def yX0_gather : MethodName := ⟨RX0, "gather", "([II)I"⟩
abbrev cX0_haveClash : ByteArray := prog_2_method_12_code
def yX0_haveClash : MethodName := ⟨RX0, "haveClash", "(I)Z"⟩
abbrev cX0_followersOf : ByteArray := prog_2_method_13_code
def yX0_followersOf : MethodName := ⟨RX0, "followersOf", "(I)I"⟩
abbrev cX0_wantedBy : ByteArray := prog_2_method_14_code
def yX0_wantedBy : MethodName := ⟨RX0, "wantedBy", "(I)I"⟩
abbrev cX0_restingOn : ByteArray := prog_2_method_15_code
def yX0_restingOn : MethodName := ⟨RX0, "restingOn", "(II)I"⟩
abbrev cX0_goesRound : ByteArray := prog_2_method_16_code
def yX0_goesRound : MethodName := ⟨RX0, "goesRound", "(I)Z"⟩
abbrev cX0_seenOnes : ByteArray := prog_2_method_17_code
def yX0_seenOnes : MethodName := ⟨RX0, "seenOnes", "(Z)I"⟩
def RX1 : String := "WishClerk$Reader"
def TX1 : u_T := fun k => match k with
  | 0 => ("WishClerk$Reader", "book", "LWishClerk$Book;", false)
  | 1 => ("WishClerk$Reader", "fault", "I", false)
  | 2 => ("WishClerk$Reader", "faultPlace", "I", false)
  | 3 => ("WishClerk$Reader", "tape", "LWishClerk$Tape;", true)
  | 4 => ("WishClerk$Reader", "kind", "I", false)
  | 5 => ("WishClerk$Reader", "first", "I", false)
  | 6 => ("WishClerk$Reader", "behind", "I", false)
  | 7 => ("WishClerk$Reader", "value", "I", false)
  | 8 => ("WishClerk$Reader", "depthTold", "Z", false)
  | 9 => ("WishClerk$Reader", "onesNamed", "I", false)
  | _ => ("WishClerk$Reader", "wishesNamed", "I", false)
def tyX1 : Nat → FieldType := fun k => match k with
  | 0 => .object "WishClerk$Book"
  | 1 => .int
  | 2 => .int
  | 3 => .object "WishClerk$Tape"
  | 4 => .int
  | 5 => .int
  | 6 => .int
  | 7 => .int
  | 8 => .boolean
  | 9 => .int
  | _ => .int
abbrev wsX10 : List Cond := u_ws RX1 TX1 11
theorem nmX1 : ∀ a, a < 11 → ∀ b, b < 11 → a ≠ b → (TX1 a).2.1 ≠ (TX1 b).2.1 := by decide +kernel
theorem tyX1_ok : ∀ k, k < 11 → parseFieldDescriptor (TX1 k).2.2.1 = some (tyX1 k) := by decide +kernel
abbrev cX1_init : ByteArray := prog_3_method_1_code
def yX1_init : MethodName := ⟨RX1, "<init>", "(LWishClerk$Tape;)V"⟩
abbrev cX1_readText : ByteArray := prog_3_method_2_code
def yX1_readText : MethodName := ⟨RX1, "readText", "()I"⟩
abbrev cX1_blame : ByteArray := prog_3_method_3_code
def yX1_blame : MethodName := ⟨RX1, "blame", "(II)Z"⟩
abbrev cX1_nextToken : ByteArray := prog_3_method_4_code
def yX1_nextToken : MethodName := ⟨RX1, "nextToken", "()Z"⟩
abbrev cX1_runEnd : ByteArray := prog_3_method_5_code
def yX1_runEnd : MethodName := ⟨RX1, "runEnd", "(ICC)I"⟩
abbrev cX1_isName : ByteArray := prog_3_method_6_code
def yX1_isName : MethodName := ⟨RX1, "isName", "(Ljava/lang/String;)Z"⟩
abbrev cX1_takeLine : ByteArray := prog_3_method_7_code
def yX1_takeLine : MethodName := ⟨RX1, "takeLine", "()Z"⟩
abbrev cX1_takeOne : ByteArray := prog_3_method_8_code
def yX1_takeOne : MethodName := ⟨RX1, "takeOne", "()Z"⟩
abbrev cX1_takeWish : ByteArray := prog_3_method_9_code
def yX1_takeWish : MethodName := ⟨RX1, "takeWish", "()Z"⟩
abbrev cX1_takeOnes : ByteArray := prog_3_method_10_code
def yX1_takeOnes : MethodName := ⟨RX1, "takeOnes", "(I)Z"⟩
abbrev cX1_takeNeeds : ByteArray := prog_3_method_11_code
def yX1_takeNeeds : MethodName := ⟨RX1, "takeNeeds", "()Z"⟩
abbrev cX1_takeClash : ByteArray := prog_3_method_12_code
def yX1_takeClash : MethodName := ⟨RX1, "takeClash", "()Z"⟩
abbrev cX1_takeListed : ByteArray := prog_3_method_13_code
def yX1_takeListed : MethodName := ⟨RX1, "takeListed", "()Z"⟩
abbrev cX1_takeDepth : ByteArray := prog_3_method_14_code
def yX1_takeDepth : MethodName := ⟨RX1, "takeDepth", "()Z"⟩
abbrev cX1_takePlanned : ByteArray := prog_3_method_15_code
def yX1_takePlanned : MethodName := ⟨RX1, "takePlanned", "()Z"⟩
abbrev cX1_takeNumber : ByteArray := prog_3_method_16_code
def yX1_takeNumber : MethodName := ⟨RX1, "takeNumber", "(IZ)Z"⟩
abbrev cX1_takeStop : ByteArray := prog_3_method_17_code
def yX1_takeStop : MethodName := ⟨RX1, "takeStop", "()Z"⟩
def RX2 : String := "WishClerk$Rows"
def TX2 : u_T := fun k => match k with
  | 0 => ("WishClerk$Rows", "moves", "[I", true)
  | 1 => ("WishClerk$Rows", "alive", "[I", true)
  | 2 => ("WishClerk$Rows", "costs", "[I", true)
  | 3 => ("WishClerk$Rows", "marked", "[Z", true)
  | 4 => ("WishClerk$Rows", "start", "I", false)
  | _ => ("WishClerk$Rows", "states", "I", false)
def tyX2 : Nat → FieldType := fun k => match k with
  | 0 => .array .int
  | 1 => .array .int
  | 2 => .array .int
  | 3 => .array .boolean
  | 4 => .int
  | _ => .int
abbrev wsX20 : List Cond := u_ws RX2 TX2 6
theorem nmX2 : ∀ a, a < 6 → ∀ b, b < 6 → a ≠ b → (TX2 a).2.1 ≠ (TX2 b).2.1 := by decide +kernel
theorem tyX2_ok : ∀ k, k < 6 → parseFieldDescriptor (TX2 k).2.2.1 = some (tyX2 k) := by decide +kernel
abbrev cX2_init : ByteArray := prog_4_method_1_code
def yX2_init : MethodName := ⟨RX2, "<init>", "()V"⟩
abbrev cX2_chart : ByteArray := prog_4_method_2_code
def yX2_chart : MethodName := ⟨RX2, "chart", "(LWishClerk$Book;I)V"⟩
abbrev cX2_grantedAt : ByteArray := prog_4_method_3_code
def yX2_grantedAt : MethodName := ⟨RX2, "grantedAt", "(LWishClerk$Book;II)I"⟩
abbrev cX2_bringToLife : ByteArray := prog_4_method_4_code
def yX2_bringToLife : MethodName := ⟨RX2, "bringToLife", "(LWishClerk$Book;I)V"⟩
abbrev cX2_markNext : ByteArray := prog_4_method_5_code
def yX2_markNext : MethodName := ⟨RX2, "markNext", "(LWishClerk$Book;II)V"⟩
abbrev cX2_leadTo : ByteArray := prog_4_method_6_code
def yX2_leadTo : MethodName := ⟨RX2, "leadTo", "(LWishClerk$Book;II)Z"⟩
abbrev cX2_everAlive : ByteArray := prog_4_method_7_code
def yX2_everAlive : MethodName := ⟨RX2, "everAlive", "()I"⟩
abbrev cX2_leastCost : ByteArray := prog_4_method_8_code
def yX2_leastCost : MethodName := ⟨RX2, "leastCost", "(LWishClerk$Book;IZ)I"⟩
abbrev cX2_costOfNext : ByteArray := prog_4_method_9_code
def yX2_costOfNext : MethodName := ⟨RX2, "costOfNext", "(LWishClerk$Book;IZ)I"⟩
abbrev cX2_wishOfRow : ByteArray := prog_4_method_10_code
def yX2_wishOfRow : MethodName := ⟨RX2, "wishOfRow", "(LWishClerk$Book;I)I"⟩
abbrev cX2_firstWish : ByteArray := prog_4_method_11_code
def yX2_firstWish : MethodName := ⟨RX2, "firstWish", "(LWishClerk$Book;I)I"⟩
def RX3 : String := "WishClerk$Sheet"
def TX3 : u_T := fun k => match k with
  | 0 => ("WishClerk$Sheet", "cells", "[I", true)
  | 1 => ("WishClerk$Sheet", "lane", "I", false)
  | _ => ("WishClerk$Sheet", "size", "I", false)
def tyX3 : Nat → FieldType := fun k => match k with
  | 0 => .array .int
  | 1 => .int
  | _ => .int
abbrev wsX30 : List Cond := u_ws RX3 TX3 3
theorem nmX3 : ∀ a, a < 3 → ∀ b, b < 3 → a ≠ b → (TX3 a).2.1 ≠ (TX3 b).2.1 := by decide +kernel
theorem tyX3_ok : ∀ k, k < 3 → parseFieldDescriptor (TX3 k).2.2.1 = some (tyX3 k) := by decide +kernel
abbrev cX3_init : ByteArray := prog_5_method_1_code
def yX3_init : MethodName := ⟨RX3, "<init>", "()V"⟩
abbrev cX3_isNothing : ByteArray := prog_5_method_2_code
def yX3_isNothing : MethodName := ⟨RX3, "isNothing", "()Z"⟩
abbrev cX3_makeNew : ByteArray := prog_5_method_3_code
def yX3_makeNew : MethodName := ⟨RX3, "makeNew", "(II)V"⟩
abbrev cX3_faultAt : ByteArray := prog_5_method_4_code
def yX3_faultAt : MethodName := ⟨RX3, "faultAt", "(II)I"⟩
abbrev cX3_write : ByteArray := prog_5_method_5_code
def yX3_write : MethodName := ⟨RX3, "write", "(II)V"⟩
def RX4 : String := "WishClerk$Tape"
def TX4 : u_T := fun k => match k with
  | 0 => ("WishClerk$Tape", "bytes", "[B", true)
  | _ => ("WishClerk$Tape", "length", "I", false)
def tyX4 : Nat → FieldType := fun k => match k with
  | 0 => .array .byte
  | _ => .int
abbrev wsX40 : List Cond := u_ws RX4 TX4 2
theorem nmX4 : ∀ a, a < 2 → ∀ b, b < 2 → a ≠ b → (TX4 a).2.1 ≠ (TX4 b).2.1 := by decide +kernel
theorem tyX4_ok : ∀ k, k < 2 → parseFieldDescriptor (TX4 k).2.2.1 = some (tyX4 k) := by decide +kernel
abbrev cX4_init : ByteArray := prog_6_method_1_code
def yX4_init : MethodName := ⟨RX4, "<init>", "()V"⟩
def RX5 : String := "WishClerk"
def TX5 : u_T := fun k => match k with
  | 0 => ("WishClerk", "tape", "LWishClerk$Tape;", true)
  | 1 => ("WishClerk", "reader", "LWishClerk$Reader;", true)
  | 2 => ("WishClerk", "rows", "LWishClerk$Rows;", true)
  | 3 => ("WishClerk", "images", "[LWishClerk$Book;", true)
  | 4 => ("WishClerk", "sheets", "[LWishClerk$Sheet;", true)
  | 5 => ("WishClerk", "dates", "[I", true)
  | 6 => ("WishClerk", "book", "LWishClerk$Book;", false)
  | 7 => ("WishClerk", "kept", "I", false)
  | 8 => ("WishClerk", "textFault", "I", false)
  | _ => ("WishClerk", "readFault", "I", false)
def tyX5 : Nat → FieldType := fun k => match k with
  | 0 => .object "WishClerk$Tape"
  | 1 => .object "WishClerk$Reader"
  | 2 => .object "WishClerk$Rows"
  | 3 => .array (.object "WishClerk$Book")
  | 4 => .array (.object "WishClerk$Sheet")
  | 5 => .array .int
  | 6 => .object "WishClerk$Book"
  | 7 => .int
  | 8 => .int
  | _ => .int
abbrev wsX50 : List Cond := u_ws RX5 TX5 10
theorem nmX5 : ∀ a, a < 10 → ∀ b, b < 10 → a ≠ b → (TX5 a).2.1 ≠ (TX5 b).2.1 := by decide +kernel
theorem tyX5_ok : ∀ k, k < 10 → parseFieldDescriptor (TX5 k).2.2.1 = some (tyX5 k) := by decide +kernel
abbrev cX5_init : ByteArray := prog_1_method_1_code
def yX5_init : MethodName := ⟨RX5, "<init>", "()V"⟩
abbrev cX5_feed : ByteArray := prog_1_method_2_code
def yX5_feed : MethodName := ⟨RX5, "feed", "(I)I"⟩
abbrev cX5_end : ByteArray := prog_1_method_3_code
def yX5_end : MethodName := ⟨RX5, "end", "(I)I"⟩
abbrev cX5_text : ByteArray := prog_1_method_4_code
def yX5_text : MethodName := ⟨RX5, "text", "()I"⟩
abbrev cX5_fault : ByteArray := prog_1_method_5_code
def yX5_fault : MethodName := ⟨RX5, "fault", "()I"⟩
abbrev cX5_rule : ByteArray := prog_1_method_6_code
def yX5_rule : MethodName := ⟨RX5, "rule", "(I)I"⟩
abbrev cX5_wish : ByteArray := prog_1_method_7_code
def yX5_wish : MethodName := ⟨RX5, "wish", "(II)I"⟩
abbrev cX5_plan : ByteArray := prog_1_method_8_code
def yX5_plan : MethodName := ⟨RX5, "plan", "(I)I"⟩
abbrev cX5_live : ByteArray := prog_1_method_9_code
def yX5_live : MethodName := ⟨RX5, "live", "(IZ)I"⟩
abbrev cX5_bar : ByteArray := prog_1_method_10_code
def yX5_bar : MethodName := ⟨RX5, "bar", "(IZ)I"⟩
abbrev cX5_list : ByteArray := prog_1_method_11_code
def yX5_list : MethodName := ⟨RX5, "list", "(IZ)I"⟩
abbrev cX5_depth : ByteArray := prog_1_method_12_code
def yX5_depth : MethodName := ⟨RX5, "depth", "(I)I"⟩
abbrev cX5_asks : ByteArray := prog_1_method_13_code
def yX5_asks : MethodName := ⟨RX5, "asks", "(IIZ)I"⟩
abbrev cX5_needs : ByteArray := prog_1_method_14_code
def yX5_needs : MethodName := ⟨RX5, "needs", "(IIZ)I"⟩
abbrev cX5_clash : ByteArray := prog_1_method_15_code
def yX5_clash : MethodName := ⟨RX5, "clash", "(IIZ)I"⟩
abbrev cX5_plans : ByteArray := prog_1_method_16_code
def yX5_plans : MethodName := ⟨RX5, "plans", "(I)I"⟩
abbrev cX5_cut : ByteArray := prog_1_method_17_code
def yX5_cut : MethodName := ⟨RX5, "cut", "(I)I"⟩
abbrev cX5_looks : ByteArray := prog_1_method_18_code
def yX5_looks : MethodName := ⟨RX5, "looks", "(I)I"⟩
abbrev cX5_refuses : ByteArray := prog_1_method_19_code
def yX5_refuses : MethodName := ⟨RX5, "refuses", "(I)I"⟩
abbrev cX5_ask : ByteArray := prog_1_method_20_code
def yX5_ask : MethodName := ⟨RX5, "ask", "(I)I"⟩
abbrev cX5_take : ByteArray := prog_1_method_21_code
def yX5_take : MethodName := ⟨RX5, "take", "(I)I"⟩
abbrev cX5_clashes : ByteArray := prog_1_method_22_code
def yX5_clashes : MethodName := ⟨RX5, "clashes", "()I"⟩
abbrev cX5_broken : ByteArray := prog_1_method_23_code
def yX5_broken : MethodName := ⟨RX5, "broken", "()I"⟩
abbrev cX5_row : ByteArray := prog_1_method_24_code
def yX5_row : MethodName := ⟨RX5, "row", "(II)I"⟩
abbrev cX5_cheap : ByteArray := prog_1_method_25_code
def yX5_cheap : MethodName := ⟨RX5, "cheap", "(I)I"⟩
abbrev cX5_deep : ByteArray := prog_1_method_26_code
def yX5_deep : MethodName := ⟨RX5, "deep", "(I)I"⟩
abbrev cX5_fewest : ByteArray := prog_1_method_27_code
def yX5_fewest : MethodName := ⟨RX5, "fewest", "(II)I"⟩
abbrev cX5_all : ByteArray := prog_1_method_28_code
def yX5_all : MethodName := ⟨RX5, "all", "()I"⟩
abbrev cX5_leastStruck : ByteArray := prog_1_method_29_code
def yX5_leastStruck : MethodName := ⟨RX5, "leastStruck", "(I)I"⟩
abbrev cX5_sizeOrSet : ByteArray := prog_1_method_30_code
def yX5_sizeOrSet : MethodName := ⟨RX5, "sizeOrSet", "(II)I"⟩
abbrev cX5_set : ByteArray := prog_1_method_31_code
def yX5_set : MethodName := ⟨RX5, "set", "(I)I"⟩
abbrev cX5_rid : ByteArray := prog_1_method_32_code
def yX5_rid : MethodName := ⟨RX5, "rid", "(I)I"⟩
abbrev cX5_leastClashing : ByteArray := prog_1_method_33_code
def yX5_leastClashing : MethodName := ⟨RX5, "leastClashing", "()I"⟩
abbrev cX5_leastTaken : ByteArray := prog_1_method_34_code
def yX5_leastTaken : MethodName := ⟨RX5, "leastTaken", "()I"⟩
abbrev cX5_date : ByteArray := prog_1_method_35_code
def yX5_date : MethodName := ⟨RX5, "date", "(I)I"⟩
abbrev cX5_latest : ByteArray := prog_1_method_36_code
def yX5_latest : MethodName := ⟨RX5, "latest", "(I)I"⟩
abbrev cX5_see : ByteArray := prog_1_method_37_code
def yX5_see : MethodName := ⟨RX5, "see", "(IZ)I"⟩
abbrev cX5_forget : ByteArray := prog_1_method_38_code
def yX5_forget : MethodName := ⟨RX5, "forget", "(I)I"⟩
abbrev cX5_fits : ByteArray := prog_1_method_39_code
def yX5_fits : MethodName := ⟨RX5, "fits", "(I)I"⟩
abbrev cX5_odds : ByteArray := prog_1_method_40_code
def yX5_odds : MethodName := ⟨RX5, "odds", "(III)J"⟩
abbrev cX5_weightOf : ByteArray := prog_1_method_41_code
def yX5_weightOf : MethodName := ⟨RX5, "weightOf", "(II)J"⟩
abbrev cX5_aliveAfterPlan : ByteArray := prog_1_method_42_code
def yX5_aliveAfterPlan : MethodName := ⟨RX5, "aliveAfterPlan", "(I)I"⟩
abbrev cX5_greatestDivisor : ByteArray := prog_1_method_43_code
def yX5_greatestDivisor : MethodName := ⟨RX5, "greatestDivisor", "(JJ)J"⟩
abbrev cX5_wild : ByteArray := prog_1_method_44_code
def yX5_wild : MethodName := ⟨RX5, "wild", "(III)I"⟩
abbrev cX5_keep : ByteArray := prog_1_method_45_code
def yX5_keep : MethodName := ⟨RX5, "keep", "(I)I"⟩
abbrev cX5_back : ByteArray := prog_1_method_46_code
def yX5_back : MethodName := ⟨RX5, "back", "(I)I"⟩
abbrev cX5_sheet : ByteArray := prog_1_method_47_code
def yX5_sheet : MethodName := ⟨RX5, "sheet", "(III)I"⟩
abbrev cX5_lay : ByteArray := prog_1_method_48_code
def yX5_lay : MethodName := ⟨RX5, "lay", "(III)I"⟩
abbrev cX5_read : ByteArray := prog_1_method_49_code
def yX5_read : MethodName := ⟨RX5, "read", "(IIII)I"⟩
abbrev cX5_torn : ByteArray := prog_1_method_50_code
def yX5_torn : MethodName := ⟨RX5, "torn", "()I"⟩
abbrev cX5_count : ByteArray := prog_1_method_51_code
def yX5_count : MethodName := ⟨RX5, "count", "(I)I"⟩
abbrev cX5_hasBit : ByteArray := prog_1_method_52_code
def yX5_hasBit : MethodName := ⟨RX5, "hasBit", "(II)Z"⟩
abbrev cX5_bitOf : ByteArray := prog_1_method_53_code
def yX5_bitOf : MethodName := ⟨RX5, "bitOf", "(II)I"⟩
abbrev cX5_withBit : ByteArray := prog_1_method_54_code
def yX5_withBit : MethodName := ⟨RX5, "withBit", "(IIZ)I"⟩
def RX6 : String := "WishClerkModel"
def TX6 : u_T := fun k => match k with
  | 0 => ("WishClerkModel", "st", "[I", true)
  | 1 => ("WishClerkModel", "isKept", "[Z", true)
  | 2 => ("WishClerkModel", "people", "I", false)
  | 3 => ("WishClerkModel", "wishes", "I", false)
  | 4 => ("WishClerkModel", "years", "[I", true)
  | 5 => ("WishClerkModel", "prices", "[I", true)
  | 6 => ("WishClerkModel", "draft", "[I", true)
  | 7 => ("WishClerkModel", "dPeople", "I", false)
  | 8 => ("WishClerkModel", "dWishes", "I", false)
  | 9 => ("WishClerkModel", "dYears", "[I", true)
  | 10 => ("WishClerkModel", "dPrices", "[I", true)
  | 11 => ("WishClerkModel", "hasDepth", "Z", false)
  | 12 => ("WishClerkModel", "highestOne", "I", false)
  | 13 => ("WishClerkModel", "highestWish", "I", false)
  | 14 => ("WishClerkModel", "tape", "[I", true)
  | 15 => ("WishClerkModel", "taped", "I", false)
  | 16 => ("WishClerkModel", "pos", "I", false)
  | 17 => ("WishClerkModel", "from", "I", false)
  | 18 => ("WishClerkModel", "sort", "I", false)
  | 19 => ("WishClerkModel", "value", "I", false)
  | 20 => ("WishClerkModel", "fault", "I", false)
  | 21 => ("WishClerkModel", "wrongAt", "I", false)
  | 22 => ("WishClerkModel", "cost", "[I", true)
  | 23 => ("WishClerkModel", "before", "[I", true)
  | 24 => ("WishClerkModel", "by", "[I", true)
  | 25 => ("WishClerkModel", "line", "[I", true)
  | 26 => ("WishClerkModel", "dates", "[I", true)
  | 27 => ("WishClerkModel", "lanes", "[I", true)
  | 28 => ("WishClerkModel", "sizes", "[I", true)
  | 29 => ("WishClerkModel", "cells", "[I", true)
  | _ => ("WishClerkModel", "torn", "I", false)
def tyX6 : Nat → FieldType := fun k => match k with
  | 0 => .array .int
  | 1 => .array .boolean
  | 2 => .int
  | 3 => .int
  | 4 => .array .int
  | 5 => .array .int
  | 6 => .array .int
  | 7 => .int
  | 8 => .int
  | 9 => .array .int
  | 10 => .array .int
  | 11 => .boolean
  | 12 => .int
  | 13 => .int
  | 14 => .array .int
  | 15 => .int
  | 16 => .int
  | 17 => .int
  | 18 => .int
  | 19 => .int
  | 20 => .int
  | 21 => .int
  | 22 => .array .int
  | 23 => .array .int
  | 24 => .array .int
  | 25 => .array .int
  | 26 => .array .int
  | 27 => .array .int
  | 28 => .array .int
  | 29 => .array .int
  | _ => .int
abbrev wsX60 : List Cond := u_ws RX6 TX6 31
theorem nmX6 : ∀ a, a < 31 → ∀ b, b < 31 → a ≠ b → (TX6 a).2.1 ≠ (TX6 b).2.1 := by decide +kernel
theorem tyX6_ok : ∀ k, k < 31 → parseFieldDescriptor (TX6 k).2.2.1 = some (tyX6 k) := by decide +kernel
abbrev cX6_init : ByteArray := prog_8_method_1_code
def yX6_init : MethodName := ⟨RX6, "<init>", "()V"⟩
abbrev cX6_in : ByteArray := prog_8_method_3_code
def yX6_in : MethodName := ⟨RX6, "in", "(JJJ)Z"⟩
abbrev cX6_flag : ByteArray := prog_8_method_4_code
def yX6_flag : MethodName := ⟨RX6, "flag", "(Z)I"⟩
abbrev cX6_firstDraft : ByteArray := prog_8_method_5_code
def yX6_firstDraft : MethodName := ⟨RX6, "firstDraft", "()V"⟩
abbrev cX6_keepDraft : ByteArray := prog_8_method_6_code
def yX6_keepDraft : MethodName := ⟨RX6, "keepDraft", "()V"⟩
abbrev cX6_feed : ByteArray := prog_8_method_7_code
def yX6_feed : MethodName := ⟨RX6, "feed", "(I)I"⟩
abbrev cX6_end : ByteArray := prog_8_method_8_code
def yX6_end : MethodName := ⟨RX6, "end", "(I)I"⟩
abbrev cX6_must : ByteArray := prog_8_method_9_code
def yX6_must : MethodName := ⟨RX6, "must", "(ZI)V"⟩
abbrev cX6_look : ByteArray := prog_8_method_10_code
def yX6_look : MethodName := ⟨RX6, "look", "(I)I"⟩
abbrev cX6_is : ByteArray := prog_8_method_11_code
def yX6_is : MethodName := ⟨RX6, "is", "(IIII)Z"⟩
abbrev cX6_ends : ByteArray := prog_8_method_12_code
def yX6_ends : MethodName := ⟨RX6, "ends", "(III)Z"⟩
abbrev cX6_lineNow : ByteArray := prog_8_method_13_code
def yX6_lineNow : MethodName := ⟨RX6, "lineNow", "()I"⟩
abbrev cX6_kindNow : ByteArray := prog_8_method_14_code
def yX6_kindNow : MethodName := ⟨RX6, "kindNow", "()I"⟩
abbrev cX6_next : ByteArray := prog_8_method_15_code
def yX6_next : MethodName := ⟨RX6, "next", "()V"⟩
abbrev cX6_looked : ByteArray := prog_8_method_16_code
def yX6_looked : MethodName := ⟨RX6, "looked", "(II)I"⟩
abbrev cX6_readNumber : ByteArray := prog_8_method_17_code
def yX6_readNumber : MethodName := ⟨RX6, "readNumber", "(II)I"⟩
abbrev cX6_readWishBut : ByteArray := prog_8_method_18_code
def yX6_readWishBut : MethodName := ⟨RX6, "readWishBut", "(I)I"⟩
abbrev cX6_readOne : ByteArray := prog_8_method_19_code
def yX6_readOne : MethodName := ⟨RX6, "readOne", "()V"⟩
abbrev cX6_readWish : ByteArray := prog_8_method_20_code
def yX6_readWish : MethodName := ⟨RX6, "readWish", "()V"⟩
abbrev cX6_readNeeds : ByteArray := prog_8_method_21_code
def yX6_readNeeds : MethodName := ⟨RX6, "readNeeds", "()V"⟩
abbrev cX6_readClash : ByteArray := prog_8_method_22_code
def yX6_readClash : MethodName := ⟨RX6, "readClash", "()V"⟩
abbrev cX6_readLineOf : ByteArray := prog_8_method_23_code
def yX6_readLineOf : MethodName := ⟨RX6, "readLineOf", "(I)V"⟩
abbrev cX6_readLine : ByteArray := prog_8_method_24_code
def yX6_readLine : MethodName := ⟨RX6, "readLine", "()V"⟩
abbrev cX6_text : ByteArray := prog_8_method_25_code
def yX6_text : MethodName := ⟨RX6, "text", "()I"⟩
abbrev cX6_fault : ByteArray := prog_8_method_26_code
def yX6_fault : MethodName := ⟨RX6, "fault", "()I"⟩
abbrev cX6_isOne : ByteArray := prog_8_method_27_code
def yX6_isOne : MethodName := ⟨RX6, "isOne", "(I)Z"⟩
abbrev cX6_isWish : ByteArray := prog_8_method_28_code
def yX6_isWish : MethodName := ⟨RX6, "isWish", "(I)Z"⟩
abbrev cX6_bitsOf : ByteArray := prog_8_method_29_code
def yX6_bitsOf : MethodName := ⟨RX6, "bitsOf", "(I)I"⟩
abbrev cX6_allOf : ByteArray := prog_8_method_30_code
def yX6_allOf : MethodName := ⟨RX6, "allOf", "(II)I"⟩
abbrev cX6_follow : ByteArray := prog_8_method_31_code
def yX6_follow : MethodName := ⟨RX6, "follow", "(I)I"⟩
abbrev cX6_rule : ByteArray := prog_8_method_32_code
def yX6_rule : MethodName := ⟨RX6, "rule", "(I)I"⟩
abbrev cX6_wish : ByteArray := prog_8_method_33_code
def yX6_wish : MethodName := ⟨RX6, "wish", "(II)I"⟩
abbrev cX6_plan : ByteArray := prog_8_method_34_code
def yX6_plan : MethodName := ⟨RX6, "plan", "(I)I"⟩
abbrev cX6_becomesBit : ByteArray := prog_8_method_35_code
def yX6_becomesBit : MethodName := ⟨RX6, "becomesBit", "(IIZ)I"⟩
abbrev cX6_becomes : ByteArray := prog_8_method_36_code
def yX6_becomes : MethodName := ⟨RX6, "becomes", "(II)I"⟩
abbrev cX6_live : ByteArray := prog_8_method_37_code
def yX6_live : MethodName := ⟨RX6, "live", "(IZ)I"⟩
abbrev cX6_bar : ByteArray := prog_8_method_38_code
def yX6_bar : MethodName := ⟨RX6, "bar", "(IZ)I"⟩
abbrev cX6_list : ByteArray := prog_8_method_39_code
def yX6_list : MethodName := ⟨RX6, "list", "(IZ)I"⟩
abbrev cX6_depth : ByteArray := prog_8_method_40_code
def yX6_depth : MethodName := ⟨RX6, "depth", "(I)I"⟩
abbrev cX6_asks : ByteArray := prog_8_method_41_code
def yX6_asks : MethodName := ⟨RX6, "asks", "(IIZ)I"⟩
abbrev cX6_needs : ByteArray := prog_8_method_42_code
def yX6_needs : MethodName := ⟨RX6, "needs", "(IIZ)I"⟩
abbrev cX6_clash : ByteArray := prog_8_method_43_code
def yX6_clash : MethodName := ⟨RX6, "clash", "(IIZ)I"⟩
abbrev cX6_plans : ByteArray := prog_8_method_44_code
def yX6_plans : MethodName := ⟨RX6, "plans", "(I)I"⟩
abbrev cX6_cut : ByteArray := prog_8_method_45_code
def yX6_cut : MethodName := ⟨RX6, "cut", "(I)I"⟩
abbrev cX6_looksAt : ByteArray := prog_8_method_46_code
def yX6_looksAt : MethodName := ⟨RX6, "looksAt", "(III)I"⟩
abbrev cX6_doClash : ByteArray := prog_8_method_47_code
def yX6_doClash : MethodName := ⟨RX6, "doClash", "(II)Z"⟩
abbrev cX6_refusal : ByteArray := prog_8_method_48_code
def yX6_refusal : MethodName := ⟨RX6, "refusal", "(IIIII)I"⟩
abbrev cX6_looks : ByteArray := prog_8_method_49_code
def yX6_looks : MethodName := ⟨RX6, "looks", "(I)I"⟩
abbrev cX6_refuses : ByteArray := prog_8_method_50_code
def yX6_refuses : MethodName := ⟨RX6, "refuses", "(I)I"⟩
abbrev cX6_ask : ByteArray := prog_8_method_51_code
def yX6_ask : MethodName := ⟨RX6, "ask", "(I)I"⟩
abbrev cX6_takenBy : ByteArray := prog_8_method_52_code
def yX6_takenBy : MethodName := ⟨RX6, "takenBy", "(II)I"⟩
abbrev cX6_take : ByteArray := prog_8_method_53_code
def yX6_take : MethodName := ⟨RX6, "take", "(I)I"⟩
abbrev cX6_clashes : ByteArray := prog_8_method_54_code
def yX6_clashes : MethodName := ⟨RX6, "clashes", "()I"⟩
abbrev cX6_broken : ByteArray := prog_8_method_55_code
def yX6_broken : MethodName := ⟨RX6, "broken", "()I"⟩
abbrev cX6_livingBy : ByteArray := prog_8_method_56_code
def yX6_livingBy : MethodName := ⟨RX6, "livingBy", "(I)I"⟩
abbrev cX6_askedBy : ByteArray := prog_8_method_57_code
def yX6_askedBy : MethodName := ⟨RX6, "askedBy", "(IIII)I"⟩
abbrev cX6_findRow : ByteArray := prog_8_method_58_code
def yX6_findRow : MethodName := ⟨RX6, "findRow", "(I)I"⟩
abbrev cX6_row : ByteArray := prog_8_method_59_code
def yX6_row : MethodName := ⟨RX6, "row", "(II)I"⟩
abbrev cX6_findCosts : ByteArray := prog_8_method_60_code
def yX6_findCosts : MethodName := ⟨RX6, "findCosts", "(II)V"⟩
abbrev cX6_cheapOf : ByteArray := prog_8_method_61_code
def yX6_cheapOf : MethodName := ⟨RX6, "cheapOf", "(III)I"⟩
abbrev cX6_cheap : ByteArray := prog_8_method_62_code
def yX6_cheap : MethodName := ⟨RX6, "cheap", "(I)I"⟩
abbrev cX6_deep : ByteArray := prog_8_method_63_code
def yX6_deep : MethodName := ⟨RX6, "deep", "(I)I"⟩
abbrev cX6_fewest : ByteArray := prog_8_method_64_code
def yX6_fewest : MethodName := ⟨RX6, "fewest", "(II)I"⟩
abbrev cX6_all : ByteArray := prog_8_method_65_code
def yX6_all : MethodName := ⟨RX6, "all", "()I"⟩
abbrev cX6_set : ByteArray := prog_8_method_66_code
def yX6_set : MethodName := ⟨RX6, "set", "(I)I"⟩
abbrev cX6_rid : ByteArray := prog_8_method_67_code
def yX6_rid : MethodName := ⟨RX6, "rid", "(I)I"⟩
abbrev cX6_goesRound : ByteArray := prog_8_method_68_code
def yX6_goesRound : MethodName := ⟨RX6, "goesRound", "(I)Z"⟩
abbrev cX6_date : ByteArray := prog_8_method_69_code
def yX6_date : MethodName := ⟨RX6, "date", "(I)I"⟩
abbrev cX6_see : ByteArray := prog_8_method_70_code
def yX6_see : MethodName := ⟨RX6, "see", "(IZ)I"⟩
abbrev cX6_forget : ByteArray := prog_8_method_71_code
def yX6_forget : MethodName := ⟨RX6, "forget", "(I)I"⟩
abbrev cX6_isSo : ByteArray := prog_8_method_72_code
def yX6_isSo : MethodName := ⟨RX6, "isSo", "(I)Z"⟩
abbrev cX6_fits : ByteArray := prog_8_method_73_code
def yX6_fits : MethodName := ⟨RX6, "fits", "(I)I"⟩
abbrev cX6_common : ByteArray := prog_8_method_74_code
def yX6_common : MethodName := ⟨RX6, "common", "(JJ)J"⟩
abbrev cX6_odds : ByteArray := prog_8_method_75_code
def yX6_odds : MethodName := ⟨RX6, "odds", "(III)J"⟩
abbrev cX6_wild : ByteArray := prog_8_method_76_code
def yX6_wild : MethodName := ⟨RX6, "wild", "(III)I"⟩
abbrev cX6_copies : ByteArray := prog_8_method_77_code
def yX6_copies : MethodName := ⟨RX6, "copies", "(II)V"⟩
abbrev cX6_keep : ByteArray := prog_8_method_78_code
def yX6_keep : MethodName := ⟨RX6, "keep", "(I)I"⟩
abbrev cX6_back : ByteArray := prog_8_method_79_code
def yX6_back : MethodName := ⟨RX6, "back", "(I)I"⟩
abbrev cX6_isSheet : ByteArray := prog_8_method_80_code
def yX6_isSheet : MethodName := ⟨RX6, "isSheet", "(II)Z"⟩
abbrev cX6_sheet : ByteArray := prog_8_method_81_code
def yX6_sheet : MethodName := ⟨RX6, "sheet", "(III)I"⟩
abbrev cX6_lay : ByteArray := prog_8_method_82_code
def yX6_lay : MethodName := ⟨RX6, "lay", "(III)I"⟩
abbrev cX6_read : ByteArray := prog_8_method_83_code
def yX6_read : MethodName := ⟨RX6, "read", "(IIII)I"⟩
abbrev cX6_torn : ByteArray := prog_8_method_84_code
def yX6_torn : MethodName := ⟨RX6, "torn", "()I"⟩
abbrev cX6_count : ByteArray := prog_8_method_85_code
def yX6_count : MethodName := ⟨RX6, "count", "(I)I"⟩
def RJ6 : String := "java/lang/Integer"
def TJ6 : u_T := fun k => match k with
  | _ => ("", "", "", false)
def tyJ6 : Nat → FieldType := fun k => match k with
  | _ => .int
abbrev cJ6_bitCount_0f7a4 : ByteArray := prog_9_method_49_code
def yJ6_bitCount_0f7a4 : MethodName := ⟨RJ6, "bitCount", "(I)I"⟩
def RJ9 : String := "java/lang/Math"
def TJ9 : u_T := fun k => match k with
  | _ => ("", "", "", false)
def tyJ9 : Nat → FieldType := fun k => match k with
  | _ => .int
abbrev cJ9_max_7cf53 : ByteArray := prog_10_method_65_code
def yJ9_max_7cf53 : MethodName := ⟨RJ9, "max", "(II)I"⟩
abbrev cJ9_min_7cf53 : ByteArray := prog_10_method_69_code
def yJ9_min_7cf53 : MethodName := ⟨RJ9, "min", "(II)I"⟩
def RJ0 : String := "java/lang/String"
def TJ0 : u_T := fun k => match k with
  | _ => ("", "", "", false)
def tyJ0 : Nat → FieldType := fun k => match k with
  | _ => .int
abbrev cJ0_length_8abf5 : ByteArray := prog_11_method_54_code
def yJ0_length_8abf5 : MethodName := ⟨RJ0, "length", "()I"⟩
abbrev cJ0_charAt_5068e : ByteArray := prog_11_method_56_code
def yJ0_charAt_5068e : MethodName := ⟨RJ0, "charAt", "(I)C"⟩
abbrev cJ0_coder_7d493 : ByteArray := prog_11_method_152_code
def yJ0_coder_7d493 : MethodName := ⟨RJ0, "coder", "()B"⟩
abbrev cJ0_isLatin1_aae02 : ByteArray := prog_11_method_154_code
def yJ0_isLatin1_aae02 : MethodName := ⟨RJ0, "isLatin1", "()Z"⟩
abbrev cJ0_checkIndex_df160 : ByteArray := prog_11_method_155_code
def yJ0_checkIndex_df160 : MethodName := ⟨RJ0, "checkIndex", "(II)V"⟩
def RJ1 : String := "java/lang/StringLatin1"
def TJ1 : u_T := fun k => match k with
  | _ => ("", "", "", false)
def tyJ1 : Nat → FieldType := fun k => match k with
  | _ => .int
abbrev cJ1_charAt_3b067 : ByteArray := prog_12_method_2_code
def yJ1_charAt_3b067 : MethodName := ⟨RJ1, "charAt", "([BI)C"⟩
def RJ2 : String := "java/lang/StringUTF16"
def TJ2 : u_T := fun k => match k with
  | _ => ("", "", "", false)
def tyJ2 : Nat → FieldType := fun k => match k with
  | _ => .int
abbrev cJ2_getChar_3b067 : ByteArray := prog_13_method_5_code
def yJ2_getChar_3b067 : MethodName := ⟨RJ2, "getChar", "([BI)C"⟩
abbrev cJ2_length_9d52b : ByteArray := prog_13_method_6_code
def yJ2_length_9d52b : MethodName := ⟨RJ2, "length", "([B)I"⟩
abbrev cJ2_charAt_3b067 : ByteArray := prog_13_method_83_code
def yJ2_charAt_3b067 : MethodName := ⟨RJ2, "charAt", "([BI)C"⟩
abbrev cJ2_checkIndex_2214a : ByteArray := prog_13_method_91_code
def yJ2_checkIndex_2214a : MethodName := ⟨RJ2, "checkIndex", "(I[B)V"⟩
def RJ10 : String := "java/lang/System"
def TJ10 : u_T := fun k => match k with
  | _ => ("", "", "", false)
def tyJ10 : Nat → FieldType := fun k => match k with
  | _ => .int
def RJ3 : String := "jdk/internal/util/Preconditions"
def TJ3 : u_T := fun k => match k with
  | _ => ("", "", "", false)
def tyJ3 : Nat → FieldType := fun k => match k with
  | _ => .int
abbrev cJ3_checkIndex_8e157 : ByteArray := prog_15_method_11_code
def yJ3_checkIndex_8e157 : MethodName := ⟨RJ3, "checkIndex", "(IILjava/util/function/BiFunction;)I"⟩
def RL : String := "WishClerkLaw"
abbrev cL_law : ByteArray := code
def yL_law : MethodName := ⟨RL, "law", "([I)Z"⟩
abbrev vwCl : List vw_C := [(RX0, TX0, 19), (RX1, TX1, 11), (RX2, TX2, 6), (RX3, TX3, 3), (RX4, TX4, 2), (RX5, TX5, 10), (RX6, TX6, 31)]
theorem inX0 : ∀ w ∈ wsX00, w ∈ lw_tbl := by decide +kernel
theorem inX1 : ∀ w ∈ wsX10, w ∈ lw_tbl := by decide +kernel
theorem inX2 : ∀ w ∈ wsX20, w ∈ lw_tbl := by decide +kernel
theorem inX3 : ∀ w ∈ wsX30, w ∈ lw_tbl := by decide +kernel
theorem inX4 : ∀ w ∈ wsX40, w ∈ lw_tbl := by decide +kernel
theorem inX5 : ∀ w ∈ wsX50, w ∈ lw_tbl := by decide +kernel
theorem inX6 : ∀ w ∈ wsX60, w ∈ lw_tbl := by decide +kernel
