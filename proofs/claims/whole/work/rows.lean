section
-- ===== PART A: goes FIRST, ahead of the names: the tables' words, and 'selects' of the private methods out of them =====
/-- a private method of a class that the tables say can be made, by its rows of tables_1 -/
def lw_okq (q : MethodName × Nat) : Prop := (q.1.cls ≠ "java/lang/invoke/MethodHandle" ∧ q.1.cls ≠ "java/lang/invoke/VarHandle") ∧ Cond.instantiable q.1.cls q.2 ∈ tables_1 ∧ Cond.privateMethod q.1 ∈ tables_1 ∧ Cond.instanceMethod q.1 ∈ tables_1
theorem lw_p0 : lw_okq (⟨"WishClerk$Reader", "nextToken", "()Z"⟩, 11) := ⟨⟨by decide +kernel, by decide +kernel⟩, List.mem_of_getElem? (i := 41) (by decide +kernel), List.mem_of_getElem? (i := 287) (by decide +kernel), List.mem_of_getElem? (i := 288) (by decide +kernel)⟩
theorem lw_p1 : lw_okq (⟨"WishClerk$Reader", "runEnd", "(ICC)I"⟩, 11) := ⟨⟨by decide +kernel, by decide +kernel⟩, List.mem_of_getElem? (i := 41) (by decide +kernel), List.mem_of_getElem? (i := 291) (by decide +kernel), List.mem_of_getElem? (i := 292) (by decide +kernel)⟩
theorem lw_p2 : lw_okq (⟨"WishClerk$Reader", "blame", "(II)Z"⟩, 11) := ⟨⟨by decide +kernel, by decide +kernel⟩, List.mem_of_getElem? (i := 41) (by decide +kernel), List.mem_of_getElem? (i := 295) (by decide +kernel), List.mem_of_getElem? (i := 296) (by decide +kernel)⟩
theorem lw_p3 : lw_okq (⟨"WishClerk$Reader", "takeLine", "()Z"⟩, 11) := ⟨⟨by decide +kernel, by decide +kernel⟩, List.mem_of_getElem? (i := 41) (by decide +kernel), List.mem_of_getElem? (i := 299) (by decide +kernel), List.mem_of_getElem? (i := 300) (by decide +kernel)⟩
theorem lw_p4 : lw_okq (⟨"WishClerk$Reader", "isName", "(Ljava/lang/String;)Z"⟩, 11) := ⟨⟨by decide +kernel, by decide +kernel⟩, List.mem_of_getElem? (i := 41) (by decide +kernel), List.mem_of_getElem? (i := 304) (by decide +kernel), List.mem_of_getElem? (i := 305) (by decide +kernel)⟩
theorem lw_p5 : lw_okq (⟨"WishClerk$Reader", "takeOne", "()Z"⟩, 11) := ⟨⟨by decide +kernel, by decide +kernel⟩, List.mem_of_getElem? (i := 41) (by decide +kernel), List.mem_of_getElem? (i := 356) (by decide +kernel), List.mem_of_getElem? (i := 357) (by decide +kernel)⟩
theorem lw_p6 : lw_okq (⟨"WishClerk$Reader", "takeStop", "()Z"⟩, 11) := ⟨⟨by decide +kernel, by decide +kernel⟩, List.mem_of_getElem? (i := 41) (by decide +kernel), List.mem_of_getElem? (i := 366) (by decide +kernel), List.mem_of_getElem? (i := 367) (by decide +kernel)⟩
theorem lw_p7 : lw_okq (⟨"WishClerk$Reader", "takeWish", "()Z"⟩, 11) := ⟨⟨by decide +kernel, by decide +kernel⟩, List.mem_of_getElem? (i := 41) (by decide +kernel), List.mem_of_getElem? (i := 371) (by decide +kernel), List.mem_of_getElem? (i := 372) (by decide +kernel)⟩
theorem lw_p8 : lw_okq (⟨"WishClerk$Reader", "takeNumber", "(IZ)Z"⟩, 11) := ⟨⟨by decide +kernel, by decide +kernel⟩, List.mem_of_getElem? (i := 41) (by decide +kernel), List.mem_of_getElem? (i := 375) (by decide +kernel), List.mem_of_getElem? (i := 376) (by decide +kernel)⟩
theorem lw_p9 : lw_okq (⟨"WishClerk$Reader", "takeOnes", "(I)Z"⟩, 11) := ⟨⟨by decide +kernel, by decide +kernel⟩, List.mem_of_getElem? (i := 41) (by decide +kernel), List.mem_of_getElem? (i := 379) (by decide +kernel), List.mem_of_getElem? (i := 380) (by decide +kernel)⟩
theorem lw_p10 : lw_okq (⟨"WishClerk$Reader", "takeNeeds", "()Z"⟩, 11) := ⟨⟨by decide +kernel, by decide +kernel⟩, List.mem_of_getElem? (i := 41) (by decide +kernel), List.mem_of_getElem? (i := 387) (by decide +kernel), List.mem_of_getElem? (i := 388) (by decide +kernel)⟩
theorem lw_p11 : lw_okq (⟨"WishClerk$Reader", "takeClash", "()Z"⟩, 11) := ⟨⟨by decide +kernel, by decide +kernel⟩, List.mem_of_getElem? (i := 41) (by decide +kernel), List.mem_of_getElem? (i := 392) (by decide +kernel), List.mem_of_getElem? (i := 393) (by decide +kernel)⟩
theorem lw_p12 : lw_okq (⟨"WishClerk$Reader", "takeListed", "()Z"⟩, 11) := ⟨⟨by decide +kernel, by decide +kernel⟩, List.mem_of_getElem? (i := 41) (by decide +kernel), List.mem_of_getElem? (i := 397) (by decide +kernel), List.mem_of_getElem? (i := 398) (by decide +kernel)⟩
theorem lw_p13 : lw_okq (⟨"WishClerk$Reader", "takeDepth", "()Z"⟩, 11) := ⟨⟨by decide +kernel, by decide +kernel⟩, List.mem_of_getElem? (i := 41) (by decide +kernel), List.mem_of_getElem? (i := 402) (by decide +kernel), List.mem_of_getElem? (i := 403) (by decide +kernel)⟩
theorem lw_p14 : lw_okq (⟨"WishClerk$Reader", "takePlanned", "()Z"⟩, 11) := ⟨⟨by decide +kernel, by decide +kernel⟩, List.mem_of_getElem? (i := 41) (by decide +kernel), List.mem_of_getElem? (i := 407) (by decide +kernel), List.mem_of_getElem? (i := 408) (by decide +kernel)⟩
theorem lw_p15 : lw_okq (⟨"WishClerk$Book", "gather", "([II)I"⟩, 19) := ⟨⟨by decide +kernel, by decide +kernel⟩, List.mem_of_getElem? (i := 47) (by decide +kernel), List.mem_of_getElem? (i := 419) (by decide +kernel), List.mem_of_getElem? (i := 420) (by decide +kernel)⟩
def lw_privs_1 : List (MethodName × Nat) := [(⟨"WishClerk$Reader", "nextToken", "()Z"⟩, 11), (⟨"WishClerk$Reader", "runEnd", "(ICC)I"⟩, 11), (⟨"WishClerk$Reader", "blame", "(II)Z"⟩, 11), (⟨"WishClerk$Reader", "takeLine", "()Z"⟩, 11), (⟨"WishClerk$Reader", "isName", "(Ljava/lang/String;)Z"⟩, 11), (⟨"WishClerk$Reader", "takeOne", "()Z"⟩, 11), (⟨"WishClerk$Reader", "takeStop", "()Z"⟩, 11), (⟨"WishClerk$Reader", "takeWish", "()Z"⟩, 11), (⟨"WishClerk$Reader", "takeNumber", "(IZ)Z"⟩, 11), (⟨"WishClerk$Reader", "takeOnes", "(I)Z"⟩, 11), (⟨"WishClerk$Reader", "takeNeeds", "()Z"⟩, 11), (⟨"WishClerk$Reader", "takeClash", "()Z"⟩, 11), (⟨"WishClerk$Reader", "takeListed", "()Z"⟩, 11), (⟨"WishClerk$Reader", "takeDepth", "()Z"⟩, 11), (⟨"WishClerk$Reader", "takePlanned", "()Z"⟩, 11), (⟨"WishClerk$Book", "gather", "([II)I"⟩, 19)]
theorem lw_r1 : ∀ q ∈ lw_privs_1, lw_okq q := List.forall_mem_cons.mpr ⟨lw_p0, List.forall_mem_cons.mpr ⟨lw_p1, List.forall_mem_cons.mpr ⟨lw_p2, List.forall_mem_cons.mpr ⟨lw_p3, List.forall_mem_cons.mpr ⟨lw_p4, List.forall_mem_cons.mpr ⟨lw_p5, List.forall_mem_cons.mpr ⟨lw_p6, List.forall_mem_cons.mpr ⟨lw_p7, List.forall_mem_cons.mpr ⟨lw_p8, List.forall_mem_cons.mpr ⟨lw_p9, List.forall_mem_cons.mpr ⟨lw_p10, List.forall_mem_cons.mpr ⟨lw_p11, List.forall_mem_cons.mpr ⟨lw_p12, List.forall_mem_cons.mpr ⟨lw_p13, List.forall_mem_cons.mpr ⟨lw_p14, List.forall_mem_cons.mpr ⟨lw_p15, fun _ h => absurd h List.not_mem_nil⟩⟩⟩⟩⟩⟩⟩⟩⟩⟩⟩⟩⟩⟩⟩⟩
theorem lw_p16 : lw_okq (⟨"WishClerk$Rows", "grantedAt", "(LWishClerk$Book;II)I"⟩, 6) := ⟨⟨by decide +kernel, by decide +kernel⟩, List.mem_of_getElem? (i := 187) (by decide +kernel), List.mem_of_getElem? (i := 546) (by decide +kernel), List.mem_of_getElem? (i := 547) (by decide +kernel)⟩
theorem lw_p17 : lw_okq (⟨"WishClerk$Rows", "bringToLife", "(LWishClerk$Book;I)V"⟩, 6) := ⟨⟨by decide +kernel, by decide +kernel⟩, List.mem_of_getElem? (i := 187) (by decide +kernel), List.mem_of_getElem? (i := 552) (by decide +kernel), List.mem_of_getElem? (i := 553) (by decide +kernel)⟩
theorem lw_p18 : lw_okq (⟨"WishClerk$Rows", "markNext", "(LWishClerk$Book;II)V"⟩, 6) := ⟨⟨by decide +kernel, by decide +kernel⟩, List.mem_of_getElem? (i := 187) (by decide +kernel), List.mem_of_getElem? (i := 556) (by decide +kernel), List.mem_of_getElem? (i := 557) (by decide +kernel)⟩
theorem lw_p19 : lw_okq (⟨"WishClerk$Rows", "costOfNext", "(LWishClerk$Book;IZ)I"⟩, 6) := ⟨⟨by decide +kernel, by decide +kernel⟩, List.mem_of_getElem? (i := 187) (by decide +kernel), List.mem_of_getElem? (i := 564) (by decide +kernel), List.mem_of_getElem? (i := 565) (by decide +kernel)⟩
theorem lw_p20 : lw_okq (⟨"WishClerk$Rows", "firstWish", "(LWishClerk$Book;I)I"⟩, 6) := ⟨⟨by decide +kernel, by decide +kernel⟩, List.mem_of_getElem? (i := 187) (by decide +kernel), List.mem_of_getElem? (i := 576) (by decide +kernel), List.mem_of_getElem? (i := 577) (by decide +kernel)⟩
theorem lw_p21 : lw_okq (⟨"WishClerk", "leastStruck", "(I)I"⟩, 10) := ⟨⟨by decide +kernel, by decide +kernel⟩, List.mem_of_getElem? (i := 16) (by decide +kernel), List.mem_of_getElem? (i := 596) (by decide +kernel), List.mem_of_getElem? (i := 597) (by decide +kernel)⟩
theorem lw_p22 : lw_okq (⟨"WishClerk", "leastClashing", "()I"⟩, 10) := ⟨⟨by decide +kernel, by decide +kernel⟩, List.mem_of_getElem? (i := 16) (by decide +kernel), List.mem_of_getElem? (i := 616) (by decide +kernel), List.mem_of_getElem? (i := 617) (by decide +kernel)⟩
theorem lw_p23 : lw_okq (⟨"WishClerk", "leastTaken", "()I"⟩, 10) := ⟨⟨by decide +kernel, by decide +kernel⟩, List.mem_of_getElem? (i := 16) (by decide +kernel), List.mem_of_getElem? (i := 632) (by decide +kernel), List.mem_of_getElem? (i := 633) (by decide +kernel)⟩
theorem lw_p24 : lw_okq (⟨"WishClerk", "latest", "(I)I"⟩, 10) := ⟨⟨by decide +kernel, by decide +kernel⟩, List.mem_of_getElem? (i := 16) (by decide +kernel), List.mem_of_getElem? (i := 645) (by decide +kernel), List.mem_of_getElem? (i := 646) (by decide +kernel)⟩
theorem lw_p25 : lw_okq (⟨"WishClerk", "weightOf", "(II)J"⟩, 10) := ⟨⟨by decide +kernel, by decide +kernel⟩, List.mem_of_getElem? (i := 16) (by decide +kernel), List.mem_of_getElem? (i := 677) (by decide +kernel), List.mem_of_getElem? (i := 678) (by decide +kernel)⟩
theorem lw_p26 : lw_okq (⟨"WishClerk", "aliveAfterPlan", "(I)I"⟩, 10) := ⟨⟨by decide +kernel, by decide +kernel⟩, List.mem_of_getElem? (i := 16) (by decide +kernel), List.mem_of_getElem? (i := 681) (by decide +kernel), List.mem_of_getElem? (i := 682) (by decide +kernel)⟩
theorem lw_p27 : lw_okq (⟨"WishClerkModel", "firstDraft", "()V"⟩, 31) := ⟨⟨by decide +kernel, by decide +kernel⟩, List.mem_of_getElem? (i := 746) (by decide +kernel), List.mem_of_getElem? (i := 752) (by decide +kernel), List.mem_of_getElem? (i := 753) (by decide +kernel)⟩
theorem lw_p28 : lw_okq (⟨"WishClerkModel", "keepDraft", "()V"⟩, 31) := ⟨⟨by decide +kernel, by decide +kernel⟩, List.mem_of_getElem? (i := 746) (by decide +kernel), List.mem_of_getElem? (i := 756) (by decide +kernel), List.mem_of_getElem? (i := 757) (by decide +kernel)⟩
theorem lw_p29 : lw_okq (⟨"WishClerkModel", "next", "()V"⟩, 31) := ⟨⟨by decide +kernel, by decide +kernel⟩, List.mem_of_getElem? (i := 746) (by decide +kernel), List.mem_of_getElem? (i := 870) (by decide +kernel), List.mem_of_getElem? (i := 871) (by decide +kernel)⟩
theorem lw_p30 : lw_okq (⟨"WishClerkModel", "look", "(I)I"⟩, 31) := ⟨⟨by decide +kernel, by decide +kernel⟩, List.mem_of_getElem? (i := 746) (by decide +kernel), List.mem_of_getElem? (i := 874) (by decide +kernel), List.mem_of_getElem? (i := 875) (by decide +kernel)⟩
theorem lw_p31 : lw_okq (⟨"WishClerkModel", "must", "(ZI)V"⟩, 31) := ⟨⟨by decide +kernel, by decide +kernel⟩, List.mem_of_getElem? (i := 746) (by decide +kernel), List.mem_of_getElem? (i := 882) (by decide +kernel), List.mem_of_getElem? (i := 883) (by decide +kernel)⟩
def lw_privs_2 : List (MethodName × Nat) := [(⟨"WishClerk$Rows", "grantedAt", "(LWishClerk$Book;II)I"⟩, 6), (⟨"WishClerk$Rows", "bringToLife", "(LWishClerk$Book;I)V"⟩, 6), (⟨"WishClerk$Rows", "markNext", "(LWishClerk$Book;II)V"⟩, 6), (⟨"WishClerk$Rows", "costOfNext", "(LWishClerk$Book;IZ)I"⟩, 6), (⟨"WishClerk$Rows", "firstWish", "(LWishClerk$Book;I)I"⟩, 6), (⟨"WishClerk", "leastStruck", "(I)I"⟩, 10), (⟨"WishClerk", "leastClashing", "()I"⟩, 10), (⟨"WishClerk", "leastTaken", "()I"⟩, 10), (⟨"WishClerk", "latest", "(I)I"⟩, 10), (⟨"WishClerk", "weightOf", "(II)J"⟩, 10), (⟨"WishClerk", "aliveAfterPlan", "(I)I"⟩, 10), (⟨"WishClerkModel", "firstDraft", "()V"⟩, 31), (⟨"WishClerkModel", "keepDraft", "()V"⟩, 31), (⟨"WishClerkModel", "next", "()V"⟩, 31), (⟨"WishClerkModel", "look", "(I)I"⟩, 31), (⟨"WishClerkModel", "must", "(ZI)V"⟩, 31)]
theorem lw_r2 : ∀ q ∈ lw_privs_2, lw_okq q := List.forall_mem_cons.mpr ⟨lw_p16, List.forall_mem_cons.mpr ⟨lw_p17, List.forall_mem_cons.mpr ⟨lw_p18, List.forall_mem_cons.mpr ⟨lw_p19, List.forall_mem_cons.mpr ⟨lw_p20, List.forall_mem_cons.mpr ⟨lw_p21, List.forall_mem_cons.mpr ⟨lw_p22, List.forall_mem_cons.mpr ⟨lw_p23, List.forall_mem_cons.mpr ⟨lw_p24, List.forall_mem_cons.mpr ⟨lw_p25, List.forall_mem_cons.mpr ⟨lw_p26, List.forall_mem_cons.mpr ⟨lw_p27, List.forall_mem_cons.mpr ⟨lw_p28, List.forall_mem_cons.mpr ⟨lw_p29, List.forall_mem_cons.mpr ⟨lw_p30, List.forall_mem_cons.mpr ⟨lw_p31, fun _ h => absurd h List.not_mem_nil⟩⟩⟩⟩⟩⟩⟩⟩⟩⟩⟩⟩⟩⟩⟩⟩
theorem lw_p32 : lw_okq (⟨"WishClerkModel", "readLine", "()V"⟩, 31) := ⟨⟨by decide +kernel, by decide +kernel⟩, List.mem_of_getElem? (i := 746) (by decide +kernel), List.mem_of_getElem? (i := 886) (by decide +kernel), List.mem_of_getElem? (i := 887) (by decide +kernel)⟩
theorem lw_p33 : lw_okq (⟨"WishClerkModel", "lineNow", "()I"⟩, 31) := ⟨⟨by decide +kernel, by decide +kernel⟩, List.mem_of_getElem? (i := 746) (by decide +kernel), List.mem_of_getElem? (i := 890) (by decide +kernel), List.mem_of_getElem? (i := 891) (by decide +kernel)⟩
theorem lw_p34 : lw_okq (⟨"WishClerkModel", "is", "(IIII)Z"⟩, 31) := ⟨⟨by decide +kernel, by decide +kernel⟩, List.mem_of_getElem? (i := 746) (by decide +kernel), List.mem_of_getElem? (i := 894) (by decide +kernel), List.mem_of_getElem? (i := 895) (by decide +kernel)⟩
theorem lw_p35 : lw_okq (⟨"WishClerkModel", "ends", "(III)Z"⟩, 31) := ⟨⟨by decide +kernel, by decide +kernel⟩, List.mem_of_getElem? (i := 746) (by decide +kernel), List.mem_of_getElem? (i := 898) (by decide +kernel), List.mem_of_getElem? (i := 899) (by decide +kernel)⟩
theorem lw_p36 : lw_okq (⟨"WishClerkModel", "readLineOf", "(I)V"⟩, 31) := ⟨⟨by decide +kernel, by decide +kernel⟩, List.mem_of_getElem? (i := 746) (by decide +kernel), List.mem_of_getElem? (i := 902) (by decide +kernel), List.mem_of_getElem? (i := 903) (by decide +kernel)⟩
theorem lw_p37 : lw_okq (⟨"WishClerkModel", "readOne", "()V"⟩, 31) := ⟨⟨by decide +kernel, by decide +kernel⟩, List.mem_of_getElem? (i := 746) (by decide +kernel), List.mem_of_getElem? (i := 906) (by decide +kernel), List.mem_of_getElem? (i := 907) (by decide +kernel)⟩
theorem lw_p38 : lw_okq (⟨"WishClerkModel", "kindNow", "()I"⟩, 31) := ⟨⟨by decide +kernel, by decide +kernel⟩, List.mem_of_getElem? (i := 746) (by decide +kernel), List.mem_of_getElem? (i := 910) (by decide +kernel), List.mem_of_getElem? (i := 911) (by decide +kernel)⟩
theorem lw_p39 : lw_okq (⟨"WishClerkModel", "readWish", "()V"⟩, 31) := ⟨⟨by decide +kernel, by decide +kernel⟩, List.mem_of_getElem? (i := 746) (by decide +kernel), List.mem_of_getElem? (i := 917) (by decide +kernel), List.mem_of_getElem? (i := 918) (by decide +kernel)⟩
theorem lw_p40 : lw_okq (⟨"WishClerkModel", "readNumber", "(II)I"⟩, 31) := ⟨⟨by decide +kernel, by decide +kernel⟩, List.mem_of_getElem? (i := 746) (by decide +kernel), List.mem_of_getElem? (i := 921) (by decide +kernel), List.mem_of_getElem? (i := 922) (by decide +kernel)⟩
theorem lw_p41 : lw_okq (⟨"WishClerkModel", "looked", "(II)I"⟩, 31) := ⟨⟨by decide +kernel, by decide +kernel⟩, List.mem_of_getElem? (i := 746) (by decide +kernel), List.mem_of_getElem? (i := 925) (by decide +kernel), List.mem_of_getElem? (i := 926) (by decide +kernel)⟩
theorem lw_p42 : lw_okq (⟨"WishClerkModel", "readNeeds", "()V"⟩, 31) := ⟨⟨by decide +kernel, by decide +kernel⟩, List.mem_of_getElem? (i := 746) (by decide +kernel), List.mem_of_getElem? (i := 929) (by decide +kernel), List.mem_of_getElem? (i := 930) (by decide +kernel)⟩
theorem lw_p43 : lw_okq (⟨"WishClerkModel", "readWishBut", "(I)I"⟩, 31) := ⟨⟨by decide +kernel, by decide +kernel⟩, List.mem_of_getElem? (i := 746) (by decide +kernel), List.mem_of_getElem? (i := 933) (by decide +kernel), List.mem_of_getElem? (i := 934) (by decide +kernel)⟩
theorem lw_p44 : lw_okq (⟨"WishClerkModel", "readClash", "()V"⟩, 31) := ⟨⟨by decide +kernel, by decide +kernel⟩, List.mem_of_getElem? (i := 746) (by decide +kernel), List.mem_of_getElem? (i := 937) (by decide +kernel), List.mem_of_getElem? (i := 938) (by decide +kernel)⟩
theorem lw_p45 : lw_okq (⟨"WishClerkModel", "isWish", "(I)Z"⟩, 31) := ⟨⟨by decide +kernel, by decide +kernel⟩, List.mem_of_getElem? (i := 746) (by decide +kernel), List.mem_of_getElem? (i := 953) (by decide +kernel), List.mem_of_getElem? (i := 954) (by decide +kernel)⟩
theorem lw_p46 : lw_okq (⟨"WishClerkModel", "follow", "(I)I"⟩, 31) := ⟨⟨by decide +kernel, by decide +kernel⟩, List.mem_of_getElem? (i := 746) (by decide +kernel), List.mem_of_getElem? (i := 957) (by decide +kernel), List.mem_of_getElem? (i := 958) (by decide +kernel)⟩
theorem lw_p47 : lw_okq (⟨"WishClerkModel", "allOf", "(II)I"⟩, 31) := ⟨⟨by decide +kernel, by decide +kernel⟩, List.mem_of_getElem? (i := 746) (by decide +kernel), List.mem_of_getElem? (i := 961) (by decide +kernel), List.mem_of_getElem? (i := 962) (by decide +kernel)⟩
def lw_privs_3 : List (MethodName × Nat) := [(⟨"WishClerkModel", "readLine", "()V"⟩, 31), (⟨"WishClerkModel", "lineNow", "()I"⟩, 31), (⟨"WishClerkModel", "is", "(IIII)Z"⟩, 31), (⟨"WishClerkModel", "ends", "(III)Z"⟩, 31), (⟨"WishClerkModel", "readLineOf", "(I)V"⟩, 31), (⟨"WishClerkModel", "readOne", "()V"⟩, 31), (⟨"WishClerkModel", "kindNow", "()I"⟩, 31), (⟨"WishClerkModel", "readWish", "()V"⟩, 31), (⟨"WishClerkModel", "readNumber", "(II)I"⟩, 31), (⟨"WishClerkModel", "looked", "(II)I"⟩, 31), (⟨"WishClerkModel", "readNeeds", "()V"⟩, 31), (⟨"WishClerkModel", "readWishBut", "(I)I"⟩, 31), (⟨"WishClerkModel", "readClash", "()V"⟩, 31), (⟨"WishClerkModel", "isWish", "(I)Z"⟩, 31), (⟨"WishClerkModel", "follow", "(I)I"⟩, 31), (⟨"WishClerkModel", "allOf", "(II)I"⟩, 31)]
theorem lw_r3 : ∀ q ∈ lw_privs_3, lw_okq q := List.forall_mem_cons.mpr ⟨lw_p32, List.forall_mem_cons.mpr ⟨lw_p33, List.forall_mem_cons.mpr ⟨lw_p34, List.forall_mem_cons.mpr ⟨lw_p35, List.forall_mem_cons.mpr ⟨lw_p36, List.forall_mem_cons.mpr ⟨lw_p37, List.forall_mem_cons.mpr ⟨lw_p38, List.forall_mem_cons.mpr ⟨lw_p39, List.forall_mem_cons.mpr ⟨lw_p40, List.forall_mem_cons.mpr ⟨lw_p41, List.forall_mem_cons.mpr ⟨lw_p42, List.forall_mem_cons.mpr ⟨lw_p43, List.forall_mem_cons.mpr ⟨lw_p44, List.forall_mem_cons.mpr ⟨lw_p45, List.forall_mem_cons.mpr ⟨lw_p46, List.forall_mem_cons.mpr ⟨lw_p47, fun _ h => absurd h List.not_mem_nil⟩⟩⟩⟩⟩⟩⟩⟩⟩⟩⟩⟩⟩⟩⟩⟩
theorem lw_p48 : lw_okq (⟨"WishClerkModel", "isOne", "(I)Z"⟩, 31) := ⟨⟨by decide +kernel, by decide +kernel⟩, List.mem_of_getElem? (i := 746) (by decide +kernel), List.mem_of_getElem? (i := 973) (by decide +kernel), List.mem_of_getElem? (i := 974) (by decide +kernel)⟩
theorem lw_p49 : lw_okq (⟨"WishClerkModel", "becomesBit", "(IIZ)I"⟩, 31) := ⟨⟨by decide +kernel, by decide +kernel⟩, List.mem_of_getElem? (i := 746) (by decide +kernel), List.mem_of_getElem? (i := 977) (by decide +kernel), List.mem_of_getElem? (i := 978) (by decide +kernel)⟩
theorem lw_p50 : lw_okq (⟨"WishClerkModel", "becomes", "(II)I"⟩, 31) := ⟨⟨by decide +kernel, by decide +kernel⟩, List.mem_of_getElem? (i := 746) (by decide +kernel), List.mem_of_getElem? (i := 994) (by decide +kernel), List.mem_of_getElem? (i := 995) (by decide +kernel)⟩
theorem lw_p51 : lw_okq (⟨"WishClerkModel", "looksAt", "(III)I"⟩, 31) := ⟨⟨by decide +kernel, by decide +kernel⟩, List.mem_of_getElem? (i := 746) (by decide +kernel), List.mem_of_getElem? (i := 1022) (by decide +kernel), List.mem_of_getElem? (i := 1023) (by decide +kernel)⟩
theorem lw_p52 : lw_okq (⟨"WishClerkModel", "refusal", "(IIIII)I"⟩, 31) := ⟨⟨by decide +kernel, by decide +kernel⟩, List.mem_of_getElem? (i := 746) (by decide +kernel), List.mem_of_getElem? (i := 1030) (by decide +kernel), List.mem_of_getElem? (i := 1031) (by decide +kernel)⟩
theorem lw_p53 : lw_okq (⟨"WishClerkModel", "doClash", "(II)Z"⟩, 31) := ⟨⟨by decide +kernel, by decide +kernel⟩, List.mem_of_getElem? (i := 746) (by decide +kernel), List.mem_of_getElem? (i := 1034) (by decide +kernel), List.mem_of_getElem? (i := 1035) (by decide +kernel)⟩
theorem lw_p54 : lw_okq (⟨"WishClerkModel", "takenBy", "(II)I"⟩, 31) := ⟨⟨by decide +kernel, by decide +kernel⟩, List.mem_of_getElem? (i := 746) (by decide +kernel), List.mem_of_getElem? (i := 1050) (by decide +kernel), List.mem_of_getElem? (i := 1051) (by decide +kernel)⟩
theorem lw_p55 : lw_okq (⟨"WishClerkModel", "findRow", "(I)I"⟩, 31) := ⟨⟨by decide +kernel, by decide +kernel⟩, List.mem_of_getElem? (i := 746) (by decide +kernel), List.mem_of_getElem? (i := 1068) (by decide +kernel), List.mem_of_getElem? (i := 1069) (by decide +kernel)⟩
theorem lw_p56 : lw_okq (⟨"WishClerkModel", "livingBy", "(I)I"⟩, 31) := ⟨⟨by decide +kernel, by decide +kernel⟩, List.mem_of_getElem? (i := 746) (by decide +kernel), List.mem_of_getElem? (i := 1072) (by decide +kernel), List.mem_of_getElem? (i := 1073) (by decide +kernel)⟩
theorem lw_p57 : lw_okq (⟨"WishClerkModel", "askedBy", "(IIII)I"⟩, 31) := ⟨⟨by decide +kernel, by decide +kernel⟩, List.mem_of_getElem? (i := 746) (by decide +kernel), List.mem_of_getElem? (i := 1076) (by decide +kernel), List.mem_of_getElem? (i := 1077) (by decide +kernel)⟩
theorem lw_p58 : lw_okq (⟨"WishClerkModel", "cheapOf", "(III)I"⟩, 31) := ⟨⟨by decide +kernel, by decide +kernel⟩, List.mem_of_getElem? (i := 746) (by decide +kernel), List.mem_of_getElem? (i := 1084) (by decide +kernel), List.mem_of_getElem? (i := 1085) (by decide +kernel)⟩
theorem lw_p59 : lw_okq (⟨"WishClerkModel", "findCosts", "(II)V"⟩, 31) := ⟨⟨by decide +kernel, by decide +kernel⟩, List.mem_of_getElem? (i := 746) (by decide +kernel), List.mem_of_getElem? (i := 1088) (by decide +kernel), List.mem_of_getElem? (i := 1089) (by decide +kernel)⟩
theorem lw_p60 : lw_okq (⟨"WishClerkModel", "goesRound", "(I)Z"⟩, 31) := ⟨⟨by decide +kernel, by decide +kernel⟩, List.mem_of_getElem? (i := 746) (by decide +kernel), List.mem_of_getElem? (i := 1117) (by decide +kernel), List.mem_of_getElem? (i := 1118) (by decide +kernel)⟩
theorem lw_p61 : lw_okq (⟨"WishClerkModel", "isSo", "(I)Z"⟩, 31) := ⟨⟨by decide +kernel, by decide +kernel⟩, List.mem_of_getElem? (i := 746) (by decide +kernel), List.mem_of_getElem? (i := 1134) (by decide +kernel), List.mem_of_getElem? (i := 1135) (by decide +kernel)⟩
theorem lw_p62 : lw_okq (⟨"WishClerkModel", "copies", "(II)V"⟩, 31) := ⟨⟨by decide +kernel, by decide +kernel⟩, List.mem_of_getElem? (i := 746) (by decide +kernel), List.mem_of_getElem? (i := 1156) (by decide +kernel), List.mem_of_getElem? (i := 1157) (by decide +kernel)⟩
def lw_privs_4 : List (MethodName × Nat) := [(⟨"WishClerkModel", "isOne", "(I)Z"⟩, 31), (⟨"WishClerkModel", "becomesBit", "(IIZ)I"⟩, 31), (⟨"WishClerkModel", "becomes", "(II)I"⟩, 31), (⟨"WishClerkModel", "looksAt", "(III)I"⟩, 31), (⟨"WishClerkModel", "refusal", "(IIIII)I"⟩, 31), (⟨"WishClerkModel", "doClash", "(II)Z"⟩, 31), (⟨"WishClerkModel", "takenBy", "(II)I"⟩, 31), (⟨"WishClerkModel", "findRow", "(I)I"⟩, 31), (⟨"WishClerkModel", "livingBy", "(I)I"⟩, 31), (⟨"WishClerkModel", "askedBy", "(IIII)I"⟩, 31), (⟨"WishClerkModel", "cheapOf", "(III)I"⟩, 31), (⟨"WishClerkModel", "findCosts", "(II)V"⟩, 31), (⟨"WishClerkModel", "goesRound", "(I)Z"⟩, 31), (⟨"WishClerkModel", "isSo", "(I)Z"⟩, 31), (⟨"WishClerkModel", "copies", "(II)V"⟩, 31)]
theorem lw_r4 : ∀ q ∈ lw_privs_4, lw_okq q := List.forall_mem_cons.mpr ⟨lw_p48, List.forall_mem_cons.mpr ⟨lw_p49, List.forall_mem_cons.mpr ⟨lw_p50, List.forall_mem_cons.mpr ⟨lw_p51, List.forall_mem_cons.mpr ⟨lw_p52, List.forall_mem_cons.mpr ⟨lw_p53, List.forall_mem_cons.mpr ⟨lw_p54, List.forall_mem_cons.mpr ⟨lw_p55, List.forall_mem_cons.mpr ⟨lw_p56, List.forall_mem_cons.mpr ⟨lw_p57, List.forall_mem_cons.mpr ⟨lw_p58, List.forall_mem_cons.mpr ⟨lw_p59, List.forall_mem_cons.mpr ⟨lw_p60, List.forall_mem_cons.mpr ⟨lw_p61, List.forall_mem_cons.mpr ⟨lw_p62, fun _ h => absurd h List.not_mem_nil⟩⟩⟩⟩⟩⟩⟩⟩⟩⟩⟩⟩⟩⟩⟩
def lw_privs : List (MethodName × Nat) := lw_privs_1 ++ (lw_privs_2 ++ (lw_privs_3 ++ (lw_privs_4)))
def lw_tbl : List Cond := k2_sels lw_privs ++ tables_1
theorem lw_privs_ok : ∀ q ∈ lw_privs, lw_okq q := by
  show ∀ q ∈ lw_privs_1 ++ (lw_privs_2 ++ (lw_privs_3 ++ (lw_privs_4))), lw_okq q
  exact List.forall_mem_append.mpr ⟨lw_r1, List.forall_mem_append.mpr ⟨lw_r2, List.forall_mem_append.mpr ⟨lw_r3, lw_r4⟩⟩⟩
-- ===== end of PART A; then your names; then what follows =====
def RX0 : String := "WishClerk$Book"
def TX0 : u_T := fun k => match k with
  | 0 => ("WishClerk$Book", "people", "I", false)
  | 1 => ("WishClerk$Book", "wishes", "I", false)
  | 2 => ("WishClerk$Book", "depth", "I", false)
  | 3 => ("WishClerk$Book", "lives", "I", false)
  | 4 => ("WishClerk$Book", "barred", "I", false)
  | 5 => ("WishClerk$Book", "holds", "I", false)
  | 6 => ("WishClerk$Book", "listed", "I", false)
  | 7 => ("WishClerk$Book", "years", "[I", true)
  | 8 => ("WishClerk$Book", "price", "[I", true)
  | 9 => ("WishClerk$Book", "ones", "[I", true)
  | 10 => ("WishClerk$Book", "needed", "[I", true)
  | 11 => ("WishClerk$Book", "clashing", "[I", true)
  | 12 => ("WishClerk$Book", "follows", "[I", true)
  | 13 => ("WishClerk$Book", "wanted", "[I", true)
  | 14 => ("WishClerk$Book", "planWish", "[I", true)
  | 15 => ("WishClerk$Book", "planned", "I", false)
  | 16 => ("WishClerk$Book", "seenOne", "[I", true)
  | 17 => ("WishClerk$Book", "seenAlive", "I", false)
  | _ => ("WishClerk$Book", "seen", "I", false)
def tyX0 : Nat → FieldType := fun k => match k with
  | 0 => .int
  | 1 => .int
  | 2 => .int
  | 3 => .int
  | 4 => .int
  | 5 => .int
  | 6 => .int
  | 7 => .array .int
  | 8 => .array .int
  | 9 => .array .int
  | 10 => .array .int
  | 11 => .array .int
  | 12 => .array .int
  | 13 => .array .int
  | 14 => .array .int
  | 15 => .int
  | 16 => .array .int
  | 17 => .int
  | _ => .int
abbrev wsX00 : List Cond := u_ws RX0 TX0 19
theorem nmX0 : ∀ a, a < 19 → ∀ b, b < 19 → a ≠ b → (TX0 a).2.1 ≠ (TX0 b).2.1 := by decide +kernel
theorem tyX0_ok : ∀ k, k < 19 → parseFieldDescriptor (TX0 k).2.2.1 = some (tyX0 k) := by decide +kernel
abbrev cX0_init : ByteArray := prog_2_method_1_code
def yX0_init : MethodName := ⟨RX0, "<init>", "()V"⟩
abbrev cX0_hasOne : ByteArray := prog_2_method_2_code
def yX0_hasOne : MethodName := ⟨RX0, "hasOne", "(I)Z"⟩
abbrev cX0_hasWish : ByteArray := prog_2_method_3_code
def yX0_hasWish : MethodName := ⟨RX0, "hasWish", "(I)Z"⟩
abbrev cX0_hasTwoWishes : ByteArray := prog_2_method_4_code
def yX0_hasTwoWishes : MethodName := ⟨RX0, "hasTwoWishes", "(II)Z"⟩
abbrev cX0_sets : ByteArray := prog_2_method_5_code
def yX0_sets : MethodName := ⟨RX0, "sets", "()I"⟩
abbrev cX0_makeEmpty : ByteArray := prog_2_method_6_code
def yX0_makeEmpty : MethodName := ⟨RX0, "makeEmpty", "()V"⟩
abbrev cX0_copyFrom : ByteArray := prog_2_method_7_code
def yX0_copyFrom : MethodName := ⟨RX0, "copyFrom", "(LWishClerk$Book;)V"⟩
abbrev cX0_workOutFollowers : ByteArray := prog_2_method_8_code
def yX0_workOutFollowers : MethodName := ⟨RX0, "workOutFollowers", "()V"⟩
abbrev cX0_lookedAt : ByteArray := prog_2_method_9_code
def yX0_lookedAt : MethodName := ⟨RX0, "lookedAt", "(III)I"⟩
abbrev cX0_refusal : ByteArray := prog_2_method_10_code
def yX0_refusal : MethodName := ⟨RX0, "refusal", "(IIII)I"⟩
abbrev cX0_gather : ByteArray := prog_2_method_11_code
def yX0_gather : MethodName := ⟨RX0, "gather", "([II)I"⟩
abbrev cX0_haveClash : ByteArray := prog_2_method_12_code
def yX0_haveClash : MethodName := ⟨RX0, "haveClash", "(I)Z"⟩
abbrev cX0_followersOf : ByteArray := prog_2_method_13_code
def yX0_followersOf : MethodName := ⟨RX0, "followersOf", "(I)I"⟩
abbrev cX0_wantedBy : ByteArray := prog_2_method_14_code
def yX0_wantedBy : MethodName := ⟨RX0, "wantedBy", "(I)I"⟩
abbrev cX0_restingOn : ByteArray := prog_2_method_15_code
def yX0_restingOn : MethodName := ⟨RX0, "restingOn", "(II)I"⟩
abbrev cX0_goesRound : ByteArray := prog_2_method_16_code
def yX0_goesRound : MethodName := ⟨RX0, "goesRound", "(I)Z"⟩
abbrev cX0_seenOnes : ByteArray := prog_2_method_17_code
def yX0_seenOnes : MethodName := ⟨RX0, "seenOnes", "(Z)I"⟩
def RX1 : String := "WishClerk$Reader"
def TX1 : u_T := fun k => match k with
  | 0 => ("WishClerk$Reader", "book", "LWishClerk$Book;", false)
  | 1 => ("WishClerk$Reader", "fault", "I", false)
  | 2 => ("WishClerk$Reader", "faultPlace", "I", false)
  | 3 => ("WishClerk$Reader", "tape", "LWishClerk$Tape;", true)
  | 4 => ("WishClerk$Reader", "kind", "I", false)
  | 5 => ("WishClerk$Reader", "first", "I", false)
  | 6 => ("WishClerk$Reader", "behind", "I", false)
  | 7 => ("WishClerk$Reader", "value", "I", false)
  | 8 => ("WishClerk$Reader", "depthTold", "Z", false)
  | 9 => ("WishClerk$Reader", "onesNamed", "I", false)
  | _ => ("WishClerk$Reader", "wishesNamed", "I", false)
def tyX1 : Nat → FieldType := fun k => match k with
  | 0 => .object "WishClerk$Book"
  | 1 => .int
  | 2 => .int
  | 3 => .object "WishClerk$Tape"
  | 4 => .int
  | 5 => .int
  | 6 => .int
  | 7 => .int
  | 8 => .boolean
  | 9 => .int
  | _ => .int
abbrev wsX10 : List Cond := u_ws RX1 TX1 11
theorem nmX1 : ∀ a, a < 11 → ∀ b, b < 11 → a ≠ b → (TX1 a).2.1 ≠ (TX1 b).2.1 := by decide +kernel
theorem tyX1_ok : ∀ k, k < 11 → parseFieldDescriptor (TX1 k).2.2.1 = some (tyX1 k) := by decide +kernel
abbrev cX1_init : ByteArray := prog_3_method_1_code
def yX1_init : MethodName := ⟨RX1, "<init>", "(LWishClerk$Tape;)V"⟩
abbrev cX1_readText : ByteArray := prog_3_method_2_code
def yX1_readText : MethodName := ⟨RX1, "readText", "()I"⟩
abbrev cX1_blame : ByteArray := prog_3_method_3_code
def yX1_blame : MethodName := ⟨RX1, "blame", "(II)Z"⟩
abbrev cX1_nextToken : ByteArray := prog_3_method_4_code
def yX1_nextToken : MethodName := ⟨RX1, "nextToken", "()Z"⟩
abbrev cX1_runEnd : ByteArray := prog_3_method_5_code
def yX1_runEnd : MethodName := ⟨RX1, "runEnd", "(ICC)I"⟩
abbrev cX1_isName : ByteArray := prog_3_method_6_code
def yX1_isName : MethodName := ⟨RX1, "isName", "(Ljava/lang/String;)Z"⟩
abbrev cX1_takeLine : ByteArray := prog_3_method_7_code
def yX1_takeLine : MethodName := ⟨RX1, "takeLine", "()Z"⟩
abbrev cX1_takeOne : ByteArray := prog_3_method_8_code
def yX1_takeOne : MethodName := ⟨RX1, "takeOne", "()Z"⟩
abbrev cX1_takeWish : ByteArray := prog_3_method_9_code
def yX1_takeWish : MethodName := ⟨RX1, "takeWish", "()Z"⟩
abbrev cX1_takeOnes : ByteArray := prog_3_method_10_code
def yX1_takeOnes : MethodName := ⟨RX1, "takeOnes", "(I)Z"⟩
abbrev cX1_takeNeeds : ByteArray := prog_3_method_11_code
def yX1_takeNeeds : MethodName := ⟨RX1, "takeNeeds", "()Z"⟩
abbrev cX1_takeClash : ByteArray := prog_3_method_12_code
def yX1_takeClash : MethodName := ⟨RX1, "takeClash", "()Z"⟩
abbrev cX1_takeListed : ByteArray := prog_3_method_13_code
def yX1_takeListed : MethodName := ⟨RX1, "takeListed", "()Z"⟩
abbrev cX1_takeDepth : ByteArray := prog_3_method_14_code
def yX1_takeDepth : MethodName := ⟨RX1, "takeDepth", "()Z"⟩
abbrev cX1_takePlanned : ByteArray := prog_3_method_15_code
def yX1_takePlanned : MethodName := ⟨RX1, "takePlanned", "()Z"⟩
abbrev cX1_takeNumber : ByteArray := prog_3_method_16_code
def yX1_takeNumber : MethodName := ⟨RX1, "takeNumber", "(IZ)Z"⟩
abbrev cX1_takeStop : ByteArray := prog_3_method_17_code
def yX1_takeStop : MethodName := ⟨RX1, "takeStop", "()Z"⟩
def RX2 : String := "WishClerk$Rows"
def TX2 : u_T := fun k => match k with
  | 0 => ("WishClerk$Rows", "moves", "[I", true)
  | 1 => ("WishClerk$Rows", "alive", "[I", true)
  | 2 => ("WishClerk$Rows", "costs", "[I", true)
  | 3 => ("WishClerk$Rows", "marked", "[Z", true)
  | 4 => ("WishClerk$Rows", "start", "I", false)
  | _ => ("WishClerk$Rows", "states", "I", false)
def tyX2 : Nat → FieldType := fun k => match k with
  | 0 => .array .int
  | 1 => .array .int
  | 2 => .array .int
  | 3 => .array .boolean
  | 4 => .int
  | _ => .int
abbrev wsX20 : List Cond := u_ws RX2 TX2 6
theorem nmX2 : ∀ a, a < 6 → ∀ b, b < 6 → a ≠ b → (TX2 a).2.1 ≠ (TX2 b).2.1 := by decide +kernel
theorem tyX2_ok : ∀ k, k < 6 → parseFieldDescriptor (TX2 k).2.2.1 = some (tyX2 k) := by decide +kernel
abbrev cX2_init : ByteArray := prog_4_method_1_code
def yX2_init : MethodName := ⟨RX2, "<init>", "()V"⟩
abbrev cX2_chart : ByteArray := prog_4_method_2_code
def yX2_chart : MethodName := ⟨RX2, "chart", "(LWishClerk$Book;I)V"⟩
abbrev cX2_grantedAt : ByteArray := prog_4_method_3_code
def yX2_grantedAt : MethodName := ⟨RX2, "grantedAt", "(LWishClerk$Book;II)I"⟩
abbrev cX2_bringToLife : ByteArray := prog_4_method_4_code
def yX2_bringToLife : MethodName := ⟨RX2, "bringToLife", "(LWishClerk$Book;I)V"⟩
abbrev cX2_markNext : ByteArray := prog_4_method_5_code
def yX2_markNext : MethodName := ⟨RX2, "markNext", "(LWishClerk$Book;II)V"⟩
abbrev cX2_leadTo : ByteArray := prog_4_method_6_code
def yX2_leadTo : MethodName := ⟨RX2, "leadTo", "(LWishClerk$Book;II)Z"⟩
abbrev cX2_everAlive : ByteArray := prog_4_method_7_code
def yX2_everAlive : MethodName := ⟨RX2, "everAlive", "()I"⟩
abbrev cX2_leastCost : ByteArray := prog_4_method_8_code
def yX2_leastCost : MethodName := ⟨RX2, "leastCost", "(LWishClerk$Book;IZ)I"⟩
abbrev cX2_costOfNext : ByteArray := prog_4_method_9_code
def yX2_costOfNext : MethodName := ⟨RX2, "costOfNext", "(LWishClerk$Book;IZ)I"⟩
abbrev cX2_wishOfRow : ByteArray := prog_4_method_10_code
def yX2_wishOfRow : MethodName := ⟨RX2, "wishOfRow", "(LWishClerk$Book;I)I"⟩
abbrev cX2_firstWish : ByteArray := prog_4_method_11_code
def yX2_firstWish : MethodName := ⟨RX2, "firstWish", "(LWishClerk$Book;I)I"⟩
def RX3 : String := "WishClerk$Sheet"
def TX3 : u_T := fun k => match k with
  | 0 => ("WishClerk$Sheet", "cells", "[I", true)
  | 1 => ("WishClerk$Sheet", "lane", "I", false)
  | _ => ("WishClerk$Sheet", "size", "I", false)
def tyX3 : Nat → FieldType := fun k => match k with
  | 0 => .array .int
  | 1 => .int
  | _ => .int
abbrev wsX30 : List Cond := u_ws RX3 TX3 3
theorem nmX3 : ∀ a, a < 3 → ∀ b, b < 3 → a ≠ b → (TX3 a).2.1 ≠ (TX3 b).2.1 := by decide +kernel
theorem tyX3_ok : ∀ k, k < 3 → parseFieldDescriptor (TX3 k).2.2.1 = some (tyX3 k) := by decide +kernel
abbrev cX3_init : ByteArray := prog_5_method_1_code
def yX3_init : MethodName := ⟨RX3, "<init>", "()V"⟩
abbrev cX3_isNothing : ByteArray := prog_5_method_2_code
def yX3_isNothing : MethodName := ⟨RX3, "isNothing", "()Z"⟩
abbrev cX3_makeNew : ByteArray := prog_5_method_3_code
def yX3_makeNew : MethodName := ⟨RX3, "makeNew", "(II)V"⟩
abbrev cX3_faultAt : ByteArray := prog_5_method_4_code
def yX3_faultAt : MethodName := ⟨RX3, "faultAt", "(II)I"⟩
abbrev cX3_write : ByteArray := prog_5_method_5_code
def yX3_write : MethodName := ⟨RX3, "write", "(II)V"⟩
def RX4 : String := "WishClerk$Tape"
def TX4 : u_T := fun k => match k with
  | 0 => ("WishClerk$Tape", "bytes", "[B", true)
  | _ => ("WishClerk$Tape", "length", "I", false)
def tyX4 : Nat → FieldType := fun k => match k with
  | 0 => .array .byte
  | _ => .int
abbrev wsX40 : List Cond := u_ws RX4 TX4 2
theorem nmX4 : ∀ a, a < 2 → ∀ b, b < 2 → a ≠ b → (TX4 a).2.1 ≠ (TX4 b).2.1 := by decide +kernel
theorem tyX4_ok : ∀ k, k < 2 → parseFieldDescriptor (TX4 k).2.2.1 = some (tyX4 k) := by decide +kernel
abbrev cX4_init : ByteArray := prog_6_method_1_code
def yX4_init : MethodName := ⟨RX4, "<init>", "()V"⟩
def RX5 : String := "WishClerk"
def TX5 : u_T := fun k => match k with
  | 0 => ("WishClerk", "tape", "LWishClerk$Tape;", true)
  | 1 => ("WishClerk", "reader", "LWishClerk$Reader;", true)
  | 2 => ("WishClerk", "rows", "LWishClerk$Rows;", true)
  | 3 => ("WishClerk", "images", "[LWishClerk$Book;", true)
  | 4 => ("WishClerk", "sheets", "[LWishClerk$Sheet;", true)
  | 5 => ("WishClerk", "dates", "[I", true)
  | 6 => ("WishClerk", "book", "LWishClerk$Book;", false)
  | 7 => ("WishClerk", "kept", "I", false)
  | 8 => ("WishClerk", "textFault", "I", false)
  | _ => ("WishClerk", "readFault", "I", false)
def tyX5 : Nat → FieldType := fun k => match k with
  | 0 => .object "WishClerk$Tape"
  | 1 => .object "WishClerk$Reader"
  | 2 => .object "WishClerk$Rows"
  | 3 => .array (.object "WishClerk$Book")
  | 4 => .array (.object "WishClerk$Sheet")
  | 5 => .array .int
  | 6 => .object "WishClerk$Book"
  | 7 => .int
  | 8 => .int
  | _ => .int
abbrev wsX50 : List Cond := u_ws RX5 TX5 10
theorem nmX5 : ∀ a, a < 10 → ∀ b, b < 10 → a ≠ b → (TX5 a).2.1 ≠ (TX5 b).2.1 := by decide +kernel
theorem tyX5_ok : ∀ k, k < 10 → parseFieldDescriptor (TX5 k).2.2.1 = some (tyX5 k) := by decide +kernel
abbrev cX5_init : ByteArray := prog_1_method_1_code
def yX5_init : MethodName := ⟨RX5, "<init>", "()V"⟩
abbrev cX5_feed : ByteArray := prog_1_method_2_code
def yX5_feed : MethodName := ⟨RX5, "feed", "(I)I"⟩
abbrev cX5_end : ByteArray := prog_1_method_3_code
def yX5_end : MethodName := ⟨RX5, "end", "(I)I"⟩
abbrev cX5_text : ByteArray := prog_1_method_4_code
def yX5_text : MethodName := ⟨RX5, "text", "()I"⟩
abbrev cX5_fault : ByteArray := prog_1_method_5_code
def yX5_fault : MethodName := ⟨RX5, "fault", "()I"⟩
abbrev cX5_rule : ByteArray := prog_1_method_6_code
def yX5_rule : MethodName := ⟨RX5, "rule", "(I)I"⟩
abbrev cX5_wish : ByteArray := prog_1_method_7_code
def yX5_wish : MethodName := ⟨RX5, "wish", "(II)I"⟩
abbrev cX5_plan : ByteArray := prog_1_method_8_code
def yX5_plan : MethodName := ⟨RX5, "plan", "(I)I"⟩
abbrev cX5_live : ByteArray := prog_1_method_9_code
def yX5_live : MethodName := ⟨RX5, "live", "(IZ)I"⟩
abbrev cX5_bar : ByteArray := prog_1_method_10_code
def yX5_bar : MethodName := ⟨RX5, "bar", "(IZ)I"⟩
abbrev cX5_list : ByteArray := prog_1_method_11_code
def yX5_list : MethodName := ⟨RX5, "list", "(IZ)I"⟩
abbrev cX5_depth : ByteArray := prog_1_method_12_code
def yX5_depth : MethodName := ⟨RX5, "depth", "(I)I"⟩
abbrev cX5_asks : ByteArray := prog_1_method_13_code
def yX5_asks : MethodName := ⟨RX5, "asks", "(IIZ)I"⟩
abbrev cX5_needs : ByteArray := prog_1_method_14_code
def yX5_needs : MethodName := ⟨RX5, "needs", "(IIZ)I"⟩
abbrev cX5_clash : ByteArray := prog_1_method_15_code
def yX5_clash : MethodName := ⟨RX5, "clash", "(IIZ)I"⟩
abbrev cX5_plans : ByteArray := prog_1_method_16_code
def yX5_plans : MethodName := ⟨RX5, "plans", "(I)I"⟩
abbrev cX5_cut : ByteArray := prog_1_method_17_code
def yX5_cut : MethodName := ⟨RX5, "cut", "(I)I"⟩
abbrev cX5_looks : ByteArray := prog_1_method_18_code
def yX5_looks : MethodName := ⟨RX5, "looks", "(I)I"⟩
abbrev cX5_refuses : ByteArray := prog_1_method_19_code
def yX5_refuses : MethodName := ⟨RX5, "refuses", "(I)I"⟩
abbrev cX5_ask : ByteArray := prog_1_method_20_code
def yX5_ask : MethodName := ⟨RX5, "ask", "(I)I"⟩
abbrev cX5_take : ByteArray := prog_1_method_21_code
def yX5_take : MethodName := ⟨RX5, "take", "(I)I"⟩
abbrev cX5_clashes : ByteArray := prog_1_method_22_code
def yX5_clashes : MethodName := ⟨RX5, "clashes", "()I"⟩
abbrev cX5_broken : ByteArray := prog_1_method_23_code
def yX5_broken : MethodName := ⟨RX5, "broken", "()I"⟩
abbrev cX5_row : ByteArray := prog_1_method_24_code
def yX5_row : MethodName := ⟨RX5, "row", "(II)I"⟩
abbrev cX5_cheap : ByteArray := prog_1_method_25_code
def yX5_cheap : MethodName := ⟨RX5, "cheap", "(I)I"⟩
abbrev cX5_deep : ByteArray := prog_1_method_26_code
def yX5_deep : MethodName := ⟨RX5, "deep", "(I)I"⟩
abbrev cX5_fewest : ByteArray := prog_1_method_27_code
def yX5_fewest : MethodName := ⟨RX5, "fewest", "(II)I"⟩
abbrev cX5_all : ByteArray := prog_1_method_28_code
def yX5_all : MethodName := ⟨RX5, "all", "()I"⟩
abbrev cX5_leastStruck : ByteArray := prog_1_method_29_code
def yX5_leastStruck : MethodName := ⟨RX5, "leastStruck", "(I)I"⟩
abbrev cX5_sizeOrSet : ByteArray := prog_1_method_30_code
def yX5_sizeOrSet : MethodName := ⟨RX5, "sizeOrSet", "(II)I"⟩
abbrev cX5_set : ByteArray := prog_1_method_31_code
def yX5_set : MethodName := ⟨RX5, "set", "(I)I"⟩
abbrev cX5_rid : ByteArray := prog_1_method_32_code
def yX5_rid : MethodName := ⟨RX5, "rid", "(I)I"⟩
abbrev cX5_leastClashing : ByteArray := prog_1_method_33_code
def yX5_leastClashing : MethodName := ⟨RX5, "leastClashing", "()I"⟩
abbrev cX5_leastTaken : ByteArray := prog_1_method_34_code
def yX5_leastTaken : MethodName := ⟨RX5, "leastTaken", "()I"⟩
abbrev cX5_date : ByteArray := prog_1_method_35_code
def yX5_date : MethodName := ⟨RX5, "date", "(I)I"⟩
abbrev cX5_latest : ByteArray := prog_1_method_36_code
def yX5_latest : MethodName := ⟨RX5, "latest", "(I)I"⟩
abbrev cX5_see : ByteArray := prog_1_method_37_code
def yX5_see : MethodName := ⟨RX5, "see", "(IZ)I"⟩
abbrev cX5_forget : ByteArray := prog_1_method_38_code
def yX5_forget : MethodName := ⟨RX5, "forget", "(I)I"⟩
abbrev cX5_fits : ByteArray := prog_1_method_39_code
def yX5_fits : MethodName := ⟨RX5, "fits", "(I)I"⟩
abbrev cX5_odds : ByteArray := prog_1_method_40_code
def yX5_odds : MethodName := ⟨RX5, "odds", "(III)J"⟩
abbrev cX5_weightOf : ByteArray := prog_1_method_41_code
def yX5_weightOf : MethodName := ⟨RX5, "weightOf", "(II)J"⟩
abbrev cX5_aliveAfterPlan : ByteArray := prog_1_method_42_code
def yX5_aliveAfterPlan : MethodName := ⟨RX5, "aliveAfterPlan", "(I)I"⟩
abbrev cX5_greatestDivisor : ByteArray := prog_1_method_43_code
def yX5_greatestDivisor : MethodName := ⟨RX5, "greatestDivisor", "(JJ)J"⟩
abbrev cX5_wild : ByteArray := prog_1_method_44_code
def yX5_wild : MethodName := ⟨RX5, "wild", "(III)I"⟩
abbrev cX5_keep : ByteArray := prog_1_method_45_code
def yX5_keep : MethodName := ⟨RX5, "keep", "(I)I"⟩
abbrev cX5_back : ByteArray := prog_1_method_46_code
def yX5_back : MethodName := ⟨RX5, "back", "(I)I"⟩
abbrev cX5_sheet : ByteArray := prog_1_method_47_code
def yX5_sheet : MethodName := ⟨RX5, "sheet", "(III)I"⟩
abbrev cX5_lay : ByteArray := prog_1_method_48_code
def yX5_lay : MethodName := ⟨RX5, "lay", "(III)I"⟩
abbrev cX5_read : ByteArray := prog_1_method_49_code
def yX5_read : MethodName := ⟨RX5, "read", "(IIII)I"⟩
abbrev cX5_torn : ByteArray := prog_1_method_50_code
def yX5_torn : MethodName := ⟨RX5, "torn", "()I"⟩
abbrev cX5_count : ByteArray := prog_1_method_51_code
def yX5_count : MethodName := ⟨RX5, "count", "(I)I"⟩
abbrev cX5_hasBit : ByteArray := prog_1_method_52_code
def yX5_hasBit : MethodName := ⟨RX5, "hasBit", "(II)Z"⟩
abbrev cX5_bitOf : ByteArray := prog_1_method_53_code
def yX5_bitOf : MethodName := ⟨RX5, "bitOf", "(II)I"⟩
abbrev cX5_withBit : ByteArray := prog_1_method_54_code
def yX5_withBit : MethodName := ⟨RX5, "withBit", "(IIZ)I"⟩
def RX6 : String := "WishClerkModel"
def TX6 : u_T := fun k => match k with
  | 0 => ("WishClerkModel", "st", "[I", true)
  | 1 => ("WishClerkModel", "isKept", "[Z", true)
  | 2 => ("WishClerkModel", "people", "I", false)
  | 3 => ("WishClerkModel", "wishes", "I", false)
  | 4 => ("WishClerkModel", "years", "[I", true)
  | 5 => ("WishClerkModel", "prices", "[I", true)
  | 6 => ("WishClerkModel", "draft", "[I", true)
  | 7 => ("WishClerkModel", "dPeople", "I", false)
  | 8 => ("WishClerkModel", "dWishes", "I", false)
  | 9 => ("WishClerkModel", "dYears", "[I", true)
  | 10 => ("WishClerkModel", "dPrices", "[I", true)
  | 11 => ("WishClerkModel", "hasDepth", "Z", false)
  | 12 => ("WishClerkModel", "highestOne", "I", false)
  | 13 => ("WishClerkModel", "highestWish", "I", false)
  | 14 => ("WishClerkModel", "tape", "[I", true)
  | 15 => ("WishClerkModel", "taped", "I", false)
  | 16 => ("WishClerkModel", "pos", "I", false)
  | 17 => ("WishClerkModel", "from", "I", false)
  | 18 => ("WishClerkModel", "sort", "I", false)
  | 19 => ("WishClerkModel", "value", "I", false)
  | 20 => ("WishClerkModel", "fault", "I", false)
  | 21 => ("WishClerkModel", "wrongAt", "I", false)
  | 22 => ("WishClerkModel", "cost", "[I", true)
  | 23 => ("WishClerkModel", "before", "[I", true)
  | 24 => ("WishClerkModel", "by", "[I", true)
  | 25 => ("WishClerkModel", "line", "[I", true)
  | 26 => ("WishClerkModel", "dates", "[I", true)
  | 27 => ("WishClerkModel", "lanes", "[I", true)
  | 28 => ("WishClerkModel", "sizes", "[I", true)
  | 29 => ("WishClerkModel", "cells", "[I", true)
  | _ => ("WishClerkModel", "torn", "I", false)
def tyX6 : Nat → FieldType := fun k => match k with
  | 0 => .array .int
  | 1 => .array .boolean
  | 2 => .int
  | 3 => .int
  | 4 => .array .int
  | 5 => .array .int
  | 6 => .array .int
  | 7 => .int
  | 8 => .int
  | 9 => .array .int
  | 10 => .array .int
  | 11 => .boolean
  | 12 => .int
  | 13 => .int
  | 14 => .array .int
  | 15 => .int
  | 16 => .int
  | 17 => .int
  | 18 => .int
  | 19 => .int
  | 20 => .int
  | 21 => .int
  | 22 => .array .int
  | 23 => .array .int
  | 24 => .array .int
  | 25 => .array .int
  | 26 => .array .int
  | 27 => .array .int
  | 28 => .array .int
  | 29 => .array .int
  | _ => .int
abbrev wsX60 : List Cond := u_ws RX6 TX6 31
theorem nmX6 : ∀ a, a < 31 → ∀ b, b < 31 → a ≠ b → (TX6 a).2.1 ≠ (TX6 b).2.1 := by decide +kernel
theorem tyX6_ok : ∀ k, k < 31 → parseFieldDescriptor (TX6 k).2.2.1 = some (tyX6 k) := by decide +kernel
abbrev cX6_init : ByteArray := prog_8_method_1_code
def yX6_init : MethodName := ⟨RX6, "<init>", "()V"⟩
abbrev cX6_in : ByteArray := prog_8_method_3_code
def yX6_in : MethodName := ⟨RX6, "in", "(JJJ)Z"⟩
abbrev cX6_flag : ByteArray := prog_8_method_4_code
def yX6_flag : MethodName := ⟨RX6, "flag", "(Z)I"⟩
abbrev cX6_firstDraft : ByteArray := prog_8_method_5_code
def yX6_firstDraft : MethodName := ⟨RX6, "firstDraft", "()V"⟩
abbrev cX6_keepDraft : ByteArray := prog_8_method_6_code
def yX6_keepDraft : MethodName := ⟨RX6, "keepDraft", "()V"⟩
abbrev cX6_feed : ByteArray := prog_8_method_7_code
def yX6_feed : MethodName := ⟨RX6, "feed", "(I)I"⟩
abbrev cX6_end : ByteArray := prog_8_method_8_code
def yX6_end : MethodName := ⟨RX6, "end", "(I)I"⟩
abbrev cX6_must : ByteArray := prog_8_method_9_code
def yX6_must : MethodName := ⟨RX6, "must", "(ZI)V"⟩
abbrev cX6_look : ByteArray := prog_8_method_10_code
def yX6_look : MethodName := ⟨RX6, "look", "(I)I"⟩
abbrev cX6_is : ByteArray := prog_8_method_11_code
def yX6_is : MethodName := ⟨RX6, "is", "(IIII)Z"⟩
abbrev cX6_ends : ByteArray := prog_8_method_12_code
def yX6_ends : MethodName := ⟨RX6, "ends", "(III)Z"⟩
abbrev cX6_lineNow : ByteArray := prog_8_method_13_code
def yX6_lineNow : MethodName := ⟨RX6, "lineNow", "()I"⟩
abbrev cX6_kindNow : ByteArray := prog_8_method_14_code
def yX6_kindNow : MethodName := ⟨RX6, "kindNow", "()I"⟩
abbrev cX6_next : ByteArray := prog_8_method_15_code
def yX6_next : MethodName := ⟨RX6, "next", "()V"⟩
abbrev cX6_looked : ByteArray := prog_8_method_16_code
def yX6_looked : MethodName := ⟨RX6, "looked", "(II)I"⟩
abbrev cX6_readNumber : ByteArray := prog_8_method_17_code
def yX6_readNumber : MethodName := ⟨RX6, "readNumber", "(II)I"⟩
abbrev cX6_readWishBut : ByteArray := prog_8_method_18_code
def yX6_readWishBut : MethodName := ⟨RX6, "readWishBut", "(I)I"⟩
abbrev cX6_readOne : ByteArray := prog_8_method_19_code
def yX6_readOne : MethodName := ⟨RX6, "readOne", "()V"⟩
abbrev cX6_readWish : ByteArray := prog_8_method_20_code
def yX6_readWish : MethodName := ⟨RX6, "readWish", "()V"⟩
abbrev cX6_readNeeds : ByteArray := prog_8_method_21_code
def yX6_readNeeds : MethodName := ⟨RX6, "readNeeds", "()V"⟩
abbrev cX6_readClash : ByteArray := prog_8_method_22_code
def yX6_readClash : MethodName := ⟨RX6, "readClash", "()V"⟩
abbrev cX6_readLineOf : ByteArray := prog_8_method_23_code
def yX6_readLineOf : MethodName := ⟨RX6, "readLineOf", "(I)V"⟩
abbrev cX6_readLine : ByteArray := prog_8_method_24_code
def yX6_readLine : MethodName := ⟨RX6, "readLine", "()V"⟩
abbrev cX6_text : ByteArray := prog_8_method_25_code
def yX6_text : MethodName := ⟨RX6, "text", "()I"⟩
abbrev cX6_fault : ByteArray := prog_8_method_26_code
def yX6_fault : MethodName := ⟨RX6, "fault", "()I"⟩
abbrev cX6_isOne : ByteArray := prog_8_method_27_code
def yX6_isOne : MethodName := ⟨RX6, "isOne", "(I)Z"⟩
abbrev cX6_isWish : ByteArray := prog_8_method_28_code
def yX6_isWish : MethodName := ⟨RX6, "isWish", "(I)Z"⟩
abbrev cX6_bitsOf : ByteArray := prog_8_method_29_code
def yX6_bitsOf : MethodName := ⟨RX6, "bitsOf", "(I)I"⟩
abbrev cX6_allOf : ByteArray := prog_8_method_30_code
def yX6_allOf : MethodName := ⟨RX6, "allOf", "(II)I"⟩
abbrev cX6_follow : ByteArray := prog_8_method_31_code
def yX6_follow : MethodName := ⟨RX6, "follow", "(I)I"⟩
abbrev cX6_rule : ByteArray := prog_8_method_32_code
def yX6_rule : MethodName := ⟨RX6, "rule", "(I)I"⟩
abbrev cX6_wish : ByteArray := prog_8_method_33_code
def yX6_wish : MethodName := ⟨RX6, "wish", "(II)I"⟩
abbrev cX6_plan : ByteArray := prog_8_method_34_code
def yX6_plan : MethodName := ⟨RX6, "plan", "(I)I"⟩
abbrev cX6_becomesBit : ByteArray := prog_8_method_35_code
def yX6_becomesBit : MethodName := ⟨RX6, "becomesBit", "(IIZ)I"⟩
abbrev cX6_becomes : ByteArray := prog_8_method_36_code
def yX6_becomes : MethodName := ⟨RX6, "becomes", "(II)I"⟩
abbrev cX6_live : ByteArray := prog_8_method_37_code
def yX6_live : MethodName := ⟨RX6, "live", "(IZ)I"⟩
abbrev cX6_bar : ByteArray := prog_8_method_38_code
def yX6_bar : MethodName := ⟨RX6, "bar", "(IZ)I"⟩
abbrev cX6_list : ByteArray := prog_8_method_39_code
def yX6_list : MethodName := ⟨RX6, "list", "(IZ)I"⟩
abbrev cX6_depth : ByteArray := prog_8_method_40_code
def yX6_depth : MethodName := ⟨RX6, "depth", "(I)I"⟩
abbrev cX6_asks : ByteArray := prog_8_method_41_code
def yX6_asks : MethodName := ⟨RX6, "asks", "(IIZ)I"⟩
abbrev cX6_needs : ByteArray := prog_8_method_42_code
def yX6_needs : MethodName := ⟨RX6, "needs", "(IIZ)I"⟩
abbrev cX6_clash : ByteArray := prog_8_method_43_code
def yX6_clash : MethodName := ⟨RX6, "clash", "(IIZ)I"⟩
abbrev cX6_plans : ByteArray := prog_8_method_44_code
def yX6_plans : MethodName := ⟨RX6, "plans", "(I)I"⟩
abbrev cX6_cut : ByteArray := prog_8_method_45_code
def yX6_cut : MethodName := ⟨RX6, "cut", "(I)I"⟩
abbrev cX6_looksAt : ByteArray := prog_8_method_46_code
def yX6_looksAt : MethodName := ⟨RX6, "looksAt", "(III)I"⟩
abbrev cX6_doClash : ByteArray := prog_8_method_47_code
def yX6_doClash : MethodName := ⟨RX6, "doClash", "(II)Z"⟩
abbrev cX6_refusal : ByteArray := prog_8_method_48_code
def yX6_refusal : MethodName := ⟨RX6, "refusal", "(IIIII)I"⟩
abbrev cX6_looks : ByteArray := prog_8_method_49_code
def yX6_looks : MethodName := ⟨RX6, "looks", "(I)I"⟩
abbrev cX6_refuses : ByteArray := prog_8_method_50_code
def yX6_refuses : MethodName := ⟨RX6, "refuses", "(I)I"⟩
abbrev cX6_ask : ByteArray := prog_8_method_51_code
def yX6_ask : MethodName := ⟨RX6, "ask", "(I)I"⟩
abbrev cX6_takenBy : ByteArray := prog_8_method_52_code
def yX6_takenBy : MethodName := ⟨RX6, "takenBy", "(II)I"⟩
abbrev cX6_take : ByteArray := prog_8_method_53_code
def yX6_take : MethodName := ⟨RX6, "take", "(I)I"⟩
abbrev cX6_clashes : ByteArray := prog_8_method_54_code
def yX6_clashes : MethodName := ⟨RX6, "clashes", "()I"⟩
abbrev cX6_broken : ByteArray := prog_8_method_55_code
def yX6_broken : MethodName := ⟨RX6, "broken", "()I"⟩
abbrev cX6_livingBy : ByteArray := prog_8_method_56_code
def yX6_livingBy : MethodName := ⟨RX6, "livingBy", "(I)I"⟩
abbrev cX6_askedBy : ByteArray := prog_8_method_57_code
def yX6_askedBy : MethodName := ⟨RX6, "askedBy", "(IIII)I"⟩
abbrev cX6_findRow : ByteArray := prog_8_method_58_code
def yX6_findRow : MethodName := ⟨RX6, "findRow", "(I)I"⟩
abbrev cX6_row : ByteArray := prog_8_method_59_code
def yX6_row : MethodName := ⟨RX6, "row", "(II)I"⟩
abbrev cX6_findCosts : ByteArray := prog_8_method_60_code
def yX6_findCosts : MethodName := ⟨RX6, "findCosts", "(II)V"⟩
abbrev cX6_cheapOf : ByteArray := prog_8_method_61_code
def yX6_cheapOf : MethodName := ⟨RX6, "cheapOf", "(III)I"⟩
abbrev cX6_cheap : ByteArray := prog_8_method_62_code
def yX6_cheap : MethodName := ⟨RX6, "cheap", "(I)I"⟩
abbrev cX6_deep : ByteArray := prog_8_method_63_code
def yX6_deep : MethodName := ⟨RX6, "deep", "(I)I"⟩
abbrev cX6_fewest : ByteArray := prog_8_method_64_code
def yX6_fewest : MethodName := ⟨RX6, "fewest", "(II)I"⟩
abbrev cX6_all : ByteArray := prog_8_method_65_code
def yX6_all : MethodName := ⟨RX6, "all", "()I"⟩
abbrev cX6_set : ByteArray := prog_8_method_66_code
def yX6_set : MethodName := ⟨RX6, "set", "(I)I"⟩
abbrev cX6_rid : ByteArray := prog_8_method_67_code
def yX6_rid : MethodName := ⟨RX6, "rid", "(I)I"⟩
abbrev cX6_goesRound : ByteArray := prog_8_method_68_code
def yX6_goesRound : MethodName := ⟨RX6, "goesRound", "(I)Z"⟩
abbrev cX6_date : ByteArray := prog_8_method_69_code
def yX6_date : MethodName := ⟨RX6, "date", "(I)I"⟩
abbrev cX6_see : ByteArray := prog_8_method_70_code
def yX6_see : MethodName := ⟨RX6, "see", "(IZ)I"⟩
abbrev cX6_forget : ByteArray := prog_8_method_71_code
def yX6_forget : MethodName := ⟨RX6, "forget", "(I)I"⟩
abbrev cX6_isSo : ByteArray := prog_8_method_72_code
def yX6_isSo : MethodName := ⟨RX6, "isSo", "(I)Z"⟩
abbrev cX6_fits : ByteArray := prog_8_method_73_code
def yX6_fits : MethodName := ⟨RX6, "fits", "(I)I"⟩
abbrev cX6_common : ByteArray := prog_8_method_74_code
def yX6_common : MethodName := ⟨RX6, "common", "(JJ)J"⟩
abbrev cX6_odds : ByteArray := prog_8_method_75_code
def yX6_odds : MethodName := ⟨RX6, "odds", "(III)J"⟩
abbrev cX6_wild : ByteArray := prog_8_method_76_code
def yX6_wild : MethodName := ⟨RX6, "wild", "(III)I"⟩
abbrev cX6_copies : ByteArray := prog_8_method_77_code
def yX6_copies : MethodName := ⟨RX6, "copies", "(II)V"⟩
abbrev cX6_keep : ByteArray := prog_8_method_78_code
def yX6_keep : MethodName := ⟨RX6, "keep", "(I)I"⟩
abbrev cX6_back : ByteArray := prog_8_method_79_code
def yX6_back : MethodName := ⟨RX6, "back", "(I)I"⟩
abbrev cX6_isSheet : ByteArray := prog_8_method_80_code
def yX6_isSheet : MethodName := ⟨RX6, "isSheet", "(II)Z"⟩
abbrev cX6_sheet : ByteArray := prog_8_method_81_code
def yX6_sheet : MethodName := ⟨RX6, "sheet", "(III)I"⟩
abbrev cX6_lay : ByteArray := prog_8_method_82_code
def yX6_lay : MethodName := ⟨RX6, "lay", "(III)I"⟩
abbrev cX6_read : ByteArray := prog_8_method_83_code
def yX6_read : MethodName := ⟨RX6, "read", "(IIII)I"⟩
abbrev cX6_torn : ByteArray := prog_8_method_84_code
def yX6_torn : MethodName := ⟨RX6, "torn", "()I"⟩
abbrev cX6_count : ByteArray := prog_8_method_85_code
def yX6_count : MethodName := ⟨RX6, "count", "(I)I"⟩
def RJ6 : String := "java/lang/Integer"
def TJ6 : u_T := fun k => match k with
  | _ => ("", "", "", false)
def tyJ6 : Nat → FieldType := fun k => match k with
  | _ => .int
abbrev cJ6_bitCount_0f7a4 : ByteArray := prog_9_method_49_code
def yJ6_bitCount_0f7a4 : MethodName := ⟨RJ6, "bitCount", "(I)I"⟩
def RJ9 : String := "java/lang/Math"
def TJ9 : u_T := fun k => match k with
  | _ => ("", "", "", false)
def tyJ9 : Nat → FieldType := fun k => match k with
  | _ => .int
abbrev cJ9_max_7cf53 : ByteArray := prog_10_method_65_code
def yJ9_max_7cf53 : MethodName := ⟨RJ9, "max", "(II)I"⟩
abbrev cJ9_min_7cf53 : ByteArray := prog_10_method_69_code
def yJ9_min_7cf53 : MethodName := ⟨RJ9, "min", "(II)I"⟩
def RJ0 : String := "java/lang/String"
def TJ0 : u_T := fun k => match k with
  | _ => ("", "", "", false)
def tyJ0 : Nat → FieldType := fun k => match k with
  | _ => .int
abbrev cJ0_length_8abf5 : ByteArray := prog_11_method_54_code
def yJ0_length_8abf5 : MethodName := ⟨RJ0, "length", "()I"⟩
abbrev cJ0_charAt_5068e : ByteArray := prog_11_method_56_code
def yJ0_charAt_5068e : MethodName := ⟨RJ0, "charAt", "(I)C"⟩
abbrev cJ0_coder_7d493 : ByteArray := prog_11_method_152_code
def yJ0_coder_7d493 : MethodName := ⟨RJ0, "coder", "()B"⟩
abbrev cJ0_isLatin1_aae02 : ByteArray := prog_11_method_154_code
def yJ0_isLatin1_aae02 : MethodName := ⟨RJ0, "isLatin1", "()Z"⟩
abbrev cJ0_checkIndex_df160 : ByteArray := prog_11_method_155_code
def yJ0_checkIndex_df160 : MethodName := ⟨RJ0, "checkIndex", "(II)V"⟩
def RJ1 : String := "java/lang/StringLatin1"
def TJ1 : u_T := fun k => match k with
  | _ => ("", "", "", false)
def tyJ1 : Nat → FieldType := fun k => match k with
  | _ => .int
abbrev cJ1_charAt_3b067 : ByteArray := prog_12_method_2_code
def yJ1_charAt_3b067 : MethodName := ⟨RJ1, "charAt", "([BI)C"⟩
def RJ2 : String := "java/lang/StringUTF16"
def TJ2 : u_T := fun k => match k with
  | _ => ("", "", "", false)
def tyJ2 : Nat → FieldType := fun k => match k with
  | _ => .int
abbrev cJ2_getChar_3b067 : ByteArray := prog_13_method_5_code
def yJ2_getChar_3b067 : MethodName := ⟨RJ2, "getChar", "([BI)C"⟩
abbrev cJ2_length_9d52b : ByteArray := prog_13_method_6_code
def yJ2_length_9d52b : MethodName := ⟨RJ2, "length", "([B)I"⟩
abbrev cJ2_charAt_3b067 : ByteArray := prog_13_method_83_code
def yJ2_charAt_3b067 : MethodName := ⟨RJ2, "charAt", "([BI)C"⟩
abbrev cJ2_checkIndex_2214a : ByteArray := prog_13_method_91_code
def yJ2_checkIndex_2214a : MethodName := ⟨RJ2, "checkIndex", "(I[B)V"⟩
def RJ10 : String := "java/lang/System"
def TJ10 : u_T := fun k => match k with
  | _ => ("", "", "", false)
def tyJ10 : Nat → FieldType := fun k => match k with
  | _ => .int
def RJ3 : String := "jdk/internal/util/Preconditions"
def TJ3 : u_T := fun k => match k with
  | _ => ("", "", "", false)
def tyJ3 : Nat → FieldType := fun k => match k with
  | _ => .int
abbrev cJ3_checkIndex_8e157 : ByteArray := prog_15_method_11_code
def yJ3_checkIndex_8e157 : MethodName := ⟨RJ3, "checkIndex", "(IILjava/util/function/BiFunction;)I"⟩
def RL : String := "WishClerkLaw"
abbrev cL_law : ByteArray := code
def yL_law : MethodName := ⟨RL, "law", "([I)Z"⟩
abbrev vwCl : List vw_C := [(RX0, TX0, 19), (RX1, TX1, 11), (RX2, TX2, 6), (RX3, TX3, 3), (RX4, TX4, 2), (RX5, TX5, 10), (RX6, TX6, 31)]
theorem inX0 : ∀ w ∈ wsX00, w ∈ lw_tbl := by decide +kernel
theorem inX1 : ∀ w ∈ wsX10, w ∈ lw_tbl := by decide +kernel
theorem inX2 : ∀ w ∈ wsX20, w ∈ lw_tbl := by decide +kernel
theorem inX3 : ∀ w ∈ wsX30, w ∈ lw_tbl := by decide +kernel
theorem inX4 : ∀ w ∈ wsX40, w ∈ lw_tbl := by decide +kernel
theorem inX5 : ∀ w ∈ wsX50, w ∈ lw_tbl := by decide +kernel
theorem inX6 : ∀ w ∈ wsX60, w ∈ lw_tbl := by decide +kernel
end
section
/-! ===== a small machine: cells by number, locals by place; what one instruction asks, as a proposition ===== -/
abbrev sC : Type := (Nat × Nat × (Nat → Int32)) ⊕ ((Nat × List (Option Nat)) ⊕ (Nat × List Value))
abbrev sH : Type := List sC
abbrev sL : Type := List (Option Value)
abbrev sS : Type := List Value
abbrev sP : Type := Option Value → sH → Prop
abbrev sK : Type := sL → sS → sH → Prop
/-- a contract: name, bytes, locals, answer's type; kind (0 static, or the object's class and one), parameters, frames, words; reads only; footprint; start; end -/
abbrev sCtr : Type := (MethodName × ByteArray × Nat × Option FieldType) × (Nat × Nat × Nat × Nat) × Bool × (sS → sH → List Nat) × (sS → sH → Prop) × (sS → sH → sP)
abbrev sX : Type := List Nat × Value × Option sCtr
abbrev sOp : Type := Nat × Instr × sX
/-- a block: pc, whether the walk stops there, which locals are alive, the instructions -/
abbrev sBk : Type := Nat × Bool × List Bool × List sOp
abbrev o0 (pc : Nat) (i : Instr) : sOp := (pc, i, [], .null, none)
abbrev oK (pc : Nat) (i : Instr) (v : Value) : sOp := (pc, i, [], v, none)
abbrev oN (pc : Nat) (i : Instr) (ns : List Nat) : sOp := (pc, i, ns, .null, none)
abbrev oV (pc : Nat) (i : Instr) (ns : List Nat) (v : Value) : sOp := (pc, i, ns, v, none)
abbrev oC (pc : Nat) (i : Instr) (ns : List Nat) (c : sCtr) : sOp := (pc, i, ns, .null, some c)
def s_nth {α : Type} : List α → Nat → Option α
  | [], _ => none
  | a :: _, 0 => some a
  | _ :: l, n + 1 => s_nth l n
def s_rv (ad : Nat → Nat) : Value → Value
  | .ref k => .ref (ad k)
  | .int v => .int v
  | .long v => .long v
  | .float v => .float v
  | .double v => .double v
  | .null => .null
  | .retAddr v => .retAddr v
def s_mc (r : Nat → Nat) : sC → sC
  | .inl a => .inl a
  | .inr (.inl (k, l)) => .inr (.inl (k, l.map (Option.map r)))
  | .inr (.inr (c, fs)) => .inr (.inr (c, fs.map (s_rv r)))
def s_ix : List Nat → Nat → Nat → Nat
  | [], k, _ => match Nat.beq (k / 100) 5 with
    | true => k
    | false => k + 1000
  | a :: r, k, i => match Nat.beq a k with
    | true => i
    | false => s_ix r k (i + 1)
def s_rho (fp : List Nat) (k : Nat) : Nat := s_ix fp k 0
def s_un (fp : List Nat) (k : Nat) : Nat := match s_nth fp k with
  | some a => a
  | none => match Nat.beq (k / 100) 5 with
    | true => k
    | false => k - 1000
def s_sub (fp0 : List Nat) (L : sH) : List Nat → sH
  | [] => []
  | a :: r => match s_nth L a with
    | some c => s_mc (s_rho fp0) c :: s_sub fp0 L r
    | none => []
def s_set {α : Type} : List α → Nat → α → List α
  | [], _, _ => []
  | _ :: l, 0, v => v :: l
  | a :: l, n + 1, v => a :: s_set l n v
def s_put (fp0 : List Nat) : List Nat → sH → sH → sH
  | a :: r, c :: cs, L => s_put fp0 r cs (s_set L a (s_mc (s_un fp0) c))
  | _, _, L => L
/-- a list laid out in full ahead of the next step -/
def s_frc {α : Type} : List α → (List α → Prop) → Prop
  | [], k => k []
  | a :: r, k => s_frc r fun r' => k (a :: r')
def s_frV : List Value → (List Value → Prop) → Prop
  | [], k => k []
  | .int a :: r, k => s_frV r fun r' => k (.int a :: r')
  | .ref a :: r, k => s_frV r fun r' => k (.ref a :: r')
  | v :: r, k => s_frV r fun r' => k (v :: r')
def s_frH : sH → (sH → Prop) → Prop
  | [], k => k []
  | .inl a :: r, k => s_frH r fun r' => k (.inl a :: r')
  | .inr (.inl a) :: r, k => s_frH r fun r' => k (.inr (.inl a) :: r')
  | .inr (.inr (c, fs)) :: r, k => s_frV fs fun fs' => s_frH r fun r' => k (.inr (.inr (c, fs')) :: r')
def s_c2 : Option Value → Option Value
  | some (.long _) => none
  | some (.double _) => none
  | x => x
def s_st1 : sL → Nat → Value → sL
  | [], _, _ => []
  | _ :: l, 0, v => some v :: l
  | a :: l, 1, v => s_c2 a :: s_st1 l 0 v
  | a :: l, n + 2, v => a :: s_st1 l (n + 1) v
def s_clr : sL → sL
  | [] => []
  | _ :: l => none :: l
def s_st2 : sL → Nat → Value → sL
  | [], _, _ => []
  | _ :: l, 0, v => some v :: s_clr l
  | a :: l, 1, v => s_c2 a :: s_st2 l 0 v
  | a :: l, n + 2, v => a :: s_st2 l (n + 1) v
def s_mask : List Bool → sL → sL
  | true :: m, v :: l => v :: s_mask m l
  | false :: m, _ :: l => none :: s_mask m l
  | _, _ => []
def s_cat : sS → Nat
  | [] => 0
  | .long _ :: r => s_cat r + 2
  | .double _ :: r => s_cat r + 2
  | _ :: r => s_cat r + 1
/-- the top n values, deepest first, and the rest -/
def s_pop : Nat → sS → sS → (sS → sS → Prop) → Prop
  | 0, acc, st, f => f acc st
  | n + 1, acc, v :: st, f => s_pop n (v :: acc) st f
  | _ + 1, _, [], _ => False
def s_ldI (ls : sL) (n : Nat) (f : Int32 → Prop) : Prop := match s_nth ls n with
  | some (some (.int v)) => f v
  | _ => False
def s_ldL (ls : sL) (n : Nat) (f : Int64 → Prop) : Prop := match s_nth ls n with
  | some (some (.long v)) => f v
  | _ => False
def s_ldA (ls : sL) (n : Nat) (f : Nat → Prop) : Prop := match s_nth ls n with
  | some (some (.ref v)) => f v
  | _ => False
def s_I (st : sS) (f : Int32 → sS → Prop) : Prop := match st with
  | .int x :: r => f x r
  | _ => False
def s_J (st : sS) (f : Int64 → sS → Prop) : Prop := match st with
  | .long x :: r => f x r
  | _ => False
def s_A (st : sS) (f : Nat → sS → Prop) : Prop := match st with
  | .ref x :: r => f x r
  | _ => False
def s_II (st : sS) (f : Int32 → Int32 → sS → Prop) : Prop := match st with
  | .int y :: .int x :: r => f x y r
  | _ => False
def s_JJ (st : sS) (f : Int64 → Int64 → sS → Prop) : Prop := match st with
  | .long y :: .long x :: r => f x y r
  | _ => False
/-- what a field may hold -/
def s_fit (ty : FieldType) (v : Value) (Q : Prop) : Prop := match ty, v with
  | .int, .int _ => Q
  | .boolean, .int x => (x = 0 ∨ x = 1) ∧ Q
  | .object _, .ref _ => Q
  | .array _, .ref _ => Q
  | _, _ => False
def s_br (c : Prop) (j : Prop) (k : Prop) : Prop := (c → j) ∧ (¬ c → k)
def s_cmp (c : ClassFile.Cond) (x y : Int32) (j k : Prop) : Prop := match c with
  | .eq => s_br (x = y) j k
  | .ne => s_br (x = y) k j
  | .lt => s_br (x < y) j k
  | .ge => s_br (x < y) k j
  | .gt => s_br (y < x) j k
  | .le => s_br (y < x) k j
def s_tab (x : Int32) (jmp : Nat → Prop) (d : Nat) : Int → List Nat → Prop
  | _, [] => True
  | lo, b :: r => (x = Int32.ofInt lo → jmp b) ∧ s_tab x jmp d (lo + 1) r
def s_lok (x : Int32) (jmp : Nat → Prop) (d : Nat) : List (Int × Int) → List Nat → Prop
  | (a, _) :: ps, b :: r => (x = Int32.ofInt a → jmp b) ∧ (¬ x = Int32.ofInt a → s_lok x jmp d ps r)
  | [], [] => jmp d
  | _, _ => False
abbrev s_fld (ci k : Nat) : String × String × String × Bool := match vwCl[ci]? with
  | some (_, T, _) => T k
  | none => ("", "", "", true)
def s_fty : Nat → Nat → FieldType
  | 0, k => tyX0 k
  | 1, k => tyX1 k
  | 2, k => tyX2 k
  | 3, k => tyX3 k
  | 4, k => tyX4 k
  | 5, k => tyX5 k
  | _, k => tyX6 k
/-- the script: its length and ints, at the cell 599 -/
abbrev sE : Type := Option (Nat × (Nat → Int32))
def s_inc : List Nat → Bool
  | a :: b :: r => match Nat.blt a b with
    | true => s_inc (b :: r)
    | false => false
  | _ => true
def s_nin (a : Nat) : List Nat → Bool
  | [] => true
  | b :: r => match Nat.beq a b with
    | true => false
    | false => s_nin a r
def s_nd : List Nat → Bool
  | [] => true
  | a :: r => match s_nin a r with
    | true => s_nd r
    | false => false
def s_all (n : Nat) : List Nat → Bool
  | [] => true
  | a :: r => match Nat.blt a n with
    | true => s_all n r
    | false => false
/-- the places of a call: each once, all there -/
def s_fpk (fp : List Nat) (n : Nat) : Bool := match s_inc fp with
  | true => s_all n fp
  | false => match s_nd fp with
    | true => s_all n fp
    | false => false
/-- s_put, laid out after each cell -/
def s_pk (fp0 : List Nat) : List Nat → sH → sH → (sH → Prop) → Prop
  | a :: r, c :: cs, L, k => s_frc (s_set L a (s_mc (s_un fp0) c)) fun L' => s_pk fp0 r cs L' k
  | _, _, L, k => k L
/-- a cell's number, by its figures -/
def s_frN : Nat → (Nat → Prop) → Prop
  | 0, k => k 0
  | 1, k => k 1
  | 2, k => k 2
  | 3, k => k 3
  | 4, k => k 4
  | 5, k => k 5
  | 6, k => k 6
  | 7, k => k 7
  | 8, k => k 8
  | 9, k => k 9
  | 10, k => k 10
  | 11, k => k 11
  | 12, k => k 12
  | 13, k => k 13
  | 14, k => k 14
  | 15, k => k 15
  | 16, k => k 16
  | 17, k => k 17
  | 18, k => k 18
  | 19, k => k 19
  | 20, k => k 20
  | 21, k => k 21
  | 22, k => k 22
  | 23, k => k 23
  | 24, k => k 24
  | 25, k => k 25
  | 26, k => k 26
  | 27, k => k 27
  | 28, k => k 28
  | 29, k => k 29
  | 30, k => k 30
  | 31, k => k 31
  | 32, k => k 32
  | 33, k => k 33
  | 34, k => k 34
  | 35, k => k 35
  | 36, k => k 36
  | 37, k => k 37
  | 38, k => k 38
  | 39, k => k 39
  | 40, k => k 40
  | 41, k => k 41
  | 42, k => k 42
  | 43, k => k 43
  | 44, k => k 44
  | 45, k => k 45
  | 46, k => k 46
  | 47, k => k 47
  | 48, k => k 48
  | 49, k => k 49
  | 50, k => k 50
  | 51, k => k 51
  | 52, k => k 52
  | 53, k => k 53
  | 54, k => k 54
  | 55, k => k 55
  | 56, k => k 56
  | 57, k => k 57
  | 58, k => k 58
  | 59, k => k 59
  | 60, k => k 60
  | 61, k => k 61
  | 62, k => k 62
  | 63, k => k 63
  | 64, k => k 64
  | 65, k => k 65
  | 66, k => k 66
  | 67, k => k 67
  | 68, k => k 68
  | 69, k => k 69
  | 70, k => k 70
  | 71, k => k 71
  | 72, k => k 72
  | 73, k => k 73
  | 74, k => k 74
  | 75, k => k 75
  | 76, k => k 76
  | 77, k => k 77
  | 78, k => k 78
  | 79, k => k 79
  | n, k => k n
def s_frL : List Nat → (List Nat → Prop) → Prop
  | [], k => k []
  | a :: r, k => s_frN a fun a' => s_frL r fun r' => k (a' :: r')
def s_callP (ro : Bool) (fp : List Nat) (pre : sS → sH → Prop) (post : sS → sH → sP) (args : sS) (L : sH) (k : Option Value → sH → Prop) : Prop :=
  match s_fpk fp L.length, Nat.ble fp.length 500, ro with
  | true, true, true => s_frV (args.map (s_rv (s_rho fp))) fun vs => s_frc (s_sub fp L fp) fun sub => pre vs sub ∧ ∀ r, post vs sub r sub → k (r.map (s_rv (s_un fp))) L
  | true, true, false => s_frV (args.map (s_rv (s_rho fp))) fun vs => s_frc (s_sub fp L fp) fun sub => pre vs sub ∧ ∀ r L', post vs sub r L' → s_pk fp fp L' L fun L1 => s_frH L1 fun L2 => k (r.map (s_rv (s_un fp))) L2
  | _, _, _ => False
def s_npar (kd n : Nat) : Nat := match kd with
  | 0 => n
  | _ + 1 => n + 1
def s_rcv (kd : Nat) (args : sS) (L : sH) (Q : Prop) : Prop := match kd with
  | 0 => Q
  | ci + 1 => match args with
    | .ref b :: _ => match s_nth L b with
      | some (.inr (.inr (cj, _))) => match Nat.beq ci cj with
        | true => Q
        | false => False
      | some _ => False
      | none => match Nat.beq ci 99, Nat.ble 500 b, Nat.ble b 509 with
        | true, true, true => Q
        | _, _, _ => False
    | _ => False
def s_inv (x : sX) (k : sK) (ls : sL) (st : sS) (L : sH) : Prop := match x.2.2 with
  | some (_, (kd, n, _), ro, fp, pre, post) => s_pop (s_npar kd n) [] st fun args rest => match Nat.ble (s_cat rest) 8 with
    | true => s_rcv kd args L (s_frL (fp args L) fun fp' => s_callP ro fp' pre post args L fun r L' => match r with
      | some v => k ls (v :: rest) L'
      | none => k ls rest L')
    | false => False
  | none => False
def s_st (E : sE) (jmp : Nat → sK) (P : sP) (z : Bool) (i : Instr) (x : sX) (k : sK) (ls : sL) (st : sS) (L : sH) : Prop :=
  match i with
  | .nop => match x.1 with
    | b :: _ => jmp b ls st L
    | _ => False
  | .iconst _ => k ls (x.2.1 :: st) L
  | .bipush _ => k ls (x.2.1 :: st) L
  | .sipush _ => k ls (x.2.1 :: st) L
  | .lconst _ => k ls (x.2.1 :: st) L
  | .ldc _ => k ls (x.2.1 :: st) L
  | .ldc_w _ => k ls (x.2.1 :: st) L
  | .ldc2_w _ => k ls (x.2.1 :: st) L
  | .iload n => s_ldI ls n fun v => k ls (.int v :: st) L
  | .iload_n n => s_ldI ls n fun v => k ls (.int v :: st) L
  | .lload n => s_ldL ls n fun v => k ls (.long v :: st) L
  | .lload_n n => s_ldL ls n fun v => k ls (.long v :: st) L
  | .aload n => s_ldA ls n fun v => k ls (.ref v :: st) L
  | .aload_n n => s_ldA ls n fun v => k ls (.ref v :: st) L
  | .istore n => s_I st fun v r => s_frc (s_st1 ls n (.int v)) fun ls' => k ls' r L
  | .istore_n n => s_I st fun v r => s_frc (s_st1 ls n (.int v)) fun ls' => k ls' r L
  | .lstore n => s_J st fun v r => s_frc (s_st2 ls n (.long v)) fun ls' => k ls' r L
  | .lstore_n n => s_J st fun v r => s_frc (s_st2 ls n (.long v)) fun ls' => k ls' r L
  | .astore n => s_A st fun v r => s_frc (s_st1 ls n (.ref v)) fun ls' => k ls' r L
  | .astore_n n => s_A st fun v r => s_frc (s_st1 ls n (.ref v)) fun ls' => k ls' r L
  | .iinc n _ => s_ldI ls n fun v => match x.2.1 with
    | .int c => s_frc (s_st1 ls n (.int (v + c))) fun ls' => k ls' st L
    | _ => False
  | .iadd => s_II st fun x y r => k ls (.int (x + y) :: r) L
  | .isub => s_II st fun x y r => k ls (.int (x - y) :: r) L
  | .imul => s_II st fun x y r => k ls (.int (x * y) :: r) L
  | .iand => s_II st fun x y r => k ls (.int (x &&& y) :: r) L
  | .ior => s_II st fun x y r => k ls (.int (x ||| y) :: r) L
  | .ixor => s_II st fun x y r => k ls (.int (x ^^^ y) :: r) L
  | .ishl => s_II st fun x y r => k ls (.int (x <<< (y &&& 31)) :: r) L
  | .ishr => s_II st fun x y r => k ls (.int (x >>> (y &&& 31)) :: r) L
  | .iushr => s_II st fun x y r => k ls (.int (x.toUInt32 >>> (y.toUInt32 &&& Int32.toUInt32 31)).toInt32 :: r) L
  | .idiv => s_II st fun x y r => ¬ y = 0 ∧ k ls (.int (x / y) :: r) L
  | .irem => s_II st fun x y r => ¬ y = 0 ∧ k ls (.int (x - x / y * y) :: r) L
  | .ladd => s_JJ st fun x y r => k ls (.long (x + y) :: r) L
  | .lmul => s_JJ st fun x y r => k ls (.long (x * y) :: r) L
  | .ldiv => s_JJ st fun x y r => ¬ y = 0 ∧ k ls (.long (x / y) :: r) L
  | .lrem => s_JJ st fun x y r => ¬ y = 0 ∧ k ls (.long (x - x / y * y) :: r) L
  | .lcmp => s_JJ st fun x y r => k ls (.int (lg_cmp x y) :: r) L
  | .i2l => s_I st fun x r => k ls (.long x.toInt64 :: r) L
  | .i2b => s_I st fun x r => k ls (.int x.toInt8.toInt32 :: r) L
  | .i2s => s_I st fun x r => k ls (.int x.toInt16.toInt32 :: r) L
  | .dup => match st with
    | .int a :: r => k ls (.int a :: .int a :: r) L
    | .ref a :: r => k ls (.ref a :: .ref a :: r) L
    | _ => False
  | .dup2 => match st with
    | .int a :: .ref b :: r => k ls (.int a :: .ref b :: .int a :: .ref b :: r) L
    | _ => False
  | .pop => match st with
    | .int _ :: r => k ls r L
    | _ => False
  | .goto _ => match x.1 with
    | b :: _ => jmp b ls st L
    | _ => False
  | .ifCond c _ => match x.1 with
    | b :: _ => s_I st fun v r => s_cmp c v 0 (jmp b ls r L) (k ls r L)
    | _ => False
  | .if_icmp c _ => match x.1 with
    | b :: _ => s_II st fun v w r => s_cmp c v w (jmp b ls r L) (k ls r L)
    | _ => False
  | .tableswitch _ lo hi _ => match x.1 with
    | d :: bs => s_I st fun v r => s_tab v (fun b => jmp b ls r L) d lo bs ∧ (v.toInt < lo ∨ hi < v.toInt → jmp d ls r L)
    | _ => False
  | .lookupswitch _ ps => match x.1 with
    | d :: bs => s_I st fun v r => s_lok v (fun b => jmp b ls r L) d ps.toList bs
    | _ => False
  | .getfield _ => match x.1 with
    | ci :: j :: _ => s_A st fun a r => match s_nth L a with
      | some (.inr (.inr (cj, fs))) => match Nat.beq ci cj with
        | true => match s_nth fs j with
          | some v => k ls (v :: r) L
          | none => False
        | false => False
      | _ => False
    | _ => False
  | .putfield _ => match x.1 with
    | ci :: j :: _ => match st with
      | v :: .ref a :: r => match s_nth L a with
        | some (.inr (.inr (cj, fs))) => match Nat.beq ci cj, Nat.ble (fs.length) j with
          | true, false => s_fit (s_fty ci j) v (s_frH (s_set L a (.inr (.inr (cj, s_set fs j v)))) fun L' => k ls r L')
          | _, _ => False
        | _ => False
      | _ => False
    | _ => False
  | .iaload => match st with
    | .int i :: .ref a :: r => match s_nth L a with
      | some (.inl (0, n, f)) => vp_in i n ∧ k ls (.int (f i.toNatClampNeg) :: r) L
      | some _ => False
      | none => match Nat.beq a 599, E with
        | true, some (n, xs) => vp_in i n ∧ k ls (.int (xs i.toNatClampNeg) :: r) L
        | _, _ => False
    | _ => False
  | .iastore => match st with
    | .int v :: .int i :: .ref a :: r => match s_nth L a with
      | some (.inl (0, n, f)) => vp_in i n ∧ s_frH (s_set L a (.inl (0, n, upd f i.toNatClampNeg v))) fun L' => k ls r L'
      | _ => False
    | _ => False
  | .baload => match st with
    | .int i :: .ref a :: r => match s_nth L a with
      | some (.inl (1, n, f)) => vp_in i n ∧ k ls (.int (f i.toNatClampNeg) :: r) L
      | some (.inl (2, n, f)) => vp_in i n ∧ k ls (.int (f i.toNatClampNeg) :: r) L
      | _ => False
    | _ => False
  | .bastore => match st with
    | .int v :: .int i :: .ref a :: r => match s_nth L a with
      | some (.inl (1, n, f)) => vp_in i n ∧ s_frH (s_set L a (.inl (1, n, upd f i.toNatClampNeg (vp_nar .byte v)))) fun L' => k ls r L'
      | some (.inl (2, n, f)) => vp_in i n ∧ s_frH (s_set L a (.inl (2, n, upd f i.toNatClampNeg (vp_nar .boolean v)))) fun L' => k ls r L'
      | _ => False
    | _ => False
  | .aaload => match st with
    | .int i :: .ref a :: r => match s_nth L a with
      | some (.inr (.inl (3, l))) => vp_in i l.length ∧ match s_nth l i.toNatClampNeg with
        | some (some q) => k ls (.ref q :: r) L
        | _ => False
      | some (.inr (.inl (4, l))) => vp_in i l.length ∧ match s_nth l i.toNatClampNeg with
        | some (some q) => k ls (.ref q :: r) L
        | _ => False
      | _ => False
    | _ => False
  | .arraylength => match st with
    | .ref a :: r => match Nat.beq a 599, E with
      | true, some (n, _) => k ls (.int (nI n) :: r) L
      | _, _ => False
    | _ => False
  | .ireturn => match st with
    | [.int v] => match z with
      | true => (v = 0 ∨ v = 1) ∧ P (some (.int v)) L
      | false => P (some (.int v)) L
    | _ => False
  | .lreturn => match st with
    | [.long v] => P (some (.long v)) L
    | _ => False
  | .return_ => match st with
    | [] => P none L
    | _ => False
  | .invokevirtual _ => s_inv x k ls st L
  | .invokestatic _ => match x.2.2 with
    | some _ => s_inv x k ls st L
    | none => match x.1 with
     | [_, 1] => s_II st fun x y r => match Nat.ble (s_cat r) 8 with
       | true => k ls (.int (if x < y then y else x) :: r) L
       | false => False
     | [_, 2] => s_II st fun x y r => match Nat.ble (s_cat r) 8 with
       | true => k ls (.int (if y < x then y else x) :: r) L
       | false => False
     | [_] => match st with
      | .int n :: .int dp :: .ref d :: .int sp :: .ref a :: r => match s_nth L a, s_nth L d with
        | some (.inl (0, n0, f)), some (.inl (0, n1, g)) => match Nat.ble (s_cat r) 8 with
          | true => ((¬ sp < 0) ∧ (¬ dp < 0) ∧ (¬ n < 0) ∧ sp.toNatClampNeg + n.toNatClampNeg ≤ n0 ∧ dp.toNatClampNeg + n.toNatClampNeg ≤ n1) ∧ s_frH (s_set L d (.inl (0, n1, va_cpy f g sp.toNatClampNeg dp.toNatClampNeg n.toNatClampNeg))) fun L' => k ls r L'
          | false => False
        | _, _ => False
      | _ => False
     | _ => False
  | _ => False
def s_wp (E : sE) (jmp : Nat → sK) (P : sP) (z : Bool) : List sOp → sK
  | [], _, _, _ => False
  | (_, i, x) :: r, ls, st, L => s_st E jmp P z i x (s_wp E jmp P z r) ls st L
def s_go (E : sE) (bl : List sBk) (G : Nat → sK) (P : sP) (z : Bool) : Nat → Nat → sK
  | 0, _, _, _, _ => False
  | n + 1, b, ls, st, L => match s_nth bl b with
    | some (_, cut, live, ops) => match cut with
      | true => G b (s_mask live ls) st L
      | false => s_wp E (s_go E bl G P z n) P z ops (s_mask live ls) st L
    | none => False
/-- the walk of one block, up to the next places where it stops -/
def s_run (E : sE) (bl : List sBk) (G : Nat → sK) (P : sP) (z : Bool) (b : Nat) (ls : sL) (st : sS) (L : sH) : Prop := match s_nth bl b with
  | some (_, _, _, ops) => s_wp E (s_go E bl G P z 99) P z ops ls st L
  | none => False
def s_Clo (E : sE) (bl : List sBk) (G : Nat → sK) (P : sP) (z : Bool) : Prop := ∀ b ls st L, s_run E bl G P z b ls st L → G b ls st L
end
section
/-! ===== the small machine's steps hold on the machine ===== -/
def s_rc (cy : Nat → ClassId) (ad : Nat → Nat) : sC → va_E
  | .inl (k, n, f) => .inl (cy k, (n, .inl f))
  | .inr (.inl (k, l)) => .inl (cy k, (l.length, .inr (.inr (.inr (.inr (fun j => ((s_nth l j).join).map ad))))))
  | .inr (.inr (c, fs)) => .inr (c, fs.map (s_rv ad))
def s_rl (cy : Nat → ClassId) (ad : Nat → Nat) (L : sH) : va_W := L.mapIdx (fun i c => (ad i, s_rc cy ad c))
def s_tys (cy : Nat → ClassId) : List (ClassId × FieldType) := [(cy 0, .int), (cy 1, .byte), (cy 2, .boolean), (cy 3, .object "WishClerk$Book"), (cy 4, .object "WishClerk$Sheet")]
def s_as (ad : Nat → Nat) : Nat → sL → List (Nat × Value)
  | _, [] => []
  | i, some v :: l => (i, s_rv ad v) :: s_as ad (i + 1) l
  | i, none :: l => s_as ad (i + 1) l
theorem s_nth_eq {α : Type} : ∀ (l : List α) (n : Nat), s_nth l n = l[n]?
  | [], n => by simp [s_nth]
  | a :: l, 0 => by simp [s_nth]
  | a :: l, n + 1 => by simp [s_nth, s_nth_eq l n]
theorem s_set_eq {α : Type} : ∀ (l : List α) (n : Nat) (v : α), s_set l n v = l.set n v
  | [], n, v => by simp [s_set]
  | a :: l, 0, v => by simp [s_set]
  | a :: l, n + 1, v => by simp [s_set, s_set_eq l n v]
theorem s_rl_at {cy : Nat → ClassId} {ad : Nat → Nat} {L : sH} {a : Nat} {c : sC} (h : s_nth L a = some c) : (s_rl cy ad L)[a]? = some (ad a, s_rc cy ad c) := by
  rw [s_nth_eq] at h
  simp [s_rl, h]
theorem s_rl_set (cy : Nat → ClassId) (ad : Nat → Nat) (L : sH) (a : Nat) (c : sC) : s_rl cy ad (s_set L a c) = (s_rl cy ad L).set a (ad a, s_rc cy ad c) := by
  rw [s_set_eq]
  apply List.ext_getElem?
  intro i
  simp only [s_rl, List.getElem?_mapIdx, List.getElem?_set, List.length_mapIdx]
  by_cases h : a = i
  · subst h
    by_cases h2 : a < L.length
    · simp [h2]
    · simp [h2]
  · simp [h]
theorem s_rl_len (cy : Nat → ClassId) (ad : Nat → Nat) (L : sH) : (s_rl cy ad L).length = L.length := by simp [s_rl]
theorem s_rv_cat (ad : Nat → Nat) (v : Value) : (s_rv ad v).category = v.category := by cases v <;> rfl
theorem s_rv_comp (f g : Nat → Nat) (v : Value) : s_rv f (s_rv g v) = s_rv (fun k => f (g k)) v := by cases v <;> rfl
theorem s_nth_map {α β : Type} (f : α → β) : ∀ (l : List α) (j : Nat), s_nth (l.map f) j = (s_nth l j).map f
  | [], j => rfl
  | a :: l, 0 => rfl
  | a :: l, j + 1 => s_nth_map f l j
theorem s_rc_mc (cy : Nat → ClassId) (ad r : Nat → Nat) (c : sC) : s_rc cy ad (s_mc r c) = s_rc cy (fun k => ad (r k)) c := by
  rcases c with ⟨k, n, f⟩ | ⟨k, l⟩ | ⟨c, fs⟩
  · rfl
  · have e : (fun j => ((s_nth (l.map (Option.map r)) j).join).map ad) = (fun j => ((s_nth l j).join).map (fun k => ad (r k))) := by
      funext j
      rw [s_nth_map]
      cases s_nth l j with
      | none => rfl
      | some x => cases x <;> rfl
    simp only [s_mc, s_rc, List.length_map, e]
  · simp only [s_mc, s_rc, List.map_map]
    congr 3
    funext v
    exact s_rv_comp ad r v
theorem s_rv_id {f : Nat → Nat} (h : ∀ k, f k = k) (v : Value) : s_rv f v = v := by cases v <;> simp [s_rv, h]
theorem s_ix_spec : ∀ (fp : List Nat) (k i : Nat), (∃ j, s_ix fp k i = i + j ∧ fp[j]? = some k) ∨ (s_ix fp k i = if k / 100 = 5 then k else k + 1000)
  | [], k, i => by
    refine Or.inr ?_
    unfold s_ix
    by_cases h : k / 100 = 5
    · have h2 : Nat.beq (k / 100) 5 = true := by rw [h]; rfl
      simp [h2, h]
    · have h2 : Nat.beq (k / 100) 5 = false := by
        cases hb : Nat.beq (k / 100) 5
        · rfl
        · exact absurd (Nat.eq_of_beq_eq_true hb) h
      simp [h2, h]
  | a :: r, k, i => by
    unfold s_ix
    cases h : Nat.beq a k with
    | true => exact Or.inl ⟨0, rfl, by simp [Nat.eq_of_beq_eq_true h]⟩
    | false =>
      rcases s_ix_spec r k (i + 1) with ⟨j, h1, h2⟩ | h1
      · refine Or.inl ⟨j + 1, ?_, by simpa using h2⟩
        show s_ix r k (i + 1) = _
        omega
      · exact Or.inr h1
theorem s_un_rho (fp : List Nat) (hf : fp.length ≤ 500) (k : Nat) : s_un fp (s_rho fp k) = k := by
  unfold s_rho s_un
  rcases s_ix_spec fp k 0 with ⟨j, h1, h2⟩ | h1
  · rw [h1, s_nth_eq, Nat.zero_add, h2]
  · rw [h1, s_nth_eq]
    by_cases h : k / 100 = 5
    · have h2 : Nat.beq (k / 100) 5 = true := by rw [h]; rfl
      rw [if_pos h, List.getElem?_eq_none (by omega)]
      simp [h2]
    · rw [if_neg h, List.getElem?_eq_none (by omega)]
      have h2 : Nat.beq ((k + 1000) / 100) 5 = false := by
        cases hb : Nat.beq ((k + 1000) / 100) 5
        · rfl
        · exact absurd (Nat.eq_of_beq_eq_true hb) (by omega)
      simp [h2]
theorem s_un_sp {fp : List Nat} (hf : fp.length ≤ 500) {k : Nat} (hk : k / 100 = 5) : s_un fp k = k := by
  unfold s_un
  rw [s_nth_eq, List.getElem?_eq_none (by omega)]
  have h2 : Nat.beq (k / 100) 5 = true := by rw [hk]; rfl
  simp [h2]
theorem s_as_mem (ad : Nat → Nat) : ∀ (l : sL) (i j : Nat) (w : Value), (j, w) ∈ s_as ad i l ↔ ∃ n v, j = i + n ∧ s_nth l n = some (some v) ∧ w = s_rv ad v
  | [], i, j, w => by simp [s_as, s_nth]
  | none :: l, i, j, w => by
    unfold s_as
    rw [s_as_mem ad l (i + 1) j w]
    constructor
    · rintro ⟨n, v, h1, h2, h3⟩
      exact ⟨n + 1, v, by omega, h2, h3⟩
    · rintro ⟨n, v, h1, h2, h3⟩
      cases n with
      | zero => simp [s_nth] at h2
      | succ n => exact ⟨n, v, by omega, h2, h3⟩
  | some x :: l, i, j, w => by
    unfold s_as
    rw [List.mem_cons, s_as_mem ad l (i + 1) j w]
    constructor
    · rintro (h | ⟨n, v, h1, h2, h3⟩)
      · obtain ⟨rfl, rfl⟩ := Prod.mk.inj h
        exact ⟨0, x, rfl, rfl, rfl⟩
      · exact ⟨n + 1, v, by omega, h2, h3⟩
    · rintro ⟨n, v, h1, h2, h3⟩
      cases n with
      | zero =>
        simp only [s_nth, Option.some.injEq] at h2
        subst h2
        exact Or.inl (by rw [h1, h3]; rfl)
      | succ n => exact Or.inr ⟨n, v, by omega, h2, h3⟩
theorem s_as_at {ad : Nat → Nat} {lr : Array Slot} {nL : Nat} {ls : sL} (h : lv_has lr nL (s_as ad 0 ls)) {n : Nat} {v : Value} (hn : s_nth ls n = some (some v)) : lr[n]? = some (.val (s_rv ad v)) :=
  h.2.2 (n, s_rv ad v) ((s_as_mem ad ls 0 n _).mpr ⟨n, v, (Nat.zero_add n).symm, hn, rfl⟩)
theorem s_c2_some {o : Option Value} {u : Value} (h : s_c2 o = some u) : o = some u ∧ u.category = 1 := by
  rcases o with _ | v
  · simp [s_c2] at h
  · cases v <;> simp [s_c2] at h <;> subst h <;> exact ⟨rfl, rfl⟩
theorem s_st1_at : ∀ (l : sL) (n : Nat) (v : Value) (j : Nat) (u : Value), s_nth (s_st1 l n v) j = some (some u) → (j = n ∧ u = v) ∨ (j ≠ n ∧ s_nth l j = some (some u) ∧ (j + 1 = n → u.category = 1))
  | [], n, v, j, u, h => by simp [s_st1, s_nth] at h
  | a :: l, 0, v, 0, u, h => by simp only [s_st1, s_nth, Option.some.injEq] at h; exact Or.inl ⟨rfl, h.symm⟩
  | a :: l, 0, v, j + 1, u, h => Or.inr ⟨by omega, h, fun e => by omega⟩
  | a :: l, 1, v, 0, u, h => by
    simp only [s_st1, s_nth, Option.some.injEq] at h
    obtain ⟨h1, h2⟩ := s_c2_some h
    exact Or.inr ⟨by omega, by simp [s_nth, h1], fun _ => h2⟩
  | a :: l, 1, v, j + 1, u, h => by
    rcases s_st1_at l 0 v j u h with ⟨h1, h2⟩ | ⟨h1, h2, h3⟩
    · exact Or.inl ⟨by omega, h2⟩
    · exact Or.inr ⟨by omega, h2, fun e => by omega⟩
  | a :: l, n + 2, v, 0, u, h => Or.inr ⟨by omega, h, fun e => by omega⟩
  | a :: l, n + 2, v, j + 1, u, h => by
    rcases s_st1_at l (n + 1) v j u h with ⟨h1, h2⟩ | ⟨h1, h2, h3⟩
    · exact Or.inl ⟨by omega, h2⟩
    · exact Or.inr ⟨by omega, h2, fun e => h3 (by omega)⟩
theorem s_clr_at : ∀ (l : sL) (j : Nat) (u : Value), s_nth (s_clr l) j = some (some u) → j ≠ 0 ∧ s_nth l j = some (some u)
  | [], j, u, h => by simp [s_clr, s_nth] at h
  | a :: l, 0, u, h => by simp [s_clr, s_nth] at h
  | a :: l, j + 1, u, h => ⟨by omega, h⟩
theorem s_st2_at : ∀ (l : sL) (n : Nat) (v : Value) (j : Nat) (u : Value), s_nth (s_st2 l n v) j = some (some u) → (j = n ∧ u = v) ∨ (j ≠ n ∧ j ≠ n + 1 ∧ s_nth l j = some (some u) ∧ (j + 1 = n → u.category = 1))
  | [], n, v, j, u, h => by simp [s_st2, s_nth] at h
  | a :: l, 0, v, 0, u, h => by simp only [s_st2, s_nth, Option.some.injEq] at h; exact Or.inl ⟨rfl, h.symm⟩
  | a :: l, 0, v, j + 1, u, h => by
    obtain ⟨h1, h2⟩ := s_clr_at l j u h
    exact Or.inr ⟨by omega, by omega, h2, fun e => by omega⟩
  | a :: l, 1, v, 0, u, h => by
    simp only [s_st2, s_nth, Option.some.injEq] at h
    obtain ⟨h1, h2⟩ := s_c2_some h
    exact Or.inr ⟨by omega, by omega, by simp [s_nth, h1], fun _ => h2⟩
  | a :: l, 1, v, j + 1, u, h => by
    rcases s_st2_at l 0 v j u h with ⟨h1, h2⟩ | ⟨h1, h2, h3, h4⟩
    · exact Or.inl ⟨by omega, h2⟩
    · exact Or.inr ⟨by omega, by omega, h3, fun e => by omega⟩
  | a :: l, n + 2, v, 0, u, h => Or.inr ⟨by omega, by omega, h, fun e => by omega⟩
  | a :: l, n + 2, v, j + 1, u, h => by
    rcases s_st2_at l (n + 1) v j u h with ⟨h1, h2⟩ | ⟨h1, h2, h3, h4⟩
    · exact Or.inl ⟨by omega, h2⟩
    · exact Or.inr ⟨by omega, by omega, h3, fun e => h4 (by omega)⟩
theorem s_mask_at : ∀ (m : List Bool) (l : sL) (j : Nat) (u : Value), s_nth (s_mask m l) j = some (some u) → s_nth l j = some (some u)
  | [], l, j, u, h => by simp [s_mask, s_nth] at h
  | true :: m, [], j, u, h => by simp [s_mask, s_nth] at h
  | false :: m, [], j, u, h => by simp [s_mask, s_nth] at h
  | true :: m, a :: l, 0, u, h => h
  | true :: m, a :: l, j + 1, u, h => s_mask_at m l j u h
  | false :: m, a :: l, 0, u, h => by simp [s_mask, s_nth] at h
  | false :: m, a :: l, j + 1, u, h => s_mask_at m l j u h
theorem s_has_st1 {ad : Nat → Nat} {lr : Array Slot} {nL i : Nat} {ls : sL} {v : Value} (h : lv_has lr nL ((i, s_rv ad v) :: (s_as ad 0 ls).filter (fun q => !(q.1 == i) && !(q.1 + 1 == i && q.2.category == 2)))) : lv_has lr nL (s_as ad 0 (s_st1 ls i v)) := by
  refine ⟨h.1, h.2.1, fun q hq => h.2.2 q ?_⟩
  obtain ⟨j, w⟩ := q
  obtain ⟨n, u, h1, h2, h3⟩ := (s_as_mem ad _ 0 j w).mp hq
  rw [Nat.zero_add] at h1
  subst h1
  rcases s_st1_at ls i v j u h2 with ⟨e1, e2⟩ | ⟨e1, e2, e3⟩
  · subst e1; subst e2; subst h3
    exact List.mem_cons_self
  · refine List.mem_cons_of_mem _ (List.mem_filter.mpr ⟨(s_as_mem ad ls 0 j w).mpr ⟨j, u, (Nat.zero_add j).symm, e2, h3⟩, ?_⟩)
    have hc : w.category = u.category := by rw [h3, s_rv_cat]
    by_cases hj : j + 1 = i
    · have := e3 hj
      simp [e1, hj, hc, this]
    · simp [e1, hj]
theorem s_has_st2 {ad : Nat → Nat} {lr : Array Slot} {nL i : Nat} {ls : sL} {v : Value} (h : lv_has lr nL ((i, s_rv ad v) :: (s_as ad 0 ls).filter (fun q => !(q.1 == i) && (!(q.1 == i + 1) && !(q.1 + 1 == i && q.2.category == 2))))) : lv_has lr nL (s_as ad 0 (s_st2 ls i v)) := by
  refine ⟨h.1, h.2.1, fun q hq => h.2.2 q ?_⟩
  obtain ⟨j, w⟩ := q
  obtain ⟨n, u, h1, h2, h3⟩ := (s_as_mem ad _ 0 j w).mp hq
  rw [Nat.zero_add] at h1
  subst h1
  rcases s_st2_at ls i v j u h2 with ⟨e1, e2⟩ | ⟨e1, e4, e2, e3⟩
  · subst e1; subst e2; subst h3
    exact List.mem_cons_self
  · refine List.mem_cons_of_mem _ (List.mem_filter.mpr ⟨(s_as_mem ad ls 0 j w).mpr ⟨j, u, (Nat.zero_add j).symm, e2, h3⟩, ?_⟩)
    have hc : w.category = u.category := by rw [h3, s_rv_cat]
    by_cases hj : j + 1 = i
    · have := e3 hj
      have e5 : ¬ j = i + 1 := by omega
      simp [e1, e5, hj, hc, this]
    · simp [e1, e4, hj]
theorem s_has_mask {ad : Nat → Nat} {lr : Array Slot} {nL : Nat} {ls : sL} (m : List Bool) (h : lv_has lr nL (s_as ad 0 ls)) : lv_has lr nL (s_as ad 0 (s_mask m ls)) := by
  refine ⟨h.1, h.2.1, fun q hq => h.2.2 q ?_⟩
  obtain ⟨j, w⟩ := q
  obtain ⟨n, u, h1, h2, h3⟩ := (s_as_mem ad _ 0 j w).mp hq
  exact (s_as_mem ad ls 0 j w).mpr ⟨n, u, h1, s_mask_at m ls n u h2, h3⟩
theorem s_frc_eq {α : Type} : ∀ (l : List α) (k : List α → Prop), s_frc l k = k l
  | [], k => rfl
  | a :: r, k => s_frc_eq r fun r' => k (a :: r')
theorem s_frV_eq : ∀ (l : List Value) (k : List Value → Prop), s_frV l k = k l
  | [], k => rfl
  | v :: r, k => by cases v <;> exact s_frV_eq r _
theorem s_frH_eq : ∀ (l : sH) (k : sH → Prop), s_frH l k = k l
  | [], k => rfl
  | .inl a :: r, k => s_frH_eq r _
  | .inr (.inl a) :: r, k => s_frH_eq r _
  | .inr (.inr (c, fs)) :: r, k => by
    show s_frV fs (fun fs' => s_frH r fun r' => k (.inr (.inr (c, fs')) :: r')) = _
    rw [s_frV_eq, s_frH_eq r]
theorem s_frN_eq (n : Nat) (k : Nat → Prop) : s_frN n k = k n := by
  unfold s_frN
  split <;> rfl
theorem s_frL_eq : ∀ (l : List Nat) (k : List Nat → Prop), s_frL l k = k l
  | [], k => rfl
  | a :: r, k => by
    show s_frN a (fun a' => s_frL r fun r' => k (a' :: r')) = _
    rw [s_frN_eq, s_frL_eq r]
theorem s_pk_eq (fp0 : List Nat) : ∀ (fp : List Nat) (cs L : sH) (k : sH → Prop), s_pk fp0 fp cs L k = k (s_put fp0 fp cs L)
  | [], cs, L, k => by cases cs <;> rfl
  | a :: r, [], L, k => rfl
  | a :: r, c :: cs, L, k => by
    show s_frc (s_set L a (s_mc (s_un fp0) c)) (fun L' => s_pk fp0 r cs L' k) = _
    rw [s_frc_eq, s_pk_eq fp0 r cs]
    rfl
end
section
/-! ===== contracts of the small machine, and the call ===== -/
def gT : List Cond := lw_tbl.filter goodWord
theorem gT_in {w : Cond} (h : w ∈ gT) : w ∈ lw_tbl ∧ goodWord w = true := List.mem_filter.mp h
theorem gT_of {w : Cond} (h : w ∈ lw_tbl) (hg : goodWord w = true) : w ∈ gT := List.mem_filter.mpr ⟨h, hg⟩
def s_nests : List (String × Nat × MethodName) := [("WishClerk$Book", 88, yX5_hasBit), ("WishClerk$Reader", 144, yX5_withBit), ("WishClerk$Reader", 171, yX5_hasBit), ("WishClerk$Rows", 59, yX5_hasBit)]
def s_lit : List (Nat × String) := [(96, "one"), (105, "wish"), (110, "needs"), (115, "clash"), (120, "list"), (125, "depth"), (130, "plan"), (135, "alive"), (137, "barred"), (139, "dead")]
def s_len : List Nat := [3, 4, 5, 5, 4, 5, 4, 5, 6, 4]
def s_byt : List (List Int32) := [[111, 110, 101], [119, 105, 115, 104], [110, 101, 101, 100, 115], [99, 108, 97, 115, 104], [108, 105, 115, 116], [100, 101, 112, 116, 104], [112, 108, 97, 110], [97, 108, 105, 118, 101], [98, 97, 114, 114, 101, 100], [100, 101, 97, 100]]
def s_str (ad : Nat → Nat) (A : Nat → Prop) (U : State) (H : Heap) : Prop := ∃ adV : Nat → Nat, vk_S 10 s_len s_byt (fun i => ad (500 + i)) adV A U H ∧ ∀ (i : Nat) (q : Nat × String), s_lit[i]? = some q → vk_R "WishClerk$Reader" q.1 q.2 (ad (500 + i)) U
def s_nst (U : State) : Prop := ∀ q ∈ s_nests, va_Nw (.methodLinkNest q.1 q.2.1 q.2.2 "WishClerk") U
def s_Pc (D : va_G) (cy : Nat → ClassId) (ad : Nat → Nat) (sz : Nat) (vs : sS) (L : sH) : Array Value → State → Prop := fun av U =>
  av = (vs.map (s_rv ad)).toArray ∧ U.heap.size = sz ∧ va_P D vwCl (s_rl cy ad L) U.heap ∧ va_K D vwCl (s_tys cy) U ∧ va_D (fun _ => True) (s_rl cy ad L) ∧ s_nst U ∧ s_str ad (va_A (s_rl cy ad L) sz) U U.heap
def s_Qc (D : va_G) (cy : Nat → ClassId) (ad : Nat → Nat) (sz : Nat) (vs : sS) (L : sH) (ro : Bool) (post : sS → sH → sP) : Array Value → State → Outcome → State → Prop := fun _ st oc t =>
  (∃ (r : Option Value) (L' : sH), oc = .returned (r.map (s_rv ad)) ∧ (post vs L r L' ∧ (ro = true → L' = L)) ∧ L'.length = L.length ∧ va_P D vwCl (s_rl cy ad L') t.heap) ∧ va_F (va_A (s_rl cy ad L) sz) st t
def s_words (y : MethodName) (b : ByteArray) (n : Nat) (r : Option FieldType) : List Cond := .code y b n r :: gT
/-- what the tables say of a method -/
def s_Sta : sCtr → Prop
  | ((y, b, n, r), (kd, np, _, _), _) => (y.cls ≠ "java/lang/invoke/MethodHandle" ∧ y.cls ≠ "java/lang/invoke/VarHandle" ∧ (parseMethodDescriptor y.desc).map (fun d => d.parameters.length) = some np) ∧ Cond.code y b n r ∈ lw_tbl ∧ Cond.initialized y.cls ∈ lw_tbl ∧
    match kd with
    | 0 => Cond.static y ∈ lw_tbl
    | ci + 1 => Cond.instanceMethod y ∈ lw_tbl ∧ Cond.selects y.cls y y ∈ lw_tbl ∧ ((∃ q, vwCl[ci]? = some q ∧ q.1 = y.cls) ∨ (ci = 99 ∧ y.cls = "java/lang/String"))
def s_Ok : sCtr → Prop
  | ((y, b, n, r), (kd, np, fr, lo), ro, fp, pre, post) => s_Sta ((y, b, n, r), (kd, np, fr, lo), ro, fp, pre, post) ∧
    ∀ (l : Launch) (D : va_G) (cy : Nat → ClassId) (ad : Nat → Nat) (sz : Nat) (vs : sS) (L : sH), pre vs L → Met l y (s_words y b n r) { frames := fr, cells := 0, slots := 0, locals := lo } (s_Pc D cy ad sz vs L) (s_Qc D cy ad sz vs L ro post) 0 0 (va_A (s_rl cy ad L) sz)
theorem s_inc_lt : ∀ (fp : List Nat), s_inc fp = true → ∀ (i j a b : Nat), i < j → fp[i]? = some a → fp[j]? = some b → a < b
  | [], _, i, j, a, b, _, h, _ => by simp at h
  | [x], _, i, j, a, b, hij, _, h => by
    cases j with
    | zero => omega
    | succ j => simp at h
  | x :: y :: r, h, i, j, a, b, hij, h1, h2 => by
    unfold s_inc at h
    cases hb : Nat.blt x y with
    | false => rw [hb] at h; cases h
    | true =>
      rw [hb] at h
      have hxy : x < y := Nat.blt_eq.mp hb
      cases j with
      | zero => omega
      | succ j =>
        rw [List.getElem?_cons_succ] at h2
        cases i with
        | zero =>
          rw [List.getElem?_cons_zero] at h1
          cases h1
          cases j with
          | zero => rw [List.getElem?_cons_zero] at h2; cases h2; exact hxy
          | succ j => exact Nat.lt_trans hxy (s_inc_lt (y :: r) h 0 (j + 1) y b (by omega) rfl h2)
        | succ i => exact s_inc_lt (y :: r) h i j a b (by omega) h1 h2
theorem s_nin_ne : ∀ (r : List Nat) (a : Nat), s_nin a r = true → a ∉ r
  | [], a, _ => List.not_mem_nil
  | b :: r, a, h => by
    unfold s_nin at h
    cases hb : Nat.beq a b with
    | true => rw [hb] at h; cases h
    | false =>
      rw [hb] at h
      intro hm
      rcases List.mem_cons.mp hm with e | e
      · exact absurd hb (by rw [e, Nat.beq_refl]; exact fun z => by cases z)
      · exact s_nin_ne r a h e
theorem s_nd_nd : ∀ (r : List Nat), s_nd r = true → va_nd r = true
  | [], _ => rfl
  | a :: r, h => by
    unfold s_nd at h
    cases hb : s_nin a r with
    | false => rw [hb] at h; cases h
    | true =>
      rw [hb] at h
      simp only [va_nd, Bool.and_eq_true, decide_eq_true_eq]
      exact ⟨s_nin_ne r a hb, s_nd_nd r h⟩
theorem s_all_lt : ∀ (r : List Nat) (n : Nat), s_all n r = true → ∀ a ∈ r, a < n
  | [], n, _, a, h => absurd h List.not_mem_nil
  | b :: r, n, h, a, hm => by
    unfold s_all at h
    cases hb : Nat.blt b n with
    | false => rw [hb] at h; cases h
    | true =>
      rw [hb] at h
      rcases List.mem_cons.mp hm with e | e
      · rw [e]; exact Nat.blt_eq.mp hb
      · exact s_all_lt r n h a e
theorem s_fpk_spec {fp : List Nat} {n : Nat} (h : s_fpk fp n = true) : (∀ (i j a : Nat), fp[i]? = some a → fp[j]? = some a → i = j) ∧ ∀ a ∈ fp, a < n := by
  unfold s_fpk at h
  cases hi : s_inc fp with
  | true =>
    rw [hi] at h
    refine ⟨fun i j a h1 h2 => ?_, s_all_lt fp n h⟩
    rcases Nat.lt_trichotomy i j with q | q | q
    · exact absurd (s_inc_lt fp hi i j a a q h1 h2) (Nat.lt_irrefl a)
    · exact q
    · exact absurd (s_inc_lt fp hi j i a a q h2 h1) (Nat.lt_irrefl a)
  | false =>
    rw [hi] at h
    cases hn : s_nd fp with
    | false => rw [hn] at h; cases h
    | true =>
      rw [hn] at h
      exact ⟨va_nd_inj fp (s_nd_nd fp hn), s_all_lt fp n h⟩
theorem s_sub_at (fp0 : List Nat) (L : sH) : ∀ (fp : List Nat), (∀ a ∈ fp, a < L.length) → (s_sub fp0 L fp).length = fp.length ∧ ∀ (j a : Nat), fp[j]? = some a → ∃ c, L[a]? = some c ∧ (s_sub fp0 L fp)[j]? = some (s_mc (s_rho fp0) c)
  | [], _ => ⟨rfl, fun j a h => by simp at h⟩
  | b :: r, h => by
    have hb : b < L.length := h b List.mem_cons_self
    obtain ⟨h1, h2⟩ := s_sub_at fp0 L r (fun a ha => h a (List.mem_cons_of_mem _ ha))
    have he : s_sub fp0 L (b :: r) = s_mc (s_rho fp0) L[b] :: s_sub fp0 L r := by
      show (match s_nth L b with
        | some c => s_mc (s_rho fp0) c :: s_sub fp0 L r
        | none => []) = _
      rw [s_nth_eq, List.getElem?_eq_getElem hb]
    rw [he]
    refine ⟨by simp [h1], fun j a hj => ?_⟩
    cases j with
    | zero =>
      rw [List.getElem?_cons_zero] at hj
      cases hj
      exact ⟨L[b], List.getElem?_eq_getElem hb, rfl⟩
    | succ j =>
      rw [List.getElem?_cons_succ] at hj ⊢
      exact h2 j a hj
theorem s_put_len (fp0 : List Nat) : ∀ (fp : List Nat) (cs L : sH), (s_put fp0 fp cs L).length = L.length
  | [], cs, L => by cases cs <;> rfl
  | a :: r, [], L => rfl
  | a :: r, c :: cs, L => by
    show (s_put fp0 r cs (s_set L a (s_mc (s_un fp0) c))).length = _
    rw [s_put_len fp0 r cs, s_set_eq, List.length_set]
theorem s_put_out (fp0 : List Nat) : ∀ (fp : List Nat) (cs L : sH) (i : Nat), i ∉ fp → (s_put fp0 fp cs L)[i]? = L[i]?
  | [], cs, L, i, _ => by cases cs <;> rfl
  | a :: r, [], L, i, _ => rfl
  | a :: r, c :: cs, L, i, h => by
    show (s_put fp0 r cs (s_set L a (s_mc (s_un fp0) c)))[i]? = _
    rw [s_put_out fp0 r cs _ i (fun q => h (List.mem_cons_of_mem _ q)), s_set_eq, List.getElem?_set_ne (fun q => h (by rw [q]; exact List.mem_cons_self))]
theorem s_put_in (fp0 : List Nat) : ∀ (fp : List Nat) (cs L : sH) (j a : Nat) (c : sC), (∀ (i j a : Nat), fp[i]? = some a → fp[j]? = some a → i = j) → (∀ a ∈ fp, a < L.length) → fp[j]? = some a → cs[j]? = some c → (s_put fp0 fp cs L)[a]? = some (s_mc (s_un fp0) c)
  | [], cs, L, j, a, c, _, _, h, _ => by simp at h
  | b :: r, [], L, j, a, c, _, _, _, h => by simp at h
  | b :: r, x :: cs, L, j, a, c, hi, hl, h1, h2 => by
    show (s_put fp0 r cs (s_set L b (s_mc (s_un fp0) x)))[a]? = _
    cases j with
    | zero =>
      rw [List.getElem?_cons_zero] at h1 h2
      cases h1; cases h2
      have hn : b ∉ r := fun q => by
        obtain ⟨k, hk⟩ := List.getElem?_of_mem q
        have := hi 0 (k + 1) b rfl (by simpa using hk)
        omega
      rw [s_put_out fp0 r cs _ b hn, s_set_eq, List.getElem?_set_self (hl b List.mem_cons_self)]
    | succ j =>
      rw [List.getElem?_cons_succ] at h1 h2
      exact s_put_in fp0 r cs _ j a c (fun i k z q1 q2 => by
        have := hi (i + 1) (k + 1) z (by simpa using q1) (by simpa using q2)
        omega) (fun z hz => by rw [s_set_eq, List.length_set]; exact hl z (List.mem_cons_of_mem _ hz)) h1 h2
theorem s_pop_spec : ∀ (n : Nat) (acc st : sS) (f : sS → sS → Prop), s_pop n acc st f → ∃ xs rest, st = xs ++ rest ∧ xs.length = n ∧ f (xs.reverse ++ acc) rest
  | 0, acc, st, f, h => ⟨[], st, rfl, rfl, h⟩
  | n + 1, acc, [], f, h => h.elim
  | n + 1, acc, v :: st, f, h => by
    obtain ⟨xs, rest, h1, h2, h3⟩ := s_pop_spec n (v :: acc) st f h
    exact ⟨v :: xs, rest, by rw [h1]; rfl, by simp [h2], by simpa using h3⟩
theorem s_cat_sum (ad : Nat → Nat) : ∀ st : sS, ((st.map (s_rv ad)).map fun v => v.category).sum = s_cat st
  | [] => rfl
  | v :: r => by
    simp only [List.map_cons, List.sum_cons, s_cat_sum ad r]
    cases v <;> simp [s_rv, s_cat, Value.category] <;> omega
end
section
/-! ===== where a method stands, and the rule of the call ===== -/
section SEnv
variable {p : Program} {l : Launch} {e : Env} {R : Room} {s : State} {m : MethodId} {args : Array Value} {below : List Frame} {meth : Method} {c : Code} {D : va_G} {cy : Nat → ClassId} {ad : Nat → Nat} {A : Nat → Prop} {Q : State → Prop} {E : sE} {own : String} {cc : ByteArray} {nL n0 cl sl : Nat}
def s_scr (E : sE) (ad : Nat → Nat) (A : Nat → Prop) (s : State) : Prop := match E with
  | none => True
  | some (n, xs) => va_X (ad 599) n xs s s.heap ∧ ad 599 < s.heap.size ∧ ¬ A (ad 599)
def s_Env (p : Program) (R : Room) (s : State) (m : MethodId) (args : Array Value) (c : Code) (D : va_G) (cy : Nat → ClassId) (ad : Nat → Nat) (A : Nat → Prop) (E : sE) (own : String) (cc : ByteArray) (nL cl sl : Nat) : Prop :=
  p.tables.exec = Jvm.exec ∧ c.code = cc ∧ c.maxLocals = nL ∧ s.vm.findClass own = some m.cls ∧ (∀ w ∈ gT, w.before args s = true) ∧ va_K D vwCl (s_tys cy) s ∧ s_nst s ∧ s_str ad A s s.heap ∧ (∀ q, s.heap.size ≤ q → A q) ∧ s_scr E ad A s ∧ cl ≤ R.cells ∧ sl ≤ R.slots
def s_Gp (p : Program) (l : Launch) (e : Env) (R : Room) (s : State) (m : MethodId) (args : Array Value) (below : List Frame) (meth : Method) (c : Code) (D : va_G) (cy : Nat → ClassId) (ad : Nat → Nat) (A : Nat → Prop) (Q : State → Prop) (nL n0 cl sl : Nat) (pc : Nat) : sK := fun ls st L =>
  L.length = n0 → ∀ (H : Heap) (locs : List Loc) (lr : Array Slot), va_P D vwCl (s_rl cy ad L) H → va_D A (s_rl cy ad L) → va_S A s.heap H locs → lv_has lr nL (s_as ad 0 ls) → W p l e R s m args below meth c H locs cl sl Q (F0 m pc lr (st.map (s_rv ad)))
theorem s_nst_warm {s U : State} (hW : s.WarmedH U.vm) (h : s_nst s) : s_nst U := fun q hq => va_Nw.warmM hW (h q hq)
theorem s_str_warm {ad : Nat → Nat} {A B : Nat → Prop} {s U : State} {H : Heap} {locs : List Loc} (hW : s.WarmedH U.vm) (hU : U.heap = H) (hS : va_S A s.heap H locs) (hAB : ∀ q, B q → A q) (h : s_str ad A s s.heap) : s_str ad B U U.heap := by
  obtain ⟨adV, h1, h2⟩ := h
  refine ⟨adV, ?_, fun i q hq => vk_R.warm hW (h2 i q hq)⟩
  rw [hU]
  exact ((vk_S.moved hW.alike h1).kept (fun a h3 h4 => hS.2.1 a h3 h4)).narrow hAB
theorem s_str_ren {ad f : Nat → Nat} {A : Nat → Prop} {U : State} {H : Heap} (hf : ∀ i, i < 10 → f (500 + i) = ad (500 + i)) (h : s_str ad A U H) : s_str f A U H := by
  obtain ⟨adV, h1, h2⟩ := h
  refine ⟨adV, ⟨fun i hi => ?_, fun i j hi hj hij => ?_⟩, fun i q hq => ?_⟩
  · have := h1.1 i hi
    dsimp only at this ⊢
    rw [← hf i hi] at this
    exact this
  · have hij : f (500 + i) = f (500 + j) := hij
    rw [hf i hi, hf j hj] at hij
    exact h1.2 i j hi hj hij
  · have hi : i < 10 := (List.getElem?_eq_some_iff.mp hq).1
    have := h2 i q hq
    rw [← hf i hi] at this
    exact this
theorem s_words_good {args : Array Value} {s : State} (hts : ∀ w ∈ gT, w.before args s = true) {y : MethodName} {b : ByteArray} {n : Nat} {r : Option FieldType} (hc : Cond.code y b n r ∈ lw_tbl) : GoodIn gT (s_words y b n r) := by
  intro w hw
  have hg : w ∈ gT := by
    rcases List.mem_cons.mp hw with e | e
    · rw [e]; exact gT_of hc rfl
    · exact e
  exact ⟨hg, good_of_word (gT_in hg).2⟩
/-- behind a call: the caller's cells -/
theorem s_join {H H1 : Heap} {L L' : sH} {fp : List Nat} (hP : va_P D vwCl (s_rl cy ad L) H) (hD : va_D A (s_rl cy ad L)) (hf : (∀ (i j a : Nat), fp[i]? = some a → fp[j]? = some a → i = j) ∧ ∀ a ∈ fp, a < L.length) (h5 : fp.length ≤ 500)
    (hk : ∀ q : Nat, q < H.size → ¬ va_A (s_rl cy (fun k => ad (s_un fp k)) (s_sub fp L fp)) H.size q → H1[q]? = H[q]?) (hl : L'.length = (s_sub fp L fp).length) (hP1 : va_P D vwCl (s_rl cy (fun k => ad (s_un fp k)) L') H1) : va_P D vwCl (s_rl cy ad (s_put fp fp L' L)) H1 := by
  obtain ⟨hs1, hs2⟩ := s_sub_at fp L fp hf.2
  intro k q hq
  have hq0 : (s_rl cy ad (s_put fp fp L' L))[k]? = some q := hq
  simp only [s_rl, List.getElem?_mapIdx] at hq0
  by_cases hin : k ∈ fp
  · obtain ⟨j, hj⟩ := List.getElem?_of_mem hin
    have hjl : j < fp.length := (List.getElem?_eq_some_iff.mp hj).1
    have hj2 : j < L'.length := by rw [hl, hs1]; exact hjl
    have e1 := s_put_in fp fp L' L j k L'[j] hf.1 hf.2 hj (List.getElem?_eq_getElem hj2)
    rw [e1] at hq0
    have hq1 := (Option.some.inj hq0).symm
    subst hq1
    have h2 := hP1 j (ad (s_un fp j), s_rc cy (fun k => ad (s_un fp k)) L'[j]) (by simp [s_rl, hj2])
    have e2 : s_un fp j = k := by
      unfold s_un
      rw [s_nth_eq, hj]
    rw [e2] at h2
    have e3 := s_rc_mc cy ad (s_un fp) L'[j]
    show va_at D vwCl (ad k, s_rc cy ad (s_mc (s_un fp) L'[j])) H1
    rw [e3]
    exact h2
  · rw [s_put_out fp fp L' L k hin] at hq0
    have hk0 : (s_rl cy ad L)[k]? = some q := by simp only [s_rl, List.getElem?_mapIdx]; exact hq0
    have h1 := hP k q hk0
    have hlt := h1.lt
    refine h1.kept (hk q.1 hlt (fun hA => ?_))
    rcases hA with ⟨j, e, hj⟩ | hA
    · simp only [s_rl, List.getElem?_mapIdx] at hj
      cases hc : (s_sub fp L fp)[j]? with
      | none => rw [hc] at hj; cases hj
      | some x =>
        rw [hc] at hj
        have hjl : j < fp.length := by rw [← hs1]; exact (List.getElem?_eq_some_iff.mp hc).1
        have e1 : ad (s_un fp j) = q.1 := congrArg Prod.fst (Option.some.inj hj)
        have e2 : s_un fp j = fp[j] := by
          unfold s_un
          rw [s_nth_eq, List.getElem?_eq_getElem hjl]
        rw [e2] at e1
        have hmem : fp[j] ∈ fp := List.getElem_mem hjl
        have hlen : fp[j] < L.length := hf.2 _ hmem
        have h3 : (s_rl cy ad L)[fp[j]]? = some (ad fp[j], s_rc cy ad L[fp[j]]) := by simp [s_rl, hlen]
        have := hD.1 k fp[j] q _ hk0 h3 e1.symm
        exact hin (by rw [this]; exact hmem)
    · omega
theorem s_sub_P {H : Heap} {L : sH} {fp : List Nat} (hP : va_P D vwCl (s_rl cy ad L) H) (hf : ∀ a ∈ fp, a < L.length) (h5 : fp.length ≤ 500) : va_P D vwCl (s_rl cy (fun k => ad (s_un fp k)) (s_sub fp L fp)) H := by
  obtain ⟨hs1, hs2⟩ := s_sub_at fp L fp hf
  intro j q hq
  simp only [s_rl, List.getElem?_mapIdx] at hq
  cases hc : (s_sub fp L fp)[j]? with
  | none => rw [hc] at hq; cases hq
  | some x =>
    rw [hc] at hq
    have hjl : j < fp.length := by rw [← hs1]; exact (List.getElem?_eq_some_iff.mp hc).1
    obtain ⟨cl0, h1, h2⟩ := hs2 j fp[j] (List.getElem?_eq_getElem hjl)
    have hx : x = s_mc (s_rho fp) cl0 := Option.some.inj (hc.symm.trans h2)
    have e2 : s_un fp j = fp[j] := by
      unfold s_un
      rw [s_nth_eq, List.getElem?_eq_getElem hjl]
    have hq1 := (Option.some.inj hq).symm
    subst hq1
    have h3 := hP fp[j] (ad fp[j], s_rc cy ad cl0) (by simp [s_rl, h1])
    have e3 := s_rc_mc cy (fun k => ad (s_un fp k)) (s_rho fp) cl0
    have e4 : (fun k => (fun k => ad (s_un fp k)) (s_rho fp k)) = ad := by funext k; show ad (s_un fp (s_rho fp k)) = ad k; rw [s_un_rho fp h5]
    rw [e4] at e3
    show va_at D vwCl (ad (s_un fp j), s_rc cy (fun k => ad (s_un fp k)) x) H
    rw [hx, e3, e2]
    exact h3
theorem s_sub_D {L : sH} {fp : List Nat} (hD : va_D A (s_rl cy ad L)) (hf : (∀ (i j a : Nat), fp[i]? = some a → fp[j]? = some a → i = j) ∧ ∀ a ∈ fp, a < L.length) : va_D A (s_rl cy (fun k => ad (s_un fp k)) (s_sub fp L fp)) := by
  obtain ⟨hs1, hs2⟩ := s_sub_at fp L fp hf.2
  have key : ∀ (j : Nat) (q : Nat × va_E), (s_rl cy (fun k => ad (s_un fp k)) (s_sub fp L fp))[j]? = some q → ∃ (a : Nat) (q2 : Nat × va_E), fp[j]? = some a ∧ (s_rl cy ad L)[a]? = some q2 ∧ q2.1 = q.1 := by
    intro j q hq
    simp only [s_rl, List.getElem?_mapIdx] at hq
    cases hc : (s_sub fp L fp)[j]? with
    | none => rw [hc] at hq; cases hq
    | some x =>
      rw [hc] at hq
      have hjl : j < fp.length := by rw [← hs1]; exact (List.getElem?_eq_some_iff.mp hc).1
      have e2 : s_un fp j = fp[j] := by
        unfold s_un
        rw [s_nth_eq, List.getElem?_eq_getElem hjl]
      have hlen : fp[j] < L.length := hf.2 _ (List.getElem_mem hjl)
      refine ⟨fp[j], (ad fp[j], s_rc cy ad L[fp[j]]), List.getElem?_eq_getElem hjl, by simp [s_rl, hlen], ?_⟩
      show ad fp[j] = q.1
      rw [← e2]
      exact congrArg Prod.fst (Option.some.inj hq)
  refine ⟨fun i j x y hi hj hxy => ?_, fun k q hk => ?_⟩
  · obtain ⟨a, qa, h1, h2, h3⟩ := key i x hi
    obtain ⟨b, qb, h4, h5, h6⟩ := key j y hj
    have hab := hD.1 a b qa qb h2 h5 (by rw [h3, h6, hxy])
    subst hab
    exact hf.1 i j a h1 h4
  · obtain ⟨a, qa, h1, h2, h3⟩ := key k q hk
    rw [← h3]
    exact hD.2 a qa h2
end SEnv
end
section
/-! ===== the rule of the call ===== -/
theorem s_mc_comp (f g : Nat → Nat) (c : sC) : s_mc f (s_mc g c) = s_mc (fun k => f (g k)) c := by
  rcases c with a | ⟨k, l⟩ | ⟨c, fs⟩
  · rfl
  · simp only [s_mc, List.map_map]
    congr 4
    funext v
    cases v <;> rfl
  · simp only [s_mc, List.map_map]
    congr 4
    funext v
    exact s_rv_comp f g v
theorem s_mc_id {f : Nat → Nat} (hf : ∀ k, f k = k) (c : sC) : s_mc f c = c := by
  have e : f = id := funext hf
  subst e
  rcases c with a | ⟨k, l⟩ | ⟨c, fs⟩
  · rfl
  · have : (Option.map id : Option Nat → Option Nat) = id := by funext v; cases v <;> rfl
    simp [s_mc]
  · have : s_rv id = id := by funext v; exact s_rv_id (fun _ => rfl) v
    simp [s_mc, this]
theorem s_put_sub {L : sH} {fp : List Nat} (hf : (∀ (i j a : Nat), fp[i]? = some a → fp[j]? = some a → i = j) ∧ ∀ a ∈ fp, a < L.length) (h5 : fp.length ≤ 500) : s_put fp fp (s_sub fp L fp) L = L := by
  obtain ⟨hs1, hs2⟩ := s_sub_at fp L fp hf.2
  apply List.ext_getElem?
  intro i
  by_cases hin : i ∈ fp
  · obtain ⟨j, hj⟩ := List.getElem?_of_mem hin
    obtain ⟨c, h1, h2⟩ := hs2 j i hj
    rw [s_put_in fp fp _ L j i _ hf.1 hf.2 hj h2, h1, s_mc_comp, s_mc_id (fun k => s_un_rho fp h5 k)]
  · exact s_put_out fp fp _ L i hin
theorem s_rcv_spec {kd : Nat} {as : sS} {L : sH} {Q : Prop} (h : s_rcv kd as L Q) : Q ∧ (kd = 0 ∨ ∃ (ci b : Nat) (As : sS), kd = ci + 1 ∧ as = .ref b :: As ∧ ((∃ fs, s_nth L b = some (.inr (.inr (ci, fs)))) ∨ (ci = 99 ∧ 500 ≤ b ∧ b ≤ 509))) := by
  cases kd with
  | zero => exact ⟨h, Or.inl rfl⟩
  | succ ci =>
    unfold s_rcv at h
    cases as with
    | nil => exact h.elim
    | cons v As =>
      cases v with
      | ref b =>
        dsimp only at h
        cases hn : s_nth L b with
        | none =>
          rw [hn] at h
          dsimp only at h
          cases h1 : Nat.beq ci 99 <;> cases h2 : Nat.ble 500 b <;> cases h3 : Nat.ble b 509 <;> rw [h1, h2, h3] at h <;> first | exact h.elim | skip
          exact ⟨h, Or.inr ⟨ci, b, As, rfl, rfl, Or.inr ⟨Nat.eq_of_beq_eq_true h1, Nat.ble_eq.mp h2, Nat.ble_eq.mp h3⟩⟩⟩
        | some x =>
          rw [hn] at h
          rcases x with a | a | ⟨cj, fs⟩
          · exact h.elim
          · exact h.elim
          · dsimp only at h
            cases h1 : Nat.beq ci cj with
            | false => rw [h1] at h; exact h.elim
            | true =>
              rw [h1] at h
              have e := Nat.eq_of_beq_eq_true h1
              subst e
              exact ⟨h, Or.inr ⟨ci, b, As, rfl, rfl, Or.inl ⟨fs, hn⟩⟩⟩
      | _ => exact h.elim
theorem s_callP_spec {ro : Bool} {fp : List Nat} {pre : sS → sH → Prop} {post : sS → sH → sP} {as : sS} {L : sH} {k : Option Value → sH → Prop} (h : s_callP ro fp pre post as L k) :
    s_fpk fp L.length = true ∧ fp.length ≤ 500 ∧ pre (as.map (s_rv (s_rho fp))) (s_sub fp L fp) ∧ ∀ r L', post (as.map (s_rv (s_rho fp))) (s_sub fp L fp) r L' → (ro = true → L' = s_sub fp L fp) → k (r.map (s_rv (s_un fp))) (s_put fp fp L' L) := by
  unfold s_callP at h
  cases h1 : s_fpk fp L.length <;> cases h2 : Nat.ble fp.length 500 <;> cases ro <;> rw [h1, h2] at h <;> first | exact h.elim | skip
  · dsimp only at h
    rw [s_frV_eq, s_frc_eq] at h
    exact ⟨rfl, Nat.ble_eq.mp h2, h.1, fun r L' hp _ => by have h3 := h.2 r L' hp; rwa [s_pk_eq, s_frH_eq] at h3⟩
  · dsimp only at h
    rw [s_frV_eq, s_frc_eq] at h
    refine ⟨rfl, Nat.ble_eq.mp h2, h.1, fun r L' hp hr => ?_⟩
    have e := hr rfl
    subst e
    rw [s_put_sub (s_fpk_spec h1) (Nat.ble_eq.mp h2)]
    exact h.2 r hp
theorem s_rl_D {A : Nat → Prop} {cy : Nat → ClassId} {ad : Nat → Nat} {L L2 : sH} (hD : va_D A (s_rl cy ad L)) (h : L2.length = L.length) : va_D A (s_rl cy ad L2) := by
  have key : ∀ (k : Nat) (q : Nat × va_E), (s_rl cy ad L2)[k]? = some q → ∃ q2, (s_rl cy ad L)[k]? = some q2 ∧ q2.1 = q.1 := by
    intro k q hq
    have hk : k < L2.length := by
      have := (List.getElem?_eq_some_iff.mp hq).1
      rwa [s_rl_len] at this
    have hk1 : k < L.length := by omega
    refine ⟨(ad k, s_rc cy ad L[k]), by simp [s_rl, hk1], ?_⟩
    have : (s_rl cy ad L2)[k]? = some (ad k, s_rc cy ad L2[k]) := by simp [s_rl, hk]
    rw [this] at hq
    have h2 := congrArg Prod.fst (Option.some.inj hq)
    exact h2
  refine ⟨fun i j x y hi hj hxy => ?_, fun k q hk => ?_⟩
  · obtain ⟨a, h1, h2⟩ := key i x hi
    obtain ⟨b, h3, h4⟩ := key j y hj
    exact hD.1 i j a b h1 h3 (by rw [h2, h4, hxy])
  · obtain ⟨a, h1, h2⟩ := key k q hk
    rw [← h2]
    exact hD.2 k a h1
theorem s_blind (D : va_G) (cy : Nat → ClassId) (ad : Nat → Nat) (sz : Nat) (vs : sS) (L : sH) : FrameBlind (s_Pc D cy ad sz vs L) := by
  intro a U g mk h
  obtain ⟨q0, q1, qP, qK, qD, qN, adV, qS, qR⟩ := h
  exact ⟨q0, q1, qP, va_K.moved (u := U) (U := U.calling g mk a) (Vm.Alike.refl U.vm) qK, qD, fun w hw => va_Nw.same rfl rfl (qN w hw), adV, vk_S.moved (u := U) (U := U.calling g mk a) (Vm.Alike.refl U.vm) qS, fun i q hq => vk_R.same rfl (qR i q hq)⟩
section SCall
variable {p : Program} {l : Launch} {e : Env} {R : Room} {s : State} {m : MethodId} {args : Array Value} {below : List Frame} {meth : Method} {c : Code} {D : va_G} {cy : Nat → ClassId} {ad : Nat → Nat} {A : Nat → Prop} {Q : State → Prop} {E : sE} {own : String} {cc : ByteArray} {nL n0 cl sl : Nat}
set_option maxHeartbeats 1000000 in
theorem s_inv_ok (hE : s_Env p R s m args c D cy ad A E own cc nL cl sl) {y : MethodName} {b : ByteArray} {mx : Nat} {rt : Option FieldType} {kd np fr lo : Nat} {ro : Bool} {fpf : sS → sH → List Nat} {pre : sS → sH → Prop} {post : sS → sH → sP} (hOk : s_Ok ((y, b, mx, rt), (kd, np, fr, lo), ro, fpf, pre, post))
    (hR : fr + 1 ≤ R.frames ∧ 8 + (mx + 11) + lo ≤ R.locals) {pc ix : Nat} {ns : List Nat} {x0 : Value} {k : sK}
    (hi : (kd = 0 ∧ decode cc pc = .ok (.invokestatic ix, 3) ∧ (Cond.methodLink own ix y ∈ lw_tbl ∨ (own, ix, y) ∈ s_nests)) ∨ (∃ ci, kd = ci + 1 ∧ decode cc pc = .ok (.invokevirtual ix, 3) ∧ Cond.methodLink own ix y ∈ lw_tbl))
    (hk : ∀ ls st L, k ls st L → s_Gp p l e R s m args below meth c D cy ad A Q nL n0 cl sl (pc + 3) ls st L) {ls : sL} {st : sS} {L : sH} (h : s_inv (ns, x0, some ((y, b, mx, rt), (kd, np, fr, lo), ro, fpf, pre, post)) k ls st L) : s_Gp p l e R s m args below meth c D cy ad A Q nL n0 cl sl pc ls st L := by
  intro hlen H locs lr hP hD hS hl
  obtain ⟨hx, hb, hml, hown, hts, hK, hnst, hstr, hA, hscr, hcl, hsl⟩ := hE
  obtain ⟨⟨hsn, hcode, hini, hkind⟩, hmet⟩ := hOk
  have h' : s_pop (s_npar kd np) [] st (fun as rest => match Nat.ble (s_cat rest) 8 with
    | true => s_rcv kd as L (s_frL (fpf as L) fun fp' => s_callP ro fp' pre post as L fun r L' => match r with
      | some v => k ls (v :: rest) L'
      | none => k ls rest L')
    | false => False) := h
  obtain ⟨xs, rest, hst, hxn, h⟩ := s_pop_spec _ _ _ _ h'
  rw [List.append_nil] at h
  obtain ⟨as, has⟩ : ∃ as, as = xs.reverse := ⟨_, rfl⟩
  have hxs : xs = as.reverse := by rw [has, List.reverse_reverse]
  rw [← has] at h
  cases hc8 : Nat.ble (s_cat rest) 8 with
  | false => rw [hc8] at h; exact h.elim
  | true =>
    rw [hc8] at h
    have hcat : s_cat rest ≤ 8 := Nat.ble_eq.mp hc8
    obtain ⟨h, hrc⟩ := s_rcv_spec h
    rw [s_frL_eq] at h
    obtain ⟨hfk, h5, hpre, hpost⟩ := s_callP_spec h
    obtain ⟨fp, hfp⟩ : ∃ fp, fp = fpf as L := ⟨_, rfl⟩
    rw [← hfp] at hfk h5 hpre hpost
    have hf := s_fpk_spec hfk
    have hPc := s_sub_P (D := D) (cy := cy) (ad := ad) hP hf.2 h5
    have hDc := s_sub_D (A := A) (cy := cy) (ad := ad) hD hf
    have hs1 := (s_sub_at fp L fp hf.2).1
    have hargs : (as.map (s_rv (s_rho fp))).map (s_rv (fun k => ad (s_un fp k))) = as.map (s_rv ad) := by
      rw [List.map_map]
      congr 1
      funext v
      show s_rv _ (s_rv _ v) = _
      rw [s_rv_comp]
      congr 1
      funext k
      show ad (s_un fp (s_rho fp k)) = ad k
      rw [s_un_rho fp h5]
    have hFA : ∀ q, va_A (s_rl cy (fun k => ad (s_un fp k)) (s_sub fp L fp)) H.size q → A q := by
      intro q hq
      rcases hq with ⟨k, e, hq⟩ | hq
      · exact hDc.2 k _ hq
      · exact hA q (Nat.le_trans hS.1 hq)
    have hM := hmet l D cy (fun k => ad (s_un fp k)) H.size (as.map (s_rv (s_rho fp))) (s_sub fp L fp) hpre
    have hPre : FrameBlind (s_Pc D cy (fun k => ad (s_un fp k)) H.size (as.map (s_rv (s_rho fp))) (s_sub fp L fp)) ∧ ∀ U : State, U.heap = H → s.WarmedH U.vm → s_Pc D cy (fun k => ad (s_un fp k)) H.size (as.map (s_rv (s_rho fp))) (s_sub fp L fp) (as.map (s_rv ad)).toArray U := by
      refine ⟨s_blind _ _ _ _ _ _, fun U hU hW => ⟨by rw [hargs], by rw [hU], by rw [hU]; exact hPc, va_K.moved hW.alike hK, hDc.weaken (fun _ _ _ _ => trivial), s_nst_warm hW hnst, ?_⟩⟩
      refine s_str_ren (ad := ad) (fun i hi => ?_) (s_str_warm hW hU hS hFA hstr)
      show ad (s_un fp (500 + i)) = ad (500 + i)
      rw [s_un_sp h5 (by omega)]
    have hroom : 2 * (F0 m pc lr (st.map (s_rv ad))).monitorRoom + ((rest.map (s_rv ad)).map fun v => v.category).sum ≤ 8 := lv_room (by rw [s_cat_sum]; exact hcat)
    have hr : va_Run p l e R s m args below meth c H locs cl sl 0 0 (F0 m pc lr (st.map (s_rv ad))) (rest.map (s_rv ad)) (s_Qc D cy (fun k => ad (s_un fp k)) H.size (as.map (s_rv (s_rho fp))) (s_sub fp L fp) ro post (as.map (s_rv ad)).toArray) (va_A (s_rl cy (fun k => ad (s_un fp k)) (s_sub fp L fp)) H.size) := by
      have hini' := hts _ (gT_of hini rfl)
      rcases hi with ⟨rfl, hdg, hlink⟩ | ⟨ci, rfl, hdg, hlink⟩
      · have hstat := hts _ (gT_of (show Cond.static y ∈ lw_tbl from hkind) rfl)
        have hn : (as.map (s_rv ad)).length = np := by rw [List.length_map, has, List.length_reverse]; exact hxn
        have hstk : st.map (s_rv ad) = (as.map (s_rv ad)).reverse ++ rest.map (s_rv ad) := by rw [hst, hxs, List.map_append, List.map_reverse]
        rcases hlink with hlink | hlink
        · exact va_runS (Ts := gT) ⟨hx, hb, hml, hown, hts⟩ hM ⟨callB_of np hts (s_words_good hts hcode) rfl rfl rfl hini' (hts _ (gT_of hlink rfl)) hsn hR, hstat⟩ hPre rfl hn hl.1 hstk hroom hdg ⟨hcl, hsl⟩
        · exact va_runSN (Ts := gT) (host := "WishClerk") ⟨hx, hb, hml, hown, hts⟩ hM ⟨va_cnB np hts (s_words_good hts hcode) rfl rfl rfl (hnst _ hlink) hini' hsn hR, hstat, trivial⟩ hPre rfl hn hl.1 hstk hroom hdg ⟨hcl, hsl⟩
      · obtain ⟨hin, hsel, hcls⟩ := hkind
        rcases hrc with h0 | ⟨ci', bq, As, e1, rfl, hrec⟩
        · cases h0
        have e1 : ci = ci' := by omega
        subst e1
        have hn : (As.map (s_rv ad)).length = np := by
          have h1 : (Value.ref bq :: As).length = np + 1 := by rw [has, List.length_reverse]; exact hxn
          simpa using h1
        have hstk : st.map (s_rv ad) = (As.map (s_rv ad)).reverse ++ .ref (ad bq) :: rest.map (s_rv ad) := by
          rw [hst, hxs, List.map_append, List.map_reverse]
          simp [s_rv]
        have hcell : ∃ cellB : Cell, H[ad bq]? = some cellB ∧ cellB.vm.isStatics = false ∧ s.vm.findClass y.cls = some cellB.cls := by
          rcases hrec with ⟨fs, hfs⟩ | ⟨h99, hb1, hb2⟩
          · rcases hcls with ⟨q, hq, hqn⟩ | ⟨h99, -⟩
            · have := va_recv hK hP hq (s_rl_at (cy := cy) (ad := ad) hfs)
              rw [hqn] at this
              exact this
            · obtain ⟨r, hr1, -⟩ := hP bq _ (s_rl_at (cy := cy) (ad := ad) hfs)
              rw [h99] at hr1
              cases hr1
          · rcases hcls with ⟨q, hq, hqn⟩ | ⟨-, hys⟩
            · rw [h99] at hq
              cases hq
            · obtain ⟨adV, hvs, -⟩ := hstr
              have := vk_recv hvs (show bq - 500 < 10 by omega) hS
              have e5 : 500 + (bq - 500) = bq := by omega
              rw [e5] at this
              rw [hys]
              exact this
        exact va_runV (Ts := gT) (C := y.cls) (b := ad bq) ⟨hx, hb, hml, hown, hts⟩ hM ⟨callB_of np hts (s_words_good hts hcode) rfl rfl rfl hini' (hts _ (gT_of hlink rfl)) hsn hR, hts _ (gT_of hin rfl), hts _ (gT_of hsel rfl)⟩ ⟨hPre.1, hcell, hPre.2⟩ rfl hn hl.1 hstk hroom hdg ⟨hcl, hsl⟩
    intro T hT X
    obtain ⟨v, st₀, t, T', Lc, h0, X', hL, e1, e2, ⟨⟨r, L', hv, ⟨hp, hro⟩, hlen', hP1⟩, hz, hkk⟩, stp⟩ := hr T hT X
    rw [h0] at hz hkk
    have hv1 : v = r.map (s_rv (fun k => ad (s_un fp k))) := by injection hv
    have hcont := hpost r L' hp hro
    have hPn : va_P D vwCl (s_rl cy ad (s_put fp fp L' L)) T'.heap := by
      rw [e1]
      exact s_join hP hD hf h5 hkk hlen' hP1
    have hlen2 : (s_put fp fp L' L).length = L.length := s_put_len fp fp L' L
    have hDn : va_D A (s_rl cy ad (s_put fp fp L' L)) := s_rl_D hD hlen2
    have hSn : va_S A s.heap T'.heap (locs ++ Lc) := ⟨Nat.le_trans hS.1 (by rw [e1]; exact hz), fun q h1 h2 => by rw [e1, hkk q (Nat.lt_of_lt_of_le h1 hS.1) (fun z => h2 (hFA q z))]; exact hS.2.1 q h1 h2, fun q hq => by
      rcases List.mem_append.mp hq with h | h
      · exact hS.2.2 q h
      · exact hFA _ (hL q h)⟩
    have hvm : ∀ w : Value, s_rv ad (s_rv (s_un fp) w) = s_rv (fun k => ad (s_un fp k)) w := fun w => s_rv_comp ad (s_un fp) w
    cases r with
    | none =>
      obtain ⟨t2, a1, b1⟩ := hk _ _ _ hcont (hlen2.trans hlen) T'.heap (locs ++ Lc) lr hPn hDn hSn hl T' rfl X'
      subst hv1
      exact ⟨t2, stp t2 a1, b1⟩
    | some w =>
      obtain ⟨t2, a1, b1⟩ := hk _ _ _ hcont (hlen2.trans hlen) T'.heap (locs ++ Lc) lr hPn hDn hSn hl T' rfl X'
      subst hv1
      refine ⟨t2, stp t2 ?_, b1⟩
      have e6 : (s_rv (s_un fp) w :: rest).map (s_rv ad) = s_rv (fun k => ad (s_un fp k)) w :: rest.map (s_rv ad) := by rw [List.map_cons, hvm]
      rw [e6] at a1
      exact a1
end SCall
end
section
/-! ===== an instruction of the small machine holds on the machine ===== -/
def s_il (i : Instr) (len : Nat) : Nat := match i with
  | .tableswitch .. => len
  | .lookupswitch .. => len
  | .bipush _ | .ldc _ | .iload _ | .lload _ | .aload _ | .istore _ | .lstore _ | .astore _ => 2
  | .sipush _ | .ldc_w _ | .ldc2_w _ | .iinc .. | .goto _ | .ifCond .. | .if_icmp .. | .getfield _ | .putfield _ | .invokevirtual _ | .invokestatic _ => 3
  | _ => 1
def s_ckT (tgt : Nat → Option Nat) (pc : Nat) (off : Int) (b : Nat) : Bool := match tgt b with
  | some t => decide ((pc : Int) + off = (t : Int))
  | none => false
def s_ckTs (tgt : Nat → Option Nat) (pc : Nat) : List Int → List Nat → Bool
  | [], [] => true
  | o :: os, b :: bs => s_ckT tgt pc o b && s_ckTs tgt pc os bs
  | _, _ => false
def s_ckF (own : String) (ci j q ix : Nat) : Bool := match vwCl[ci]? with
  | some (_, T, N) => Nat.blt j N && decide (lw_tbl[q]? = some (.fieldLink own ix (T j).1 (T j).2.1 (T j).2.2.1))
  | none => false
def s_ckI (own : String) (nL fr lo : Nat) (tgt : Nat → Option Nat) (pc : Nat) (i : Instr) (x : sX) : Bool := match i with
  | .iconst n => decide (x.2.1 = .int (Int32.ofInt n))
  | .bipush n => decide (x.2.1 = .int (Int8.ofInt n).toInt32)
  | .sipush n => decide (x.2.1 = .int (Int16.ofInt n).toInt32)
  | .lconst n => decide (x.2.1 = .long (Int64.ofNat (n : Nat)))
  | .ldc ix => match x.1, x.2.1 with
    | [q], .int v => decide (lw_tbl[q]? = some (.constant own ix v))
    | [q, _], .ref a => decide (own = "WishClerk$Reader") && (decide (s_lit[q]?.map (fun z => z.1) = some ix) && Nat.beq a (500 + q))
    | _, _ => false
  | .ldc_w ix => match x.1, x.2.1 with
    | [q], .int v => decide (lw_tbl[q]? = some (.constant own ix v))
    | _, _ => false
  | .ldc2_w ix => match x.1, x.2.1 with
    | [q], .long v => decide (lw_tbl[q]? = some (.constantLong own ix v))
    | _, _ => false
  | .istore n => Nat.blt n nL
  | .istore_n n => Nat.blt n nL
  | .astore n => Nat.blt n nL
  | .astore_n n => Nat.blt n nL
  | .lstore n => Nat.blt (n + 1) nL
  | .lstore_n n => Nat.blt (n + 1) nL
  | .iinc n k => decide (x.2.1 = .int (Int32.ofInt k)) && Nat.blt n nL
  | .goto off => match x.1 with
    | b :: _ => s_ckT tgt pc off b
    | _ => false
  | .ifCond _ off => match x.1 with
    | b :: _ => s_ckT tgt pc off b
    | _ => false
  | .if_icmp _ off => match x.1 with
    | b :: _ => s_ckT tgt pc off b
    | _ => false
  | .tableswitch d lo hi offs => match x.1 with
    | b :: bs => s_ckT tgt pc d b && (s_ckTs tgt pc offs.toList bs && decide (hi + 1 = lo + (bs.length : Int) ∧ -2147483648 ≤ lo ∧ hi < 2147483648))
    | _ => false
  | .lookupswitch d ps => match x.1 with
    | b :: bs => s_ckT tgt pc d b && (s_ckTs tgt pc (ps.toList.map (fun z => z.2)) bs && (decide (∀ q ∈ ps.toList, -2147483648 ≤ q.1 ∧ q.1 < 2147483648) && (ps.toList.zip (ps.toList.drop 1)).all (fun (a, next) => decide (a.1 < next.1))))
    | _ => false
  | .getfield ix => match x.1 with
    | [ci, j, q] => s_ckF own ci j q ix
    | _ => false
  | .putfield ix => match x.1 with
    | [ci, j, q] => s_ckF own ci j q ix && decide ((s_fld ci j).2.2.2 = false)
    | _ => false
  | .invokevirtual ix => match x.1, x.2.2 with
    | [q], some ((y, _, mx, _), (kd, _, f2, l2), _) => Nat.blt 0 kd && (decide (lw_tbl[q]? = some (.methodLink own ix y)) && (Nat.blt f2 fr && Nat.ble (8 + (mx + 11) + l2) lo))
    | _, _ => false
  | .invokestatic ix => match x.1, x.2.2 with
    | [q], some ((y, _, mx, _), (kd, _, f2, l2), _) => Nat.beq kd 0 && (decide (lw_tbl[q]? = some (.methodLink own ix y)) && (Nat.blt f2 fr && Nat.ble (8 + (mx + 11) + l2) lo))
    | [q, _], some ((y, _, mx, _), (kd, _, f2, l2), _) => Nat.beq kd 0 && (decide (s_nests[q]? = some (own, ix, y)) && (Nat.blt f2 fr && Nat.ble (8 + (mx + 11) + l2) lo))
    | [q, 1], none => decide (lw_tbl[q]? = some (.methodLink own ix Lib.Math.max.name)) && (Nat.blt 0 fr && Nat.ble 21 lo)
    | [q, 2], none => decide (lw_tbl[q]? = some (.methodLink own ix Lib.Math.min.name)) && (Nat.blt 0 fr && Nat.ble 21 lo)
    | [q], none => decide (lw_tbl[q]? = some (.methodLink own ix arraycopyName)) && (Nat.blt 0 fr && Nat.ble (8 + (nativeFrameWords "java/lang/System" "arraycopy" 5 + 11)) lo)
    | _, _ => false
  | _ => true
theorem s_copy_words : Cond.native arraycopyName ∈ gT ∧ Cond.static arraycopyName ∈ gT ∧ Cond.initialized "java/lang/System" ∈ gT := by
  refine ⟨gT_of ?_ rfl, gT_of ?_ rfl, gT_of ?_ rfl⟩ <;> decide +kernel
theorem s_math_words : Cond.static Lib.Math.max.name ∈ gT ∧ Cond.static Lib.Math.min.name ∈ gT ∧ Cond.initialized "java/lang/Math" ∈ gT ∧ Cond.code Lib.Math.max.name Lib.Math.max.code 2 (some .int) ∈ gT ∧ Cond.code Lib.Math.min.name Lib.Math.min.code 2 (some .int) ∈ gT := by
  refine ⟨gT_of ?_ rfl, gT_of ?_ rfl, gT_of ?_ rfl, gT_of (List.mem_of_getElem? (i := 713) (by decide +kernel)) rfl, gT_of (List.mem_of_getElem? (i := 633) (by decide +kernel)) rfl⟩ <;> decide +kernel
theorem s_in : ∀ (ci : Nat) (q : vw_C), vwCl[ci]? = some q → ∀ w ∈ u_ws q.1 q.2.1 q.2.2, w ∈ gT := by
  intro ci q hq w hw
  match ci, hq with
  | 0, hq => cases hq; exact gT_of (inX0 w hw) (by revert w; decide +kernel)
  | 1, hq => cases hq; exact gT_of (inX1 w hw) (by revert w; decide +kernel)
  | 2, hq => cases hq; exact gT_of (inX2 w hw) (by revert w; decide +kernel)
  | 3, hq => cases hq; exact gT_of (inX3 w hw) (by revert w; decide +kernel)
  | 4, hq => cases hq; exact gT_of (inX4 w hw) (by revert w; decide +kernel)
  | 5, hq => cases hq; exact gT_of (inX5 w hw) (by revert w; decide +kernel)
  | 6, hq => cases hq; exact gT_of (inX6 w hw) (by revert w; decide +kernel)
  | n + 7, hq => simp [vwCl] at hq
theorem s_ftyo : ∀ (ci : Nat) (q : vw_C), vwCl[ci]? = some q → ∀ k, k < q.2.2 → parseFieldDescriptor (q.2.1 k).2.2.1 = some (s_fty ci k) := by
  intro ci q hq
  match ci, hq with
  | 0, hq => cases hq; exact tyX0_ok
  | 1, hq => cases hq; exact tyX1_ok
  | 2, hq => cases hq; exact tyX2_ok
  | 3, hq => cases hq; exact tyX3_ok
  | 4, hq => cases hq; exact tyX4_ok
  | 5, hq => cases hq; exact tyX5_ok
  | 6, hq => cases hq; exact tyX6_ok
  | n + 7, hq => simp [vwCl] at hq
theorem s_nmo : ∀ (ci : Nat) (q : vw_C), vwCl[ci]? = some q → ∀ a, a < q.2.2 → ∀ b, b < q.2.2 → a ≠ b → (q.2.1 a).2.1 ≠ (q.2.1 b).2.1 := by
  intro ci q hq
  match ci, hq with
  | 0, hq => cases hq; exact nmX0
  | 1, hq => cases hq; exact nmX1
  | 2, hq => cases hq; exact nmX2
  | 3, hq => cases hq; exact nmX3
  | 4, hq => cases hq; exact nmX4
  | 5, hq => cases hq; exact nmX5
  | 6, hq => cases hq; exact nmX6
  | n + 7, hq => simp [vwCl] at hq
theorem s_fit_spec {ty : FieldType} {v : Value} {Q : Prop} (h : s_fit ty v Q) : Q ∧ (∀ ad, narrow ty (s_rv ad v) = s_rv ad v ∧ fits ty (s_rv ad v) = true) := by
  unfold s_fit at h
  split at h
  · exact ⟨h, fun ad => ⟨rfl, rfl⟩⟩
  · refine ⟨h.2, fun ad => ?_⟩
    rcases h.1 with rfl | rfl <;> exact ⟨rfl, rfl⟩
  · exact ⟨h, fun ad => ⟨rfl, rfl⟩⟩
  · exact ⟨h, fun ad => ⟨rfl, rfl⟩⟩
  · exact h.elim
end
section
/-! ===== every instruction ===== -/
theorem s_ckT_spec {tgt : Nat → Option Nat} {pc : Nat} {off : Int} {b : Nat} (h : s_ckT tgt pc off b = true) : ∃ t, tgt b = some t ∧ (pc : Int) + off = (t : Int) := by
  unfold s_ckT at h
  cases ht : tgt b with
  | none => rw [ht] at h; cases h
  | some t => rw [ht] at h; exact ⟨t, rfl, of_decide_eq_true h⟩
theorem s_cmp_br {x y : Int32} {j k : Prop} : ∀ {co : ClassFile.Cond}, s_cmp co x y j k → (co = .eq → (x = y → j) ∧ (¬ x = y → k)) ∧ (co = .ne → (¬ x = y → j) ∧ (x = y → k)) ∧ (co = .lt → (x < y → j) ∧ (¬ x < y → k)) ∧ (co = .ge → (¬ x < y → j) ∧ (x < y → k)) ∧ (co = .gt → (y < x → j) ∧ (¬ y < x → k)) ∧ (co = .le → (¬ y < x → j) ∧ (y < x → k))
  | .eq, h => ⟨fun _ => h, fun e => (by cases e), fun e => (by cases e), fun e => (by cases e), fun e => (by cases e), fun e => (by cases e)⟩
  | .ne, h => ⟨fun e => (by cases e), fun _ => ⟨h.2, h.1⟩, fun e => (by cases e), fun e => (by cases e), fun e => (by cases e), fun e => (by cases e)⟩
  | .lt, h => ⟨fun e => (by cases e), fun e => (by cases e), fun _ => h, fun e => (by cases e), fun e => (by cases e), fun e => (by cases e)⟩
  | .ge, h => ⟨fun e => (by cases e), fun e => (by cases e), fun e => (by cases e), fun _ => ⟨h.2, h.1⟩, fun e => (by cases e), fun e => (by cases e)⟩
  | .gt, h => ⟨fun e => (by cases e), fun e => (by cases e), fun e => (by cases e), fun e => (by cases e), fun _ => h, fun e => (by cases e)⟩
  | .le, h => ⟨fun e => (by cases e), fun e => (by cases e), fun e => (by cases e), fun e => (by cases e), fun e => (by cases e), fun _ => ⟨h.2, h.1⟩⟩
theorem s_nle {x y : Int32} : ¬ x < y ↔ y ≤ x := by rw [Int32.lt_iff_toInt_lt, Int32.le_iff_toInt_le]; omega
section SStep
variable {p : Program} {l : Launch} {e : Env} {R : Room} {s : State} {m : MethodId} {args : Array Value} {below : List Frame} {meth : Method} {c : Code} {D : va_G} {cy : Nat → ClassId} {ad : Nat → Nat} {A : Nat → Prop} {Q : State → Prop} {E : sE} {own : String} {cc : ByteArray} {nL n0 cl sl : Nat}
/-- what a return comes to -/
def s_Ret (p : Program) (l : Launch) (e : Env) (R : Room) (s : State) (m : MethodId) (args : Array Value) (below : List Frame) (meth : Method) (c : Code) (D : va_G) (cy : Nat → ClassId) (ad : Nat → Nat) (A : Nat → Prop) (Q : State → Prop) (cc : ByteArray) (n0 cl sl : Nat) (P : sP) (z : Bool) : Prop :=
  ∀ (pc : Nat) (L : sH) (H : Heap) (locs : List Loc) (lr : Array Slot), L.length = n0 → va_P D vwCl (s_rl cy ad L) H → va_D A (s_rl cy ad L) → va_S A s.heap H locs →
    (decode cc pc = .ok (.ireturn, 1) → ∀ v : Int32, (z = true → v = 0 ∨ v = 1) → P (some (.int v)) L → W p l e R s m args below meth c H locs cl sl Q (F0 m pc lr [.int v])) ∧
    (decode cc pc = .ok (.lreturn, 1) → ∀ v : Int64, P (some (.long v)) L → W p l e R s m args below meth c H locs cl sl Q (F0 m pc lr [.long v])) ∧
    (decode cc pc = .ok (.return_, 1) → P none L → W p l e R s m args below meth c H locs cl sl Q (F0 m pc lr []))
theorem s_tab_in {x : Int32} {jmp : Nat → Prop} {d : Nat} : ∀ (bs : List Nat) (lo : Int), s_tab x jmp d lo bs → ∀ (k b : Nat), bs[k]? = some b → x = Int32.ofInt (lo + k) → jmp b
  | [], lo, _, k, b, h, _ => by simp at h
  | a :: bs, lo, h, 0, b, hb, hx => by
    rw [List.getElem?_cons_zero] at hb
    cases hb
    exact h.1 (by rw [hx]; simp)
  | a :: bs, lo, h, k + 1, b, hb, hx => by
    rw [List.getElem?_cons_succ] at hb
    refine s_tab_in bs (lo + 1) h.2 k b hb ?_
    rw [hx]
    congr 1
    omega
theorem s_ckTs_at {tgt : Nat → Option Nat} {pc : Nat} : ∀ (os : List Int) (bs : List Nat), s_ckTs tgt pc os bs = true → os.length = bs.length ∧ ∀ (k : Nat) (o : Int), os[k]? = some o → ∃ b, bs[k]? = some b ∧ s_ckT tgt pc o b = true
  | [], [], _ => ⟨rfl, fun k o h => by simp at h⟩
  | [], b :: bs, h => by simp [s_ckTs] at h
  | o :: os, [], h => by simp [s_ckTs] at h
  | o :: os, b :: bs, h => by
    simp only [s_ckTs, Bool.and_eq_true] at h
    obtain ⟨h1, h2⟩ := s_ckTs_at os bs h.2
    refine ⟨by simp [h1], fun k o' hk => ?_⟩
    cases k with
    | zero => rw [List.getElem?_cons_zero] at hk; cases hk; exact ⟨b, rfl, h.1⟩
    | succ k => rw [List.getElem?_cons_succ] at hk ⊢; exact h2 k o' hk
theorem s_lok_at {x : Int32} {jmp : Nat → Prop} {tgt : Nat → Option Nat} {pc d : Nat} {dflt : Int} (hd : s_ckT tgt pc dflt d = true) : ∀ (ps : List (Int × Int)) (bs : List Nat), (∀ q ∈ ps, -2147483648 ≤ q.1 ∧ q.1 < 2147483648) → s_ckTs tgt pc (ps.map (fun z => z.2)) bs = true → s_lok x jmp d ps bs → ∃ b, jmp b ∧ s_ckT tgt pc (Op.lookupswitch.offset ps dflt x.toInt) b = true
  | [], [], _, _, h => ⟨d, h, hd⟩
  | [], b :: bs, _, h, _ => by simp [s_ckTs] at h
  | (a, o) :: ps, [], _, h, _ => by simp [s_ckTs] at h
  | (a, o) :: ps, b :: bs, hr, h, hl => by
    simp only [List.map_cons, s_ckTs, Bool.and_eq_true] at h
    have hra := hr (a, o) List.mem_cons_self
    have hxa : x = Int32.ofInt a ↔ a = x.toInt := by
      constructor
      · intro e
        rw [e, Int32.toInt_ofInt_of_le (by omega) (by omega)]
      · intro e
        rw [e, Int32.ofInt_toInt]
    by_cases he : x = Int32.ofInt a
    · refine ⟨b, hl.1 he, ?_⟩
      have e2 := hxa.mp he
      simp only [Op.lookupswitch.offset, e2]
      simpa using h.1
    · obtain ⟨b2, g1, g2⟩ := s_lok_at hd ps bs (fun q hq => hr q (List.mem_cons_of_mem _ hq)) h.2 (hl.2 he)
      refine ⟨b2, g1, ?_⟩
      have e2 : ¬ a = x.toInt := fun q => he (hxa.mpr q)
      simp only [Op.lookupswitch.offset]
      simpa [e2] using g2
set_option maxHeartbeats 4000000 in
theorem s_op_ok (hE : s_Env p R s m args c D cy ad A E own cc nL cl sl) {P : sP} {z : Bool} (hret : s_Ret p l e R s m args below meth c D cy ad A Q cc n0 cl sl P z) {fr lo : Nat} (hfr : fr ≤ R.frames) (hlo : lo ≤ R.locals) {tgt : Nat → Option Nat} {jmp : Nat → sK}
    (hj : ∀ b t, tgt b = some t → ∀ ls st L, jmp b ls st L → s_Gp p l e R s m args below meth c D cy ad A Q nL n0 cl sl t ls st L) {pc len : Nat} {i : Instr} {x : sX} (hni : i ≠ .nop) (hOk : ∀ ct, x.2.2 = some ct → s_Ok ct) (hdg : decode cc pc = .ok (i, s_il i len)) (hck : s_ckI own nL fr lo tgt pc i x = true) {k : sK}
    (hk : ∀ ls st L, k ls st L → s_Gp p l e R s m args below meth c D cy ad A Q nL n0 cl sl (pc + s_il i len) ls st L) {ls : sL} {st : sS} {L : sH} (h : s_st E jmp P z i x k ls st L) : s_Gp p l e R s m args below meth c D cy ad A Q nL n0 cl sl pc ls st L := by
  have hE0 := hE
  obtain ⟨hx, hb, hml, hown, hts, hK, hnst, hstr, hA, hscr, hcl, hsl⟩ := hE
  cases i with
  | nop => exact absurd rfl hni
  | iconst n =>
    have hv := of_decide_eq_true hck
    intro hlen H locs lr hP hD hS hl
    have h1 := hk _ _ _ h hlen H locs lr hP hD hS hl
    rw [hv] at h1
    exact lv_iconst hx hb hdg rfl h1
  | bipush n =>
    have hv := of_decide_eq_true hck
    intro hlen H locs lr hP hD hS hl
    have h1 := hk _ _ _ h hlen H locs lr hP hD hS hl
    rw [hv] at h1
    exact lv_bipush hx hb hdg rfl h1
  | sipush n =>
    have hv := of_decide_eq_true hck
    intro hlen H locs lr hP hD hS hl
    have h1 := hk _ _ _ h hlen H locs lr hP hD hS hl
    rw [hv] at h1
    exact lv_sipush hx hb hdg rfl h1
  | lconst n =>
    have hv := of_decide_eq_true hck
    intro hlen H locs lr hP hD hS hl
    have h1 := hk _ _ _ h hlen H locs lr hP hD hS hl
    rw [hv] at h1
    exact lv_lconst hx hb hdg rfl h1
  | ldc ix =>
    intro hlen H locs lr hP hD hS hl
    have h1 := hk _ _ _ h hlen H locs lr hP hD hS hl
    obtain ⟨ns, v, ct⟩ := x
    unfold s_ckI at hck
    dsimp only at hck
    split at hck
    · next _ _ q v' =>
      exact lv_ldc hx hb hown (hts _ (gT_of (List.mem_of_getElem? (of_decide_eq_true hck)) rfl)) hdg h1
    · next _ _ q q2 a =>
      simp only [Bool.and_eq_true, decide_eq_true_eq] at hck
      obtain ⟨ho, hq, ha⟩ := hck
      have ha := Nat.eq_of_beq_eq_true ha
      subst ha
      obtain ⟨adV, -, hR⟩ := hstr
      cases hz : s_lit[q]? with
      | none => rw [hz] at hq; cases hq
      | some w =>
        rw [hz] at hq
        have hw : w.1 = ix := Option.some.inj hq
        have h2 := hR q w hz
        rw [hw, ← ho] at h2
        exact va_ldcS hx hb hown h2 hdg h1
    · cases hck
  | ldc_w ix =>
    intro hlen H locs lr hP hD hS hl
    have h1 := hk _ _ _ h hlen H locs lr hP hD hS hl
    obtain ⟨ns, v, ct⟩ := x
    unfold s_ckI at hck
    dsimp only at hck
    split at hck
    · next _ _ q v' =>
      exact lv_ldcw hx hb hown (hts _ (gT_of (List.mem_of_getElem? (of_decide_eq_true hck)) rfl)) hdg h1
    · cases hck
  | ldc2_w ix =>
    intro hlen H locs lr hP hD hS hl
    have h1 := hk _ _ _ h hlen H locs lr hP hD hS hl
    obtain ⟨ns, v, ct⟩ := x
    unfold s_ckI at hck
    dsimp only at hck
    split at hck
    · next _ _ q v' =>
      exact lv_ldc2 hx hb hown (hts _ (gT_of (List.mem_of_getElem? (of_decide_eq_true hck)) rfl)) hdg h1
    · cases hck
  | iload n =>
    intro hlen H locs lr hP hD hS hl
    replace h : s_ldI ls n fun v => k ls (.int v :: st) L := h
    unfold s_ldI at h
    split at h
    · next v hv => exact lv_iload hx hb hdg (s_as_at hl hv) (hk _ _ _ h hlen H locs lr hP hD hS hl)
    · exact h.elim
  | iload_n n =>
    intro hlen H locs lr hP hD hS hl
    replace h : s_ldI ls n fun v => k ls (.int v :: st) L := h
    unfold s_ldI at h
    split at h
    · next v hv => exact lv_iload_n hx hb hdg rfl (s_as_at hl hv) (hk _ _ _ h hlen H locs lr hP hD hS hl)
    · exact h.elim
  | lload n =>
    intro hlen H locs lr hP hD hS hl
    replace h : s_ldL ls n fun v => k ls (.long v :: st) L := h
    unfold s_ldL at h
    split at h
    · next v hv => exact lv_lload hx hb hdg (s_as_at hl hv) (hk _ _ _ h hlen H locs lr hP hD hS hl)
    · exact h.elim
  | lload_n n =>
    intro hlen H locs lr hP hD hS hl
    replace h : s_ldL ls n fun v => k ls (.long v :: st) L := h
    unfold s_ldL at h
    split at h
    · next v hv => exact lv_lload_n hx hb hdg rfl (s_as_at hl hv) (hk _ _ _ h hlen H locs lr hP hD hS hl)
    · exact h.elim
  | aload n =>
    intro hlen H locs lr hP hD hS hl
    replace h : s_ldA ls n fun v => k ls (.ref v :: st) L := h
    unfold s_ldA at h
    split at h
    · next v hv => exact lv_aload hx hb hdg (s_as_at hl hv) (hk _ _ _ h hlen H locs lr hP hD hS hl)
    · exact h.elim
  | aload_n n =>
    intro hlen H locs lr hP hD hS hl
    replace h : s_ldA ls n fun v => k ls (.ref v :: st) L := h
    unfold s_ldA at h
    split at h
    · next v hv => exact lv_aload_n hx hb hdg rfl (s_as_at hl hv) (hk _ _ _ h hlen H locs lr hP hD hS hl)
    · exact h.elim
  | istore n =>
    intro hlen H locs lr hP hD hS hl
    replace h : s_I st fun v r => s_frc (s_st1 ls n (.int v)) fun ls' => k ls' r L := h
    unfold s_I at h
    split at h
    · next v r => rw [s_frc_eq] at h; exact lv_istore hx hb hdg hl (Nat.blt_eq.mp hck) rfl (fun lr2 hl2 => hk _ _ _ h hlen H locs lr2 hP hD hS (s_has_st1 (v := .int v) hl2))
    · exact h.elim
  | istore_n n =>
    intro hlen H locs lr hP hD hS hl
    replace h : s_I st fun v r => s_frc (s_st1 ls n (.int v)) fun ls' => k ls' r L := h
    unfold s_I at h
    split at h
    · next v r => rw [s_frc_eq] at h; exact lv_istore_n hx hb hdg rfl hl (Nat.blt_eq.mp hck) rfl (fun lr2 hl2 => hk _ _ _ h hlen H locs lr2 hP hD hS (s_has_st1 (v := .int v) hl2))
    · exact h.elim
  | lstore n =>
    intro hlen H locs lr hP hD hS hl
    replace h : s_J st fun v r => s_frc (s_st2 ls n (.long v)) fun ls' => k ls' r L := h
    unfold s_J at h
    split at h
    · next v r => rw [s_frc_eq] at h; exact lv_lstore hx hb hdg hl (Nat.blt_eq.mp hck) rfl (fun lr2 hl2 => hk _ _ _ h hlen H locs lr2 hP hD hS (s_has_st2 (v := .long v) hl2))
    · exact h.elim
  | lstore_n n =>
    intro hlen H locs lr hP hD hS hl
    replace h : s_J st fun v r => s_frc (s_st2 ls n (.long v)) fun ls' => k ls' r L := h
    unfold s_J at h
    split at h
    · next v r => rw [s_frc_eq] at h; exact lv_lstore_n hx hb hdg rfl hl (Nat.blt_eq.mp hck) rfl (fun lr2 hl2 => hk _ _ _ h hlen H locs lr2 hP hD hS (s_has_st2 (v := .long v) hl2))
    · exact h.elim
  | astore n =>
    intro hlen H locs lr hP hD hS hl
    replace h : s_A st fun v r => s_frc (s_st1 ls n (.ref v)) fun ls' => k ls' r L := h
    unfold s_A at h
    split at h
    · next v r => rw [s_frc_eq] at h; exact lv_astore hx hb hdg hl (Nat.blt_eq.mp hck) rfl (fun lr2 hl2 => hk _ _ _ h hlen H locs lr2 hP hD hS (s_has_st1 (v := .ref v) hl2))
    · exact h.elim
  | astore_n n =>
    intro hlen H locs lr hP hD hS hl
    replace h : s_A st fun v r => s_frc (s_st1 ls n (.ref v)) fun ls' => k ls' r L := h
    unfold s_A at h
    split at h
    · next v r => rw [s_frc_eq] at h; exact lv_astore_n hx hb hdg rfl hl (Nat.blt_eq.mp hck) rfl (fun lr2 hl2 => hk _ _ _ h hlen H locs lr2 hP hD hS (s_has_st1 (v := .ref v) hl2))
    · exact h.elim
  | iinc n q =>
    intro hlen H locs lr hP hD hS hl
    obtain ⟨ns, v, ct⟩ := x
    have hck2 : (decide (v = .int (Int32.ofInt q)) && Nat.blt n nL) = true := hck
    simp only [Bool.and_eq_true, decide_eq_true_eq] at hck2
    obtain ⟨rfl, hn⟩ := hck2
    replace h : s_ldI ls n fun v => s_frc (s_st1 ls n (.int (v + Int32.ofInt q))) fun ls' => k ls' st L := h
    unfold s_ldI at h
    split at h
    · next v hv =>
      rw [s_frc_eq] at h
      obtain ⟨kk, hkk⟩ := List.getElem?_of_mem ((s_as_mem ad ls 0 n _).mpr ⟨n, _, (Nat.zero_add n).symm, hv, rfl⟩)
      exact lv_iinc hx hb hdg hl (k := kk) (x := v) hkk rfl (Nat.blt_eq.mp hn) rfl (fun lr2 hl2 => hk _ _ _ h hlen H locs lr2 hP hD hS (s_has_st1 (v := .int (v + Int32.ofInt q)) hl2))
    · exact h.elim
  | iadd =>
    intro hlen H locs lr hP hD hS hl
    replace h : s_II st fun x y r => k ls (.int (x + y) :: r) L := h
    unfold s_II at h
    split at h
    · exact lv_iadd hx hb hdg (hk _ _ _ h hlen H locs lr hP hD hS hl)
    · exact h.elim
  | isub =>
    intro hlen H locs lr hP hD hS hl
    replace h : s_II st fun x y r => k ls (.int (x - y) :: r) L := h
    unfold s_II at h
    split at h
    · exact lv_isub hx hb hdg (hk _ _ _ h hlen H locs lr hP hD hS hl)
    · exact h.elim
  | imul =>
    intro hlen H locs lr hP hD hS hl
    replace h : s_II st fun x y r => k ls (.int (x * y) :: r) L := h
    unfold s_II at h
    split at h
    · exact lv_imul hx hb hdg (hk _ _ _ h hlen H locs lr hP hD hS hl)
    · exact h.elim
  | iand =>
    intro hlen H locs lr hP hD hS hl
    replace h : s_II st fun x y r => k ls (.int (x &&& y) :: r) L := h
    unfold s_II at h
    split at h
    · exact lv_iand hx hb hdg (hk _ _ _ h hlen H locs lr hP hD hS hl)
    · exact h.elim
  | ior =>
    intro hlen H locs lr hP hD hS hl
    replace h : s_II st fun x y r => k ls (.int (x ||| y) :: r) L := h
    unfold s_II at h
    split at h
    · exact lv_ior hx hb hdg (hk _ _ _ h hlen H locs lr hP hD hS hl)
    · exact h.elim
  | ixor =>
    intro hlen H locs lr hP hD hS hl
    replace h : s_II st fun x y r => k ls (.int (x ^^^ y) :: r) L := h
    unfold s_II at h
    split at h
    · exact lv_ixor hx hb hdg (hk _ _ _ h hlen H locs lr hP hD hS hl)
    · exact h.elim
  | ishl =>
    intro hlen H locs lr hP hD hS hl
    replace h : s_II st fun x y r => k ls (.int (x <<< (y &&& 31)) :: r) L := h
    unfold s_II at h
    split at h
    · exact lv_ishl hx hb hdg (hk _ _ _ h hlen H locs lr hP hD hS hl)
    · exact h.elim
  | ishr =>
    intro hlen H locs lr hP hD hS hl
    replace h : s_II st fun x y r => k ls (.int (x >>> (y &&& 31)) :: r) L := h
    unfold s_II at h
    split at h
    · exact lv_ishr hx hb hdg (hk _ _ _ h hlen H locs lr hP hD hS hl)
    · exact h.elim
  | iushr =>
    intro hlen H locs lr hP hD hS hl
    replace h : s_II st fun x y r => k ls (.int (x.toUInt32 >>> (y.toUInt32 &&& Int32.toUInt32 31)).toInt32 :: r) L := h
    unfold s_II at h
    split at h
    · exact lv_iushr hx hb hdg rfl (hk _ _ _ h hlen H locs lr hP hD hS hl)
    · exact h.elim
  | idiv =>
    intro hlen H locs lr hP hD hS hl
    replace h : s_II st fun x y r => ¬ y = 0 ∧ k ls (.int (x / y) :: r) L := h
    unfold s_II at h
    split at h
    · exact lv_idiv hx hb hdg h.1 (hk _ _ _ h.2 hlen H locs lr hP hD hS hl)
    · exact h.elim
  | irem =>
    intro hlen H locs lr hP hD hS hl
    replace h : s_II st fun x y r => ¬ y = 0 ∧ k ls (.int (x - x / y * y) :: r) L := h
    unfold s_II at h
    split at h
    · exact lv_irem hx hb hdg h.1 (hk _ _ _ h.2 hlen H locs lr hP hD hS hl)
    · exact h.elim
  | ladd =>
    intro hlen H locs lr hP hD hS hl
    replace h : s_JJ st fun x y r => k ls (.long (x + y) :: r) L := h
    unfold s_JJ at h
    split at h
    · exact lv_ladd hx hb hdg (hk _ _ _ h hlen H locs lr hP hD hS hl)
    · exact h.elim
  | lmul =>
    intro hlen H locs lr hP hD hS hl
    replace h : s_JJ st fun x y r => k ls (.long (x * y) :: r) L := h
    unfold s_JJ at h
    split at h
    · exact lv_lmul hx hb hdg (hk _ _ _ h hlen H locs lr hP hD hS hl)
    · exact h.elim
  | ldiv =>
    intro hlen H locs lr hP hD hS hl
    replace h : s_JJ st fun x y r => ¬ y = 0 ∧ k ls (.long (x / y) :: r) L := h
    unfold s_JJ at h
    split at h
    · exact lv_ldiv hx hb hdg h.1 (hk _ _ _ h.2 hlen H locs lr hP hD hS hl)
    · exact h.elim
  | lrem =>
    intro hlen H locs lr hP hD hS hl
    replace h : s_JJ st fun x y r => ¬ y = 0 ∧ k ls (.long (x - x / y * y) :: r) L := h
    unfold s_JJ at h
    split at h
    · exact lv_lrem hx hb hdg h.1 (hk _ _ _ h.2 hlen H locs lr hP hD hS hl)
    · exact h.elim
  | lcmp =>
    intro hlen H locs lr hP hD hS hl
    replace h : s_JJ st fun x y r => k ls (.int (lg_cmp x y) :: r) L := h
    unfold s_JJ at h
    split at h
    · exact W.lcmp hx hb hdg (hk _ _ _ h hlen H locs lr hP hD hS hl)
    · exact h.elim
  | i2l =>
    intro hlen H locs lr hP hD hS hl
    replace h : s_I st fun x r => k ls (.long x.toInt64 :: r) L := h
    unfold s_I at h
    split at h
    · exact lv_i2l hx hb hdg rfl (hk _ _ _ h hlen H locs lr hP hD hS hl)
    · exact h.elim
  | i2b =>
    intro hlen H locs lr hP hD hS hl
    replace h : s_I st fun x r => k ls (.int x.toInt8.toInt32 :: r) L := h
    unfold s_I at h
    split at h
    · exact lv_i2b hx hb hdg rfl (hk _ _ _ h hlen H locs lr hP hD hS hl)
    · exact h.elim
  | i2s =>
    intro hlen H locs lr hP hD hS hl
    replace h : s_I st fun x r => k ls (.int x.toInt16.toInt32 :: r) L := h
    unfold s_I at h
    split at h
    · exact lv_i2s hx hb hdg rfl (hk _ _ _ h hlen H locs lr hP hD hS hl)
    · exact h.elim
  | dup =>
    intro hlen H locs lr hP hD hS hl
    unfold s_st at h
    dsimp only at h
    split at h
    · exact lv_dup hx hb hdg rfl (hk _ _ _ h hlen H locs lr hP hD hS hl)
    · exact lv_dup hx hb hdg rfl (hk _ _ _ h hlen H locs lr hP hD hS hl)
    · exact h.elim
  | dup2 =>
    intro hlen H locs lr hP hD hS hl
    unfold s_st at h
    dsimp only at h
    split at h
    · exact lv_dup2_11 hx hb hdg rfl rfl (hk _ _ _ h hlen H locs lr hP hD hS hl)
    · exact h.elim
  | pop =>
    intro hlen H locs lr hP hD hS hl
    unfold s_st at h
    dsimp only at h
    split at h
    · exact lv_pop hx hb hdg rfl (hk _ _ _ h hlen H locs lr hP hD hS hl)
    · exact h.elim
  | goto off =>
    intro hlen H locs lr hP hD hS hl
    obtain ⟨ns, v, ct⟩ := x
    cases ns with
    | nil => exact h.elim
    | cons b ns =>
      obtain ⟨t, ht1, ht2⟩ := s_ckT_spec (show s_ckT tgt pc off b = true from hck)
      exact lv_goto hx hb hdg ht2 (hj b t ht1 _ _ _ h hlen H locs lr hP hD hS hl)
  | ifCond co off =>
    intro hlen H locs lr hP hD hS hl
    obtain ⟨ns, v, ct⟩ := x
    cases ns with
    | nil => exact h.elim
    | cons b ns =>
      obtain ⟨t, ht1, ht2⟩ := s_ckT_spec (show s_ckT tgt pc off b = true from hck)
      replace h : s_I st fun v r => s_cmp co v 0 (jmp b ls r L) (k ls r L) := h
      unfold s_I at h
      split at h
      · next r =>
        have hJ : jmp b ls r L → _ := fun q => hj b t ht1 ls r L q hlen H locs lr hP hD hS hl
        have hN : k ls r L → _ := fun q => hk ls r L q hlen H locs lr hP hD hS hl
        obtain ⟨c1, c2, c3, c4, c5, c6⟩ := s_cmp_br h
        cases co with
        | eq => exact lv_if_eq hx hb hdg ht2 (fun q => hJ ((c1 rfl).1 q)) (fun q => hN ((c1 rfl).2 q))
        | ne => exact lv_if_ne hx hb hdg ht2 (fun q => hJ ((c2 rfl).1 q)) (fun q => hN ((c2 rfl).2 q))
        | lt => exact lv_if_lt hx hb hdg ht2 (fun q => hJ ((c3 rfl).1 q)) (fun q => hN ((c3 rfl).2 q))
        | ge => exact lv_if_ge hx hb hdg ht2 (fun q => hJ ((c4 rfl).1 (s_nle.mpr q))) (fun q => hN ((c4 rfl).2 (Classical.not_not.mp (fun z => q (s_nle.mp z)))))
        | gt => exact lv_if_gt hx hb hdg ht2 (fun q => hJ ((c5 rfl).1 q)) (fun q => hN ((c5 rfl).2 q))
        | le => exact lv_if_le hx hb hdg ht2 (fun q => hJ ((c6 rfl).1 (s_nle.mpr q))) (fun q => hN ((c6 rfl).2 (Classical.not_not.mp (fun z => q (s_nle.mp z)))))
      · exact h.elim
  | if_icmp co off =>
    intro hlen H locs lr hP hD hS hl
    obtain ⟨ns, v, ct⟩ := x
    cases ns with
    | nil => exact h.elim
    | cons b ns =>
      obtain ⟨t, ht1, ht2⟩ := s_ckT_spec (show s_ckT tgt pc off b = true from hck)
      replace h : s_II st fun v w r => s_cmp co v w (jmp b ls r L) (k ls r L) := h
      unfold s_II at h
      split at h
      · next r =>
        have hJ : jmp b ls r L → _ := fun q => hj b t ht1 ls r L q hlen H locs lr hP hD hS hl
        have hN : k ls r L → _ := fun q => hk ls r L q hlen H locs lr hP hD hS hl
        obtain ⟨c1, c2, c3, c4, c5, c6⟩ := s_cmp_br h
        cases co with
        | eq => exact lv_icmp_eq hx hb hdg ht2 (fun q => hJ ((c1 rfl).1 q)) (fun q => hN ((c1 rfl).2 q))
        | ne => exact lv_icmp_ne hx hb hdg ht2 (fun q => hJ ((c2 rfl).1 q)) (fun q => hN ((c2 rfl).2 q))
        | lt => exact lv_icmp_lt hx hb hdg ht2 (fun q => hJ ((c3 rfl).1 q)) (fun q => hN ((c3 rfl).2 q))
        | ge => exact lv_icmp_ge hx hb hdg ht2 (fun q => hJ ((c4 rfl).1 (s_nle.mpr q))) (fun q => hN ((c4 rfl).2 (Classical.not_not.mp (fun z => q (s_nle.mp z)))))
        | gt => exact lv_icmp_gt hx hb hdg ht2 (fun q => hJ ((c5 rfl).1 q)) (fun q => hN ((c5 rfl).2 q))
        | le => exact lv_icmp_le hx hb hdg ht2 (fun q => hJ ((c6 rfl).1 (s_nle.mpr q))) (fun q => hN ((c6 rfl).2 (Classical.not_not.mp (fun z => q (s_nle.mp z)))))
      · exact h.elim
  | tableswitch d lo2 hi offs =>
    intro hlen H locs lr hP hD hS hl
    obtain ⟨ns, v, ct⟩ := x
    cases ns with
    | nil => exact h.elim
    | cons b bs =>
      have hck2 : (s_ckT tgt pc d b && (s_ckTs tgt pc offs.toList bs && decide (hi + 1 = lo2 + (bs.length : Int) ∧ -2147483648 ≤ lo2 ∧ hi < 2147483648))) = true := hck
      simp only [Bool.and_eq_true, decide_eq_true_eq] at hck2
      obtain ⟨hd, hbs, hhi, hlo1, hhi2⟩ := hck2
      replace h : s_I st fun v r => s_tab v (fun b => jmp b ls r L) b lo2 bs ∧ (v.toInt < lo2 ∨ hi < v.toInt → jmp b ls r L) := h
      unfold s_I at h
      split at h
      · next v r =>
        by_cases hin : v.toInt < lo2 ∨ hi < v.toInt
        · obtain ⟨t, ht1, ht2⟩ := s_ckT_spec hd
          exact lv_tableOut hx hb hdg hin ht2 (hj b t ht1 _ _ _ (h.2 hin) hlen H locs lr hP hD hS hl)
        · obtain ⟨g1, g2⟩ := s_ckTs_at offs.toList bs hbs
          have hk1 : (v.toInt - lo2).toNat < bs.length := by omega
          have hk2 : (v.toInt - lo2).toNat < offs.size := by rw [← Array.length_toList, g1]; exact hk1
          obtain ⟨bb, g3, g4⟩ := g2 (v.toInt - lo2).toNat offs[(v.toInt - lo2).toNat] (by rw [Array.getElem?_toList, Array.getElem?_eq_getElem hk2])
          obtain ⟨t, ht1, ht2⟩ := s_ckT_spec g4
          have hv : v = Int32.ofInt (lo2 + ((v.toInt - lo2).toNat : Nat)) := by
            have e1 : lo2 + (((v.toInt - lo2).toNat : Nat) : Int) = v.toInt := by omega
            rw [e1, Int32.ofInt_toInt]
          exact lv_tableIn hx hb hdg (fun q => hin (Or.inl q)) (fun q => hin (Or.inr q)) (Array.getElem?_eq_getElem hk2) ht2 (hj bb t ht1 _ _ _ (s_tab_in bs lo2 h.1 _ bb g3 hv) hlen H locs lr hP hD hS hl)
      · exact h.elim
  | getfield ix =>
    intro hlen H locs lr hP hD hS hl
    obtain ⟨ns, v, ct⟩ := x
    unfold s_ckI at hck
    dsimp only at hck
    split at hck
    · next _ ci j q =>
      unfold s_ckF at hck
      split at hck
      · next _ C T N hC =>
        simp only [Bool.and_eq_true, decide_eq_true_eq] at hck
        obtain ⟨hj1, hj2⟩ := hck
        replace h : s_A st fun a r => match s_nth L a with
          | some (.inr (.inr (cj, fs))) => match Nat.beq ci cj with
            | true => match s_nth fs j with
              | some v => k ls (v :: r) L
              | none => False
            | false => False
          | _ => False := h
        unfold s_A at h
        split at h
        · next a r =>
          split at h
          · next _ cj fs hfs =>
            split at h
            · next hbq =>
              split at h
              · next _ w hw =>
                have e1 := Nat.eq_of_beq_eq_true hbq
                subst e1
                have hv : (fs.map (s_rv ad))[j]? = some (s_rv ad w) := by rw [List.getElem?_map, ← s_nth_eq, hw]; rfl
                exact va_get (D := D) (C := C) (T := T) (N := N) hx hb hts (s_in ci _ hC) hown hK hP a (s_rl_at hfs) hC j (Nat.blt_eq.mp hj1) (hts _ (gT_of (List.mem_of_getElem? hj2) rfl)) (fun _ h9 => h9) hv hdg (hk _ _ _ h hlen H locs lr hP hD hS hl)
              · exact h.elim
            · exact h.elim
          · exact h.elim
        · exact h.elim
      · cases hck
    · cases hck
  | putfield ix =>
    intro hlen H locs lr hP hD hS hl
    obtain ⟨ns, v, ct⟩ := x
    unfold s_ckI at hck
    dsimp only at hck
    split at hck
    · next _ ci j q =>
      simp only [Bool.and_eq_true, decide_eq_true_eq] at hck
      obtain ⟨hck, hfin⟩ := hck
      unfold s_ckF at hck
      split at hck
      · next _ C T N hC =>
        have hfin2 : (T j).2.2.2 = false := by
          unfold s_fld at hfin
          rw [hC] at hfin
          exact hfin
        simp only [Bool.and_eq_true, decide_eq_true_eq] at hck
        obtain ⟨hj1, hj2⟩ := hck
        unfold s_st at h
        dsimp only at h
        split at h
        · next w a r =>
          split at h
          · next _ cj fs hfs =>
            split at h
            · next hbq hble =>
              obtain ⟨h, hfit⟩ := s_fit_spec h
              rw [s_frH_eq] at h
              have e1 := Nat.eq_of_beq_eq_true hbq
              subst e1
              have hlt : j < fs.length := by
                rcases Nat.lt_or_ge j fs.length with q | q
                · exact q
                · rw [Nat.ble_eq.mpr q] at hble; cases hble
              refine va_put (D := D) (C := C) (T := T) (N := N) (v := s_rv ad w) hx hb hts (s_in ci _ hC) (s_fty ci) (s_ftyo ci _ hC) (s_nmo ci _ hC) hown hK hP hD hS a (s_rl_at hfs) hC j (Nat.blt_eq.mp hj1) (hts _ (gT_of (List.mem_of_getElem? hj2) rfl)) (fun _ h9 => h9) hfin2 (s_ftyo ci _ hC j (Nat.blt_eq.mp hj1)) (hfit ad).1 (hfit ad).2 (by rw [List.length_map]; exact hlt) hdg (fun H1 locs1 hP1 hD1 hS1 => ?_)
              have e2 : s_rl cy ad (s_set L a (.inr (.inr (ci, s_set fs j w)))) = (s_rl cy ad L).set a (ad a, .inr (ci, (fs.map (s_rv ad)).set j (s_rv ad w))) := by
                rw [s_rl_set]
                show (s_rl cy ad L).set a (ad a, .inr (ci, (s_set fs j w).map (s_rv ad))) = _
                rw [s_set_eq, List.map_set]
              exact hk _ _ _ h (by rw [s_set_eq, List.length_set]; exact hlen) H1 locs1 lr (by rw [e2]; exact hP1) (by rw [e2]; exact hD1) hS1 hl
            · exact h.elim
          · exact h.elim
        · exact h.elim
      · cases hck
    · cases hck
  | iaload =>
    intro hlen H locs lr hP hD hS hl
    unfold s_st at h
    dsimp only at h
    split at h
    · next i a r =>
      split at h
      · next _ n f hf => exact va_iald hx hb hK hP a 0 (s_rl_at hf) rfl h.1 hdg (hk _ _ _ h.2 hlen H locs lr hP hD hS hl)
      · exact h.elim
      · split at h
        · next n xs hbq =>
          have e1 := Nat.eq_of_beq_eq_true hbq
          subst e1
          obtain ⟨g1, g2, g3⟩ := hscr
          exact va_sld hx hb g1 g2 g3 hS h.1 hdg (hk _ _ _ h.2 hlen H locs lr hP hD hS hl)
        · exact h.elim
    · exact h.elim
  | iastore =>
    intro hlen H locs lr hP hD hS hl
    unfold s_st at h
    dsimp only at h
    split at h
    · next v i a r =>
      split at h
      · next _ n f hf =>
        refine va_iast hx hb hK hP hD hS a 0 (s_rl_at hf) rfl h.1 hdg (fun H1 locs1 hP1 hD1 hS1 => ?_)
        have e2 := s_rl_set cy ad L a (.inl (0, n, upd f i.toNatClampNeg v))
        exact hk _ _ _ (by have h3 := h.2; rwa [s_frH_eq] at h3) (by rw [s_set_eq, List.length_set]; exact hlen) H1 locs1 lr (by rw [e2]; exact hP1) (by rw [e2]; exact hD1) hS1 hl
      · exact h.elim
    · exact h.elim
  | baload =>
    intro hlen H locs lr hP hD hS hl
    unfold s_st at h
    dsimp only at h
    split at h
    · next i a r =>
      split at h
      · next _ n f hf => exact va_bald hx hb hK hP a 1 (s_rl_at hf) rfl h.1 hdg (hk _ _ _ h.2 hlen H locs lr hP hD hS hl)
      · next _ n f hf => exact va_zald hx hb hK hP a 2 (s_rl_at hf) rfl h.1 hdg (hk _ _ _ h.2 hlen H locs lr hP hD hS hl)
      · exact h.elim
    · exact h.elim
  | bastore =>
    intro hlen H locs lr hP hD hS hl
    unfold s_st at h
    dsimp only at h
    split at h
    · next v i a r =>
      split at h
      · next _ n f hf =>
        refine va_bast hx hb hK hP hD hS a 1 (s_rl_at hf) rfl h.1 hdg (fun H1 locs1 hP1 hD1 hS1 => ?_)
        have e2 := s_rl_set cy ad L a (.inl (1, n, upd f i.toNatClampNeg (vp_nar .byte v)))
        exact hk _ _ _ (by have h3 := h.2; rwa [s_frH_eq] at h3) (by rw [s_set_eq, List.length_set]; exact hlen) H1 locs1 lr (by rw [e2]; exact hP1) (by rw [e2]; exact hD1) hS1 hl
      · next _ n f hf =>
        refine va_zast hx hb hK hP hD hS a 2 (s_rl_at hf) rfl h.1 hdg (fun H1 locs1 hP1 hD1 hS1 => ?_)
        have e2 := s_rl_set cy ad L a (.inl (2, n, upd f i.toNatClampNeg (vp_nar .boolean v)))
        exact hk _ _ _ (by have h3 := h.2; rwa [s_frH_eq] at h3) (by rw [s_set_eq, List.length_set]; exact hlen) H1 locs1 lr (by rw [e2]; exact hP1) (by rw [e2]; exact hD1) hS1 hl
      · exact h.elim
    · exact h.elim
  | aaload =>
    intro hlen H locs lr hP hD hS hl
    unfold s_st at h
    dsimp only at h
    split at h
    · next i a r =>
      split at h
      · next _ l hf =>
        obtain ⟨hin, h⟩ := h
        split at h
        · next _ q hq =>
          have hr : (s_rl cy ad L)[a]? = some (ad a, .inl (cy 3, l.length, .inr (.inr (.inr (.inr (fun j => ((s_nth l j).join).map ad)))))) := s_rl_at hf
          have h1 := hk _ _ _ h hlen H locs lr hP hD hS hl
          have e1 : va_rf (((s_nth l i.toNatClampNeg).join).map ad) = .ref (ad q) := by rw [hq]; rfl
          exact va_aldq (C := "WishClerk$Book") hx hb hK hP a 3 hr rfl hin hdg (by rw [e1]; exact h1)
        · exact h.elim
      · next _ l hf =>
        obtain ⟨hin, h⟩ := h
        split at h
        · next _ q hq =>
          have hr : (s_rl cy ad L)[a]? = some (ad a, .inl (cy 4, l.length, .inr (.inr (.inr (.inr (fun j => ((s_nth l j).join).map ad)))))) := s_rl_at hf
          have h1 := hk _ _ _ h hlen H locs lr hP hD hS hl
          have e1 : va_rf (((s_nth l i.toNatClampNeg).join).map ad) = .ref (ad q) := by rw [hq]; rfl
          exact va_aldq (C := "WishClerk$Sheet") hx hb hK hP a 4 hr rfl hin hdg (by rw [e1]; exact h1)
        · exact h.elim
      · exact h.elim
    · exact h.elim
  | arraylength =>
    intro hlen H locs lr hP hD hS hl
    unfold s_st at h
    dsimp only at h
    split at h
    · next a r =>
      split at h
      · next n xs hbq =>
        have e1 := Nat.eq_of_beq_eq_true hbq
        subst e1
        obtain ⟨g1, g2, g3⟩ := hscr
        exact va_slen hx hb g1 g2 g3 hS hdg (hk _ _ _ h hlen H locs lr hP hD hS hl)
      · exact h.elim
    · exact h.elim
  | ireturn =>
    intro hlen H locs lr hP hD hS hl
    unfold s_st at h
    dsimp only at h
    split at h
    · next v =>
      split at h
      · exact (hret pc L H locs lr hlen hP hD hS).1 hdg v (fun _ => h.1) h.2
      · exact (hret pc L H locs lr hlen hP hD hS).1 hdg v (fun q => by cases q) h
    · exact h.elim
  | lreturn =>
    intro hlen H locs lr hP hD hS hl
    unfold s_st at h
    dsimp only at h
    split at h
    · next v => exact (hret pc L H locs lr hlen hP hD hS).2.1 hdg v h
    · exact h.elim
  | return_ =>
    intro hlen H locs lr hP hD hS hl
    unfold s_st at h
    dsimp only at h
    split at h
    · exact (hret pc L H locs lr hlen hP hD hS).2.2 hdg h
    · exact h.elim
  | invokevirtual ix =>
    obtain ⟨ns, v, ct⟩ := x
    unfold s_ckI at hck
    dsimp only at hck
    split at hck
    · next _ _ q y b2 mx rt kd np f2 l2 rest =>
      simp only [Bool.and_eq_true, decide_eq_true_eq] at hck
      obtain ⟨g1, g2, g3, g4⟩ := hck
      obtain ⟨ro, fpf, pre, post⟩ := rest
      have g1 := Nat.blt_eq.mp g1
      have g3 := Nat.blt_eq.mp g3
      have g4 := Nat.ble_eq.mp g4
      exact s_inv_ok (ns := [q]) (x0 := v) hE0 (hOk _ rfl) ⟨by omega, by omega⟩ (Or.inr ⟨kd - 1, by omega, hdg, List.mem_of_getElem? g2⟩) hk h
    · cases hck
  | invokestatic ix =>
    obtain ⟨ns, v, ct⟩ := x
    unfold s_ckI at hck
    dsimp only at hck
    split at hck
    · next _ _ q y b2 mx rt kd np f2 l2 rest =>
      simp only [Bool.and_eq_true, decide_eq_true_eq] at hck
      obtain ⟨g1, g2, g3, g4⟩ := hck
      obtain ⟨ro, fpf, pre, post⟩ := rest
      have g1 := Nat.eq_of_beq_eq_true g1
      have g3 := Nat.blt_eq.mp g3
      have g4 := Nat.ble_eq.mp g4
      exact s_inv_ok (ns := [q]) (x0 := v) hE0 (hOk _ rfl) ⟨by omega, by omega⟩ (Or.inl ⟨g1, hdg, Or.inl (List.mem_of_getElem? g2)⟩) hk h
    · next _ _ q q2 y b2 mx rt kd np f2 l2 rest =>
      simp only [Bool.and_eq_true, decide_eq_true_eq] at hck
      obtain ⟨g1, g2, g3, g4⟩ := hck
      obtain ⟨ro, fpf, pre, post⟩ := rest
      have g1 := Nat.eq_of_beq_eq_true g1
      have g3 := Nat.blt_eq.mp g3
      have g4 := Nat.ble_eq.mp g4
      exact s_inv_ok (ns := [q, q2]) (x0 := v) hE0 (hOk _ rfl) ⟨by omega, by omega⟩ (Or.inl ⟨g1, hdg, Or.inr (List.mem_of_getElem? g2)⟩) hk h
    · next _ _ q =>
      simp only [Bool.and_eq_true, decide_eq_true_eq] at hck
      obtain ⟨g2, g3, g4⟩ := hck
      have g3 := Nat.blt_eq.mp g3
      have g4 := Nat.ble_eq.mp g4
      intro hlen H locs lr hP hD hS hl
      replace h : s_II st fun x y r => match Nat.ble (s_cat r) 8 with
        | true => k ls (.int (if x < y then y else x) :: r) L
        | false => False := h
      unfold s_II at h
      split at h
      · next y x r =>
        split at h
        · next h8 =>
          have h8 := Nat.ble_eq.mp h8
          exact va_mmax hx hb (hml.trans hl.1.symm) hown (hts _ (gT_of (List.mem_of_getElem? g2) rfl)) (hts _ s_math_words.1) (hts _ s_math_words.2.2.1) (hts _ s_math_words.2.2.2.1) (by omega) (by rw [s_cat_sum]; omega) hcl hsl hdg (hk _ _ _ h hlen H locs lr hP hD hS hl)
        · exact h.elim
      · exact h.elim
    · next _ _ q =>
      simp only [Bool.and_eq_true, decide_eq_true_eq] at hck
      obtain ⟨g2, g3, g4⟩ := hck
      have g3 := Nat.blt_eq.mp g3
      have g4 := Nat.ble_eq.mp g4
      intro hlen H locs lr hP hD hS hl
      replace h : s_II st fun x y r => match Nat.ble (s_cat r) 8 with
        | true => k ls (.int (if y < x then y else x) :: r) L
        | false => False := h
      unfold s_II at h
      split at h
      · next y x r =>
        split at h
        · next h8 =>
          have h8 := Nat.ble_eq.mp h8
          exact va_mmin hx hb (hml.trans hl.1.symm) hown (hts _ (gT_of (List.mem_of_getElem? g2) rfl)) (hts _ s_math_words.2.1) (hts _ s_math_words.2.2.1) (hts _ s_math_words.2.2.2.2) (by omega) (by rw [s_cat_sum]; omega) hcl hsl hdg (hk _ _ _ h hlen H locs lr hP hD hS hl)
        · exact h.elim
      · exact h.elim
    · next _ _ q =>
      simp only [Bool.and_eq_true, decide_eq_true_eq] at hck
      obtain ⟨g2, g3, g4⟩ := hck
      have g3 := Nat.blt_eq.mp g3
      have g4 := Nat.ble_eq.mp g4
      intro hlen H locs lr hP hD hS hl
      unfold s_st at h
      dsimp only at h
      split at h
      · next n dp d sp a r =>
        split at h
        · next _ _ n0' f n1 g hf hg =>
          split at h
          · next h8 =>
            obtain ⟨⟨c1, c2, c3, c4, c5⟩, h⟩ := h
            rw [s_frH_eq] at h
            have h8 := Nat.ble_eq.mp h8
            refine va_copyi hx hb (hml.trans hl.1.symm) hown (hts _ (gT_of (List.mem_of_getElem? g2) rfl)) (hts _ s_copy_words.1) (hts _ s_copy_words.2.1) (hts _ s_copy_words.2.2) hK hP hD hS a d 0 0 (s_rl_at hf) (s_rl_at hg) rfl rfl rfl c1 c2 c3 c4 c5 (fun i hi => rfl) (by omega) (by rw [s_cat_sum]; omega) hdg (fun H1 locs1 hP1 hD1 hS1 => ?_)
            have e2 := s_rl_set cy ad L d (.inl (0, n1, va_cpy f g sp.toNatClampNeg dp.toNatClampNeg n.toNatClampNeg))
            exact hk _ _ _ h (by rw [s_set_eq, List.length_set]; exact hlen) H1 locs1 lr (by rw [e2]; exact hP1) (by rw [e2]; exact hD1) hS1 hl
          · exact h.elim
        · exact h.elim
      · exact h.elim
    · cases hck
  | lookupswitch d ps =>
    intro hlen H locs lr hP hD hS hl
    obtain ⟨ns, v, ct⟩ := x
    cases ns with
    | nil => exact h.elim
    | cons b bs =>
      have hck2 : (s_ckT tgt pc d b && (s_ckTs tgt pc (ps.toList.map (fun z => z.2)) bs && (decide (∀ q ∈ ps.toList, -2147483648 ≤ q.1 ∧ q.1 < 2147483648) && (ps.toList.zip (ps.toList.drop 1)).all (fun (a, next) => decide (a.1 < next.1))))) = true := hck
      simp only [Bool.and_eq_true, decide_eq_true_eq] at hck2
      obtain ⟨hd, hbs, hrg, hso⟩ := hck2
      replace h : s_I st fun v r => s_lok v (fun b => jmp b ls r L) b ps.toList bs := h
      unfold s_I at h
      split at h
      · next v r =>
        obtain ⟨bb, g1, g2⟩ := s_lok_at (jmp := fun b => jmp b ls r L) (tgt := tgt) (pc := pc) hd ps.toList bs hrg hbs h
        obtain ⟨t, ht1, ht2⟩ := s_ckT_spec g2
        exact lv_lookup hx hb hdg hso rfl ht2 (hj bb t ht1 _ _ _ g1 hlen H locs lr hP hD hS hl)
      · exact h.elim
  | _ => exact h.elim
end SStep
end
section
/-! ===== a method's contract out of a walk of the small machine ===== -/
def s_ckL (own : String) (cc : ByteArray) (nL fr lo : Nat) (tgt : Nat → Option Nat) : List sOp → Nat → Bool
  | [], _ => true
  | (pc, i, x) :: r, q => Nat.beq pc q && (match i with
    | .nop => match x.1 with
      | b :: _ => decide (tgt b = some pc)
      | _ => false
    | _ => match decode cc pc with
      | .ok (j, len) => decide (j = i ∧ len = s_il i len) && (s_ckI own nL fr lo tgt pc i x && s_ckL own cc nL fr lo tgt r (pc + len))
      | _ => false)
def s_tgt (bl : List sBk) (b : Nat) : Option Nat := (s_nth bl b).map (fun q => q.1)
def s_ck (own : String) (cc : ByteArray) (nL fr lo : Nat) (bl : List sBk) : Bool := decide (s_tgt bl 0 = some 0) && bl.all (fun q => s_ckL own cc nL fr lo (s_tgt bl) q.2.2.2 q.1)
def s_oks : List sOp → Prop → Prop
  | [], Q => Q
  | (_, _, _, _, some ct) :: r, Q => s_Ok ct ∧ s_oks r Q
  | (_, _, _, _, none) :: r, Q => s_oks r Q
def s_okb : List sBk → Prop
  | [] => True
  | (_, _, _, ops) :: r => s_oks ops (s_okb r)
theorem s_oks_spec : ∀ (ops : List sOp) (Q : Prop), s_oks ops Q → Q ∧ ∀ o ∈ ops, ∀ ct, o.2.2.2.2 = some ct → s_Ok ct
  | [], Q, h => ⟨h, fun o ho => absurd ho List.not_mem_nil⟩
  | (a, b, c, d, some ct) :: r, Q, h => by
    obtain ⟨h1, h2⟩ := s_oks_spec r Q h.2
    refine ⟨h1, fun o ho ct2 he => ?_⟩
    rcases List.mem_cons.mp ho with rfl | ho
    · cases he; exact h.1
    · exact h2 o ho ct2 he
  | (a, b, c, d, none) :: r, Q, h => by
    obtain ⟨h1, h2⟩ := s_oks_spec r Q h
    refine ⟨h1, fun o ho ct2 he => ?_⟩
    rcases List.mem_cons.mp ho with rfl | ho
    · cases he
    · exact h2 o ho ct2 he
theorem s_okb_spec : ∀ (bl : List sBk), s_okb bl → ∀ q ∈ bl, ∀ o ∈ q.2.2.2, ∀ ct, o.2.2.2.2 = some ct → s_Ok ct
  | [], _, q, h => absurd h List.not_mem_nil
  | (a, b, c, ops) :: r, h, q, hq => by
    obtain ⟨h1, h2⟩ := s_oks_spec ops (s_okb r) h
    rcases List.mem_cons.mp hq with rfl | hq
    · exact h2
    · exact s_okb_spec r h1 q hq
section SMeth
variable {p : Program} {l : Launch} {e : Env} {R : Room} {s : State} {m : MethodId} {args : Array Value} {below : List Frame} {meth : Method} {c : Code} {D : va_G} {cy : Nat → ClassId} {ad : Nat → Nat} {A : Nat → Prop} {Q : State → Prop} {E : sE} {own : String} {cc : ByteArray} {nL n0 cl sl : Nat}
theorem s_list_ok (hE : s_Env p R s m args c D cy ad A E own cc nL cl sl) {P : sP} {z : Bool} (hret : s_Ret p l e R s m args below meth c D cy ad A Q cc n0 cl sl P z) {fr lo : Nat} (hfr : fr ≤ R.frames) (hlo : lo ≤ R.locals) {tgt : Nat → Option Nat} {jmp : Nat → sK}
    (hj : ∀ b t, tgt b = some t → ∀ ls st L, jmp b ls st L → s_Gp p l e R s m args below meth c D cy ad A Q nL n0 cl sl t ls st L) :
    ∀ (ops : List sOp) (pc : Nat), s_ckL own cc nL fr lo tgt ops pc = true → (∀ o ∈ ops, ∀ ct, o.2.2.2.2 = some ct → s_Ok ct) → ∀ ls st L, s_wp E jmp P z ops ls st L → s_Gp p l e R s m args below meth c D cy ad A Q nL n0 cl sl pc ls st L
  | [], pc, _, _, ls, st, L, h => h.elim
  | (pc', i, x) :: r, pc, hck, hOk, ls, st, L, h => by
    unfold s_ckL at hck
    simp only [Bool.and_eq_true] at hck
    obtain ⟨hpc, hck⟩ := hck
    have hpc := Nat.eq_of_beq_eq_true hpc
    subst hpc
    replace h : s_st E jmp P z i x (s_wp E jmp P z r) ls st L := h
    by_cases hni : i = .nop
    · subst hni
      obtain ⟨ns, v, ct⟩ := x
      cases ns with
      | nil => exact h.elim
      | cons b ns => exact hj b pc' (of_decide_eq_true hck) ls st L h
    · have hck2 : (match decode cc pc' with
        | .ok (j, len) => decide (j = i ∧ len = s_il i len) && (s_ckI own nL fr lo tgt pc' i x && s_ckL own cc nL fr lo tgt r (pc' + len))
        | _ => false) = true := by
        revert hck
        split
        · exact absurd rfl hni
        · exact id
      cases hd : decode cc pc' with
      | error e => rw [hd] at hck2; cases hck2
      | ok q =>
        obtain ⟨j, len⟩ := q
        rw [hd] at hck2
        simp only [Bool.and_eq_true, decide_eq_true_eq] at hck2
        obtain ⟨⟨rfl, hlen⟩, hci, hrest⟩ := hck2
        rw [hlen] at hd hrest
        refine s_op_ok hE hret hfr hlo hj hni (fun ct hct => hOk _ List.mem_cons_self ct hct) hd hci (fun ls st L hk => ?_) h
        exact s_list_ok hE hret hfr hlo hj r (pc' + s_il j len) hrest (fun o ho => hOk o (List.mem_cons_of_mem _ ho)) ls st L hk
theorem s_Gp_mask {pc : Nat} {ls : sL} {st : sS} {L : sH} (mk : List Bool) (h : s_Gp p l e R s m args below meth c D cy ad A Q nL n0 cl sl pc (s_mask mk ls) st L) : s_Gp p l e R s m args below meth c D cy ad A Q nL n0 cl sl pc ls st L :=
  fun hlen H locs lr hP hD hS hl => h hlen H locs lr hP hD hS (s_has_mask mk hl)
theorem s_go_ok (hE : s_Env p R s m args c D cy ad A E own cc nL cl sl) {P : sP} {z : Bool} (hret : s_Ret p l e R s m args below meth c D cy ad A Q cc n0 cl sl P z) {fr lo : Nat} (hfr : fr ≤ R.frames) (hlo : lo ≤ R.locals) {bl : List sBk} (hck : s_ck own cc nL fr lo bl = true) (hOk : s_okb bl) {G : Nat → sK}
    (hG : ∀ b t, s_tgt bl b = some t → ∀ ls st L, G b ls st L → s_Gp p l e R s m args below meth c D cy ad A Q nL n0 cl sl t ls st L) :
    ∀ (n b t : Nat), s_tgt bl b = some t → ∀ ls st L, s_go E bl G P z n b ls st L → s_Gp p l e R s m args below meth c D cy ad A Q nL n0 cl sl t ls st L
  | 0, b, t, _, ls, st, L, h => h.elim
  | n + 1, b, t, ht, ls, st, L, h => by
    unfold s_go at h
    cases hb : s_nth bl b with
    | none => rw [hb] at h; exact h.elim
    | some q =>
      obtain ⟨pc, cut, live, ops⟩ := q
      rw [hb] at h
      dsimp only at h
      have ht2 : pc = t := by
        have := ht
        unfold s_tgt at this
        rw [hb] at this
        exact Option.some.inj this
      subst ht2
      have hmem : (pc, cut, live, ops) ∈ bl := List.mem_of_getElem? ((s_nth_eq bl b).symm.trans hb)
      cases cut with
      | true => exact s_Gp_mask live (hG b pc ht _ _ _ h)
      | false =>
        refine s_Gp_mask live ?_
        unfold s_ck at hck
        simp only [Bool.and_eq_true] at hck
        exact s_list_ok hE hret hfr hlo (s_go_ok hE hret hfr hlo (by unfold s_ck; simp only [Bool.and_eq_true]; exact hck) hOk hG n) ops pc (List.all_eq_true.mp hck.2 _ hmem) (s_okb_spec bl hOk _ hmem) _ _ _ h
theorem s_clo_ok (hE : s_Env p R s m args c D cy ad A E own cc nL cl sl) {P : sP} {z : Bool} (hret : s_Ret p l e R s m args below meth c D cy ad A Q cc n0 cl sl P z) {fr lo : Nat} (hfr : fr ≤ R.frames) (hlo : lo ≤ R.locals) {bl : List sBk} (hck : s_ck own cc nL fr lo bl = true) (hOk : s_okb bl) :
    s_Clo E bl (fun b ls st L => ∀ t, s_tgt bl b = some t → s_Gp p l e R s m args below meth c D cy ad A Q nL n0 cl sl t ls st L) P z := by
  intro b ls st L h t ht
  unfold s_run at h
  cases hb : s_nth bl b with
  | none => rw [hb] at h; exact h.elim
  | some q =>
    obtain ⟨pc, cut, live, ops⟩ := q
    rw [hb] at h
    dsimp only at h
    have ht2 : pc = t := by
      have := ht
      unfold s_tgt at this
      rw [hb] at this
      exact Option.some.inj this
    subst ht2
    have hmem : (pc, cut, live, ops) ∈ bl := List.mem_of_getElem? ((s_nth_eq bl b).symm.trans hb)
    have hck' := hck
    unfold s_ck at hck'
    simp only [Bool.and_eq_true] at hck'
    exact s_list_ok hE hret hfr hlo (s_go_ok hE hret hfr hlo hck hOk (fun b t ht ls st L hG => hG t ht) 99) ops pc (List.all_eq_true.mp hck'.2 _ hmem) (s_okb_spec bl hOk _ hmem) _ _ _ h
end SMeth
def s_ent : Nat → sS → sL
  | n, [] => List.replicate n none
  | n, .long v :: r => some (.long v) :: none :: s_ent (n - 2) r
  | n, v :: r => some v :: s_ent (n - 1) r
theorem s_ent_in (ad : Nat → Nat) : ∀ (vs : sS) (n i : Nat), (∀ v ∈ vs, ∀ d, v ≠ .double d) → ∀ q ∈ s_as ad i (s_ent n vs), q ∈ lv_args i (vs.map (s_rv ad))
  | [], n, i, _, q, h => by
    have : ∀ (n i : Nat), s_as ad i (List.replicate n none) = [] := by
      intro n
      induction n with
      | zero => intro i; rfl
      | succ n ih => intro i; exact ih (i + 1)
    rw [show s_ent n [] = List.replicate n none from by cases n <;> rfl, this] at h
    exact absurd h List.not_mem_nil
  | v :: r, n, i, hd, q, h => by
    have ih := fun n i => s_ent_in ad r n i (fun w hw => hd w (List.mem_cons_of_mem _ hw))
    cases v with
    | long x =>
      have h : q ∈ (i, Value.long x) :: s_as ad (i + 2) (s_ent (n - 2) r) := h
      show q ∈ (i, Value.long x) :: lv_args (i + 2) (r.map (s_rv ad))
      rcases List.mem_cons.mp h with e | e
      · rw [e]; exact List.mem_cons_self
      · exact List.mem_cons_of_mem _ (ih _ _ q e)
    | double x => exact absurd rfl (hd _ List.mem_cons_self x)
    | int x =>
      have h : q ∈ (i, Value.int x) :: s_as ad (i + 1) (s_ent (n - 1) r) := h
      show q ∈ (i, Value.int x) :: lv_args (i + 1) (r.map (s_rv ad))
      rcases List.mem_cons.mp h with e | e
      · rw [e]; exact List.mem_cons_self
      · exact List.mem_cons_of_mem _ (ih _ _ q e)
    | ref x =>
      have h : q ∈ (i, Value.ref (ad x)) :: s_as ad (i + 1) (s_ent (n - 1) r) := h
      show q ∈ (i, Value.ref (ad x)) :: lv_args (i + 1) (r.map (s_rv ad))
      rcases List.mem_cons.mp h with e | e
      · rw [e]; exact List.mem_cons_self
      · exact List.mem_cons_of_mem _ (ih _ _ q e)
    | null =>
      have h : q ∈ (i, Value.null) :: s_as ad (i + 1) (s_ent (n - 1) r) := h
      show q ∈ (i, Value.null) :: lv_args (i + 1) (r.map (s_rv ad))
      rcases List.mem_cons.mp h with e | e
      · rw [e]; exact List.mem_cons_self
      · exact List.mem_cons_of_mem _ (ih _ _ q e)
    | float x =>
      have h : q ∈ (i, Value.float x) :: s_as ad (i + 1) (s_ent (n - 1) r) := h
      show q ∈ (i, Value.float x) :: lv_args (i + 1) (r.map (s_rv ad))
      rcases List.mem_cons.mp h with e | e
      · rw [e]; exact List.mem_cons_self
      · exact List.mem_cons_of_mem _ (ih _ _ q e)
    | retAddr x =>
      have h : q ∈ (i, Value.retAddr x) :: s_as ad (i + 1) (s_ent (n - 1) r) := h
      show q ∈ (i, Value.retAddr x) :: lv_args (i + 1) (r.map (s_rv ad))
      rcases List.mem_cons.mp h with e | e
      · rw [e]; exact List.mem_cons_self
      · exact List.mem_cons_of_mem _ (ih _ _ q e)
def s_rvt (r : Option FieldType) (v : Option Value) : Bool := match r, v with
  | none, none => true
  | some .int, some (.int _) => true
  | some .boolean, some (.int _) => true
  | some .long, some (.long _) => true
  | _, _ => false
def s_PP (rt : Option FieldType) (ro : Bool) (post : sS → sH → sP) (vs : sS) (L : sH) : sP := fun r L' => s_rvt rt r = true ∧ post vs L r L' ∧ (ro = true → L' = L)
def s_zb (r : Option FieldType) : Bool := match r with
  | some .boolean => true
  | _ => false
end
section
/-! ===== a contract, out of the walk ===== -/
theorem s_sl_len (ad : Nat → Nat) : ∀ vs : sS, (lg_sl (vs.map (s_rv ad))).length = s_cat vs
  | [] => rfl
  | v :: r => by
    have ih := s_sl_len ad r
    cases v <;> simp [lg_sl, s_rv, s_cat, Value.category] at ih ⊢ <;> omega
def s_nod (vs : sS) : Bool := vs.all (fun v => match v with
  | .double _ => false
  | _ => true)
section SRet
variable {p : Program} {l : Launch} {e : Env} {R : Room} {s : State} {m : MethodId} {args : Array Value} {below : List Frame} {meth : Method} {c : Code} {H : Heap} {locs : List Loc} {cl sl : Nat} {cc : ByteArray} {Qc : Array Value → State → Outcome → State → Prop} {free : Addr → Prop} {pc : Nat} {lr : Array Slot}
theorem s_ret_i (hx : p.tables.exec = Jvm.exec) (hb : c.code = cc) (hlocks : meth.locks = false) {r : Option FieldType} (hr : meth.sig.returnType = r) {v : Int32} (hv : s_rvt r (some (.int v)) = true) (hz : s_zb r = true → v = 0 ∨ v = 1) (hq : ∀ t : State, t.heap = H → s.WarmedH t.vm → Qc args s (.returned (some (.int v))) t) (hf : ∀ q ∈ locs, free q.base) (hdg : decode cc pc = .ok (.ireturn, 1)) : W p l e R s m args below meth c H locs cl sl (MQ below Qc args s cl sl free) (F0 m pc lr [.int v]) := by
  unfold s_rvt at hv
  split at hv
  · next h => cases h
  · next h => exact W.iret hx hb hr hq hf hdg hlocks
  · next h =>
    have hn : narrow .boolean (.int v) = .int v := by rcases hz rfl with rfl | rfl <;> rfl
    exact W.zret hx hb hr hn hq hf hdg hlocks
  · next h => cases h
  · cases hv
theorem s_ret_l (hx : p.tables.exec = Jvm.exec) (hb : c.code = cc) (hlocks : meth.locks = false) {r : Option FieldType} (hr : meth.sig.returnType = r) {v : Int64} (hv : s_rvt r (some (.long v)) = true) (hq : ∀ t : State, t.heap = H → s.WarmedH t.vm → Qc args s (.returned (some (.long v))) t) (hf : ∀ q ∈ locs, free q.base) (hdg : decode cc pc = .ok (.lreturn, 1)) : W p l e R s m args below meth c H locs cl sl (MQ below Qc args s cl sl free) (F0 m pc lr [.long v]) := by
  unfold s_rvt at hv
  split at hv
  · next h => cases h
  · next h => cases h
  · next h => cases h
  · next h => exact W.lret hx hb hr hq hf hdg hlocks
  · cases hv
theorem s_ret_v (hx : p.tables.exec = Jvm.exec) (hb : c.code = cc) (hlocks : meth.locks = false) {r : Option FieldType} (hr : meth.sig.returnType = r) (hv : s_rvt r none = true) (hq : ∀ t : State, t.heap = H → s.WarmedH t.vm → Qc args s (.returned none) t) (hf : ∀ q ∈ locs, free q.base) (hdg : decode cc pc = .ok (.return_, 1)) : W p l e R s m args below meth c H locs cl sl (MQ below Qc args s cl sl free) (F0 m pc lr []) := by
  unfold s_rvt at hv
  split at hv
  · exact W.vret hx hb hr hq hf hdg hlocks
  · next h => cases h
  · next h => cases h
  · next h => cases h
  · cases hv
end SRet
set_option maxHeartbeats 1000000 in
theorem s_ok_of {y : MethodName} {b : ByteArray} {n : Nat} {r : Option FieldType} {kd np fr lo : Nat} {ro : Bool} {fp : sS → sH → List Nat} {pre : sS → sH → Prop} {post : sS → sH → sP} (bl : List sBk) (hpl : plainName y.cls = true) (hsta : s_Sta ((y, b, n, r), (kd, np, fr, lo), ro, fp, pre, post)) (hck : s_ck y.cls b n fr lo bl = true) (hOk : s_okb bl)
    (hbody : ∀ vs L, pre vs L → (Nat.ble (s_cat vs) n && s_nod vs) = true ∧ ∀ G, s_Clo none bl G (s_PP r ro post vs L) (s_zb r) → G 0 (s_ent n vs) [] L) : s_Ok ((y, b, n, r), (kd, np, fr, lo), ro, fp, pre, post) := by
  refine ⟨hsta, fun l D cy ad sz vs L hpre => ?_⟩
  refine Met.ofW (cc := b) (maxL := n) (ret := r) hpl rfl ?_
  intro p e s m args below meth c s₁ B hml hv
  obtain ⟨rfl, hsz, hP, hK, hD0, hnst, hstr⟩ := hv
  subst hsz
  obtain ⟨hvs, hwalk⟩ := hbody vs L hpre
  simp only [Bool.and_eq_true] at hvs
  have hts : ∀ w ∈ gT, w.before (vs.map (s_rv ad)).toArray s = true := fun w hw => atoms_spec (ws := s_words y b n r) B.pre w (List.mem_cons_of_mem _ hw)
  have hown : s.vm.findClass y.cls = some m.cls := findClass_of_methodNamed B.named
  have hlocks := B.notSynchronized
  have hD := hD0.self (sz := s.heap.size)
  have hE : s_Env p { frames := fr, cells := 0, slots := 0, locals := lo } s m (vs.map (s_rv ad)).toArray c D cy ad (va_A (s_rl cy ad L) s.heap.size) none y.cls b n 0 0 := ⟨B.exec, B.bytes, hml, hown, hts, hK, hnst, hstr, fun q h => Or.inr h, trivial, Nat.zero_le _, Nat.zero_le _⟩
  have hret : s_Ret p l e { frames := fr, cells := 0, slots := 0, locals := lo } s m (vs.map (s_rv ad)).toArray below meth c D cy ad (va_A (s_rl cy ad L) s.heap.size) (MQ below (s_Qc D cy ad s.heap.size vs L ro post) (vs.map (s_rv ad)).toArray s 0 0 (va_A (s_rl cy ad L) s.heap.size)) b L.length 0 0 (s_PP r ro post vs L) (s_zb r) := by
    intro pc L2 H locs lr hlen hP2 hD2 hS2
    refine ⟨fun hdg v hz hp => ?_, fun hdg v hp => ?_, fun hdg hp => ?_⟩
    · exact s_ret_i B.exec B.bytes hlocks B.returns hp.1 hz (fun t ht _ => ⟨⟨some (.int v), L2, rfl, hp.2, hlen, by rw [ht]; exact hP2⟩, hS2.F ht⟩) hS2.2.2 hdg
    · exact s_ret_l B.exec B.bytes hlocks B.returns hp.1 (fun t ht _ => ⟨⟨some (.long v), L2, rfl, hp.2, hlen, by rw [ht]; exact hP2⟩, hS2.F ht⟩) hS2.2.2 hdg
    · exact s_ret_v B.exec B.bytes hlocks B.returns hp.1 (fun t ht _ => ⟨⟨none, L2, rfl, hp.2, hlen, by rw [ht]; exact hP2⟩, hS2.F ht⟩) hS2.2.2 hdg
  have hG := hwalk _ (s_clo_ok hE hret (Nat.le_refl fr) (Nat.le_refl lo) hck hOk)
  have ht0 : s_tgt bl 0 = some 0 := by
    unfold s_ck at hck
    simp only [Bool.and_eq_true, decide_eq_true_eq] at hck
    exact hck.1
  have hW := hG 0 ht0 rfl s.heap [] 
  have hle : (lg_sl (vs.map (s_rv ad))).length ≤ n := by rw [s_sl_len]; exact Nat.ble_eq.mp hvs.1
  have hl := lv_entry (vs.map (s_rv ad)) (n := n) hle
  rw [lg_entry_eq]
  refine hW _ hP hD va_S.rf ⟨hl.1, hl.2.1, fun q hq => hl.2.2 q (s_ent_in ad vs n 0 (fun v hv d => ?_) q hq)⟩
  rintro rfl
  have := List.all_eq_true.mp hvs.2 _ hv
  cases this
end
section
/-! ===== Book: bits and rows ===== -/
def vI (vs : sS) (k : Nat) : Int32 := match s_nth vs k with
  | some (.int v) => v
  | _ => 0
/-- a field of the object at cell 0 -/
def bS (L : sH) (k : Nat) : Int32 := match s_nth L 0 with
  | some (.inr (.inr (_, fs))) => vI fs k
  | _ => 0
/-- the ints of the array at a cell -/
def bF (L : sH) (i : Nat) : Nat → Int32 := match s_nth L i with
  | some (.inl (_, _, f)) => f
  | _ => fun _ => 0
/-- the cell that a field of an object names -/
def s_rf (L : sH) (b k : Nat) : Nat := match s_nth L b with
  | some (.inr (.inr (_, fs))) => match s_nth fs k with
    | some (.ref a) => a
    | _ => 0
  | _ => 0
def bkO (s : Nat → Int32) : sC := .inr (.inr (0, [.int (s 0), .int (s 1), .int (s 2), .int (s 3), .int (s 4), .int (s 5), .int (s 6), .ref 1, .ref 2, .ref 3, .ref 4, .ref 5, .ref 6, .ref 7, .ref 8, .int (s 15), .ref 9, .int (s 17), .int (s 18)]))
/-- a Book's cells: itself; years, price, ones, needed, clashing, follows, wanted, planWish, seenOne -/
def bkW (s : Nat → Int32) (F : Nat → Nat → Int32) : sH := [bkO s, .inl (0, 8, F 1), .inl (0, 8, F 2), .inl (0, 8, F 3), .inl (0, 8, F 4), .inl (0, 8, F 5), .inl (0, 8, F 6), .inl (0, 8, F 7), .inl (0, 6, F 8), .inl (0, 8, F 9)]
def bkP (L : sH) (b : Nat) : List Nat := [b, s_rf L b 7, s_rf L b 8, s_rf L b 9, s_rf L b 10, s_rf L b 11, s_rf L b 12, s_rf L b 13, s_rf L b 14, s_rf L b 16]
def bkfp (vs : sS) (L : sH) : List Nat := match vs with
  | .ref b :: _ => bkP L b
  | _ => []
def p_hb (x i : Int32) : Int32 := if (x >>> (i &&& 31)) &&& 1 = 0 then 0 else 1
def c_X5_hasBit : sCtr := ((yX5_hasBit, cX5_hasBit, 2, (some .boolean)), (0, 2, 0, 0), true,
  fun _ _ => [],
  fun vs _ => ∃ x i : Int32, vs = [.int x, .int i],
  fun vs _ r _ => r = some (.int (p_hb (vI vs 0) (vI vs 1))))
theorem sta_X5_hasBit : s_Sta c_X5_hasBit := ⟨⟨by decide +kernel, by decide +kernel, by decide +kernel⟩, List.mem_of_getElem? (i := 447) (by decide +kernel), List.mem_of_getElem? (i := 64) (by decide +kernel), List.mem_of_getElem? (i := 446) (by decide +kernel)⟩

def k_X5_hasBit : List sBk := [
  (0, false, [true, true], [o0 0 (.iload_n 0), o0 1 (.iload_n 1), o0 2 .ishr, oK 3 (.iconst 1) (.int 1), o0 4 .iand, oN 5 (.ifCond .eq 7) [1], oK 8 (.iconst 1) (.int 1), oN 9 (.goto 4) [2]]),
  (12, false, [false, false], [oK 12 (.iconst 0) (.int 0), oN 13 .nop [2]]),
  (13, false, [false, false], [o0 13 .ireturn])]
set_option maxRecDepth 100000 in
theorem ck_X5_hasBit : s_ck RX5 cX5_hasBit 2 0 0 k_X5_hasBit = true := by decide +kernel

set_option maxRecDepth 100000 in
set_option maxHeartbeats 1000000 in
theorem ok_X5_hasBit : s_Ok c_X5_hasBit := by
  refine s_ok_of k_X5_hasBit (by decide +kernel) sta_X5_hasBit ck_X5_hasBit trivial ?_
  rintro vs L ⟨x, i, rfl⟩
  refine ⟨rfl, fun G hG => ?_⟩
  refine hG 0 _ _ _ ?_
  refine And.intro (fun h => ?_) (fun h => ?_)
  · refine And.intro (Or.inl rfl) ⟨rfl, ?_, fun _ => rfl⟩
    show _ = some (Value.int (p_hb x i))
    rw [p_hb, if_pos h]
  · refine And.intro (Or.inr rfl) ⟨rfl, ?_, fun _ => rfl⟩
    show _ = some (Value.int (p_hb x i))
    rw [p_hb, if_neg h]
def c_X5_bitOf : sCtr := ((yX5_bitOf, cX5_bitOf, 2, (some .int)), (0, 2, 0, 0), true,
  fun _ _ => [],
  fun vs _ => ∃ x i : Int32, vs = [.int x, .int i],
  fun vs _ r _ => r = some (.int ((vI vs 0 >>> (vI vs 1 &&& 31)) &&& 1)))
theorem sta_X5_bitOf : s_Sta c_X5_bitOf := ⟨⟨by decide +kernel, by decide +kernel, by decide +kernel⟩, List.mem_of_getElem? (i := 516) (by decide +kernel), List.mem_of_getElem? (i := 64) (by decide +kernel), List.mem_of_getElem? (i := 515) (by decide +kernel)⟩

def k_X5_bitOf : List sBk := [
  (0, false, [true, true], [o0 0 (.iload_n 0), o0 1 (.iload_n 1), o0 2 .ishr, oK 3 (.iconst 1) (.int 1), o0 4 .iand, o0 5 .ireturn])]
set_option maxRecDepth 100000 in
theorem ck_X5_bitOf : s_ck RX5 cX5_bitOf 2 0 0 k_X5_bitOf = true := by decide +kernel

set_option maxRecDepth 100000 in
set_option maxHeartbeats 1000000 in
theorem ok_X5_bitOf : s_Ok c_X5_bitOf := by
  refine s_ok_of k_X5_bitOf (by decide +kernel) sta_X5_bitOf ck_X5_bitOf trivial ?_
  rintro vs L ⟨x, i, rfl⟩
  refine ⟨rfl, fun G hG => ?_⟩
  exact hG 0 _ _ _ ⟨rfl, rfl, fun _ => rfl⟩
/-- a bit set or taken away -/
def p_wb (x i z : Int32) : Int32 := if z = 0 then x &&& (((1 : Int32) <<< (i &&& 31)) ^^^ (-1)) else x ||| ((1 : Int32) <<< (i &&& 31))
def c_X5_withBit : sCtr := ((yX5_withBit, cX5_withBit, 3, (some .int)), (0, 3, 0, 0), true,
  fun _ _ => [],
  fun vs _ => ∃ x i z : Int32, vs = [.int x, .int i, .int z],
  fun vs _ r _ => r = some (.int (p_wb (vI vs 0) (vI vs 1) (vI vs 2))))
theorem sta_X5_withBit : s_Sta c_X5_withBit := ⟨⟨by decide +kernel, by decide +kernel, by decide +kernel⟩, List.mem_of_getElem? (i := 427) (by decide +kernel), List.mem_of_getElem? (i := 64) (by decide +kernel), List.mem_of_getElem? (i := 426) (by decide +kernel)⟩

def k_X5_withBit : List sBk := [
  (0, false, [true, true, true], [o0 0 (.iload_n 2), oN 1 (.ifCond .eq 11) [1], o0 4 (.iload_n 0), oK 5 (.iconst 1) (.int 1), o0 6 (.iload_n 1), o0 7 .ishl, o0 8 .ior, oN 9 (.goto 10) [2]]),
  (12, false, [true, true, false], [o0 12 (.iload_n 0), oK 13 (.iconst 1) (.int 1), o0 14 (.iload_n 1), o0 15 .ishl, oK 16 (.iconst (-1)) (.int (-1)), o0 17 .ixor, o0 18 .iand, oN 19 .nop [2]]),
  (19, false, [false, false, false], [o0 19 .ireturn])]
set_option maxRecDepth 100000 in
theorem ck_X5_withBit : s_ck RX5 cX5_withBit 3 0 0 k_X5_withBit = true := by decide +kernel

set_option maxRecDepth 100000 in
set_option maxHeartbeats 1000000 in
theorem ok_X5_withBit : s_Ok c_X5_withBit := by
  refine s_ok_of k_X5_withBit (by decide +kernel) sta_X5_withBit ck_X5_withBit trivial ?_
  rintro vs L ⟨x, i, z, rfl⟩
  refine ⟨rfl, fun G hG => ?_⟩
  refine hG 0 _ _ _ (And.intro (fun h => ?_) (fun h => ?_))
  · refine ⟨rfl, ?_, fun _ => rfl⟩
    show _ = some (Value.int (p_wb x i z))
    rw [p_wb, if_pos h]
  · refine ⟨rfl, ?_, fun _ => rfl⟩
    show _ = some (Value.int (p_wb x i z))
    rw [p_wb, if_neg h]
/-- the union of row's places whose bits stand in g, below n -/
def p_ga (f : Nat → Int32) : Nat → Int32 → Int32
  | 0, _ => 0
  | n + 1, g => if p_hb g (nI n) = 0 then p_ga f n g else p_ga f n g ||| f n
def c_X0_gather : sCtr := ((yX0_gather, cX0_gather, 5, (some .int)), (1, 2, 1, 21), true,
  fun vs _ => match vs with
    | .ref b :: .ref r :: _ => [b, r]
    | _ => [],
  fun vs L => ∃ (v0 : Value) (y : Int32) (w : Nat) (rest : List Value) (n : Nat) (f : Nat → Int32) (g : Int32), vs = [.ref 0, .ref 1, .int g] ∧ L = [.inr (.inr (0, v0 :: .int y :: rest)), .inl (0, n, f)] ∧ y = nI w ∧ w ≤ n ∧ n ≤ 8,
  fun vs L r _ => r = some (.int (p_ga (bF L 1) (bS L 1).toNatClampNeg (vI vs 2))))
theorem sta_X0_gather : s_Sta c_X0_gather := ⟨⟨by decide +kernel, by decide +kernel, by decide +kernel⟩, List.mem_of_getElem? (i := 484) (by decide +kernel), List.mem_of_getElem? (i := 67) (by decide +kernel), ⟨List.mem_of_getElem? (i := 483) (by decide +kernel), List.mem_of_getElem? (i := 15) (by decide +kernel), Or.inl ⟨_, rfl, rfl⟩⟩⟩

def k_X0_gather : List sBk := [
  (0, false, [true, true, true, false, false], [oK 0 (.iconst 0) (.int 0), o0 1 (.istore_n 3), oK 2 (.iconst 0) (.int 0), o0 3 (.istore 4), oN 5 .nop [1]]),
  (5, true, [true, true, true, true, true], [o0 5 (.iload 4), o0 7 (.aload_n 0), oN 8 (.getfield 43) [0, 1, 119], oN 11 (.if_icmp .ge 25) [3], o0 14 (.iload_n 2), o0 15 (.iload 4), oC 17 (.invokestatic 88) [0, 0] c_X5_hasBit, oN 20 (.ifCond .eq 10) [2], o0 23 (.iload_n 3), o0 24 (.aload_n 1), o0 25 (.iload 4), o0 27 .iaload, o0 28 .ior, o0 29 (.istore_n 3), oN 30 .nop [2]]),
  (30, false, [true, true, true, true, true], [oK 30 (.iinc 4 1) (.int 1), oN 33 (.goto (-28)) [1]]),
  (36, false, [false, false, false, true, false], [o0 36 (.iload_n 3), o0 37 .ireturn])]
set_option maxRecDepth 100000 in
theorem ck_X0_gather : s_ck RX0 cX0_gather 5 1 21 k_X0_gather = true := by decide +kernel

set_option maxRecDepth 100000 in
set_option maxHeartbeats 1000000 in
theorem ok_X0_gather : s_Ok c_X0_gather := by
  refine s_ok_of k_X0_gather (by decide +kernel) sta_X0_gather ck_X0_gather (And.intro ok_X5_hasBit trivial) ?_
  rintro vs L ⟨v0, y, w, rest, n, f, g, rfl, rfl, hy, hw, hn⟩
  refine ⟨rfl, fun G hG => ?_⟩
  have loop : ∀ (k i : Nat) (x a : Int32), i + k = w → x = nI i → a = p_ga f i g → G 1 [some (.ref 0), some (.ref 1), some (.int g), some (.int a), some (.int x)] [] [.inr (.inr (0, v0 :: .int y :: rest)), .inl (0, n, f)] := by
    intro k
    induction k with
    | zero =>
      intro i x a hi hx ha
      refine hG 1 _ _ _ (And.intro (fun h => ?_) (fun h => ?_))
      · rw [hx, hy, nI_ltI (by omega) (by omega)] at h; omega
      · refine ⟨rfl, ?_, fun _ => rfl⟩
        show some (Value.int a) = some (Value.int (p_ga f y.toNatClampNeg g))
        rw [ha, hy, nI_clamp (by omega), show i = w by omega]
    | succ k ih =>
      intro i x a hi hx ha
      refine hG 1 _ _ _ (And.intro (fun h => ?_) (fun h => ?_))
      · refine And.intro ⟨g, x, rfl⟩ ?_
        intro r hr
        obtain rfl : r = some (.int (p_hb g x)) := hr
        refine And.intro (fun h2 => ?_) (fun h2 => ?_)
        · exact ih (i + 1) _ _ (by omega) (by rw [hx, nI_1]) (by rw [p_ga, ← hx, if_pos h2, ha])
        · refine And.intro (by rw [hx]; exact vp_in_nI (by omega) (by omega)) ?_
          exact ih (i + 1) _ _ (by omega) (by rw [hx, nI_1]) (by rw [p_ga, ← hx, if_neg h2, ha, hx, nI_clamp (by omega)])
      · rw [hx, hy, nI_ltI (by omega) (by omega)] at h; omega
  exact hG 0 _ _ _ (loop w 0 _ _ (by omega) nI_0.symm rfl)
def c_X0_hasOne : sCtr := ((yX0_hasOne, cX0_hasOne, 2, (some .boolean)), (1, 1, 0, 0), true,
  fun vs _ => match vs with
    | .ref b :: _ => [b]
    | _ => [],
  fun vs L => ∃ (y p : Int32) (rest : List Value), vs = [.ref 0, .int p] ∧ L = [.inr (.inr (0, .int y :: rest))],
  fun vs L r _ => r = some (.int (if vI vs 1 < 0 then 0 else if vI vs 1 < bS L 0 then 1 else 0)))
theorem sta_X0_hasOne : s_Sta c_X0_hasOne := ⟨⟨by decide +kernel, by decide +kernel, by decide +kernel⟩, List.mem_of_getElem? (i := 513) (by decide +kernel), List.mem_of_getElem? (i := 67) (by decide +kernel), ⟨List.mem_of_getElem? (i := 511) (by decide +kernel), List.mem_of_getElem? (i := 512) (by decide +kernel), Or.inl ⟨_, rfl, rfl⟩⟩⟩

def k_X0_hasOne : List sBk := [
  (0, false, [true, true], [o0 0 (.iload_n 1), oN 1 (.ifCond .lt 15) [1], o0 4 (.iload_n 1), o0 5 (.aload_n 0), oN 6 (.getfield 39) [0, 0, 115], oN 9 (.if_icmp .ge 7) [1], oK 12 (.iconst 1) (.int 1), oN 13 (.goto 4) [2]]),
  (16, false, [false, false], [oK 16 (.iconst 0) (.int 0), oN 17 .nop [2]]),
  (17, false, [false, false], [o0 17 .ireturn])]
set_option maxRecDepth 100000 in
theorem ck_X0_hasOne : s_ck RX0 cX0_hasOne 2 0 0 k_X0_hasOne = true := by decide +kernel

set_option maxRecDepth 100000 in
set_option maxHeartbeats 1000000 in
theorem ok_X0_hasOne : s_Ok c_X0_hasOne := by
  refine s_ok_of k_X0_hasOne (by decide +kernel) sta_X0_hasOne ck_X0_hasOne trivial ?_
  rintro vs L ⟨y, p, rest, rfl, rfl⟩
  refine ⟨rfl, fun G hG => ?_⟩
  refine hG 0 _ _ _ (And.intro (fun h => ?_) (fun h => ?_))
  · refine And.intro (Or.inl rfl) ⟨rfl, ?_, fun _ => rfl⟩
    show some (Value.int 0) = some (Value.int (if p < 0 then 0 else if p < y then 1 else 0))
    rw [if_pos h]
  · refine And.intro (fun h2 => ?_) (fun h2 => ?_)
    · refine And.intro (Or.inr rfl) ⟨rfl, ?_, fun _ => rfl⟩
      show some (Value.int 1) = some (Value.int (if p < 0 then 0 else if p < y then 1 else 0))
      rw [if_neg h, if_pos h2]
    · refine And.intro (Or.inl rfl) ⟨rfl, ?_, fun _ => rfl⟩
      show some (Value.int 0) = some (Value.int (if p < 0 then 0 else if p < y then 1 else 0))
      rw [if_neg h, if_neg h2]
def c_X0_hasWish : sCtr := ((yX0_hasWish, cX0_hasWish, 2, (some .boolean)), (1, 1, 0, 0), true,
  fun vs _ => match vs with
    | .ref b :: _ => [b]
    | _ => [],
  fun vs L => ∃ (v0 : Value) (y p : Int32) (rest : List Value), vs = [.ref 0, .int p] ∧ L = [.inr (.inr (0, v0 :: .int y :: rest))],
  fun vs L r _ => r = some (.int (if vI vs 1 < 0 then 0 else if vI vs 1 < bS L 1 then 1 else 0)))
theorem sta_X0_hasWish : s_Sta c_X0_hasWish := ⟨⟨by decide +kernel, by decide +kernel, by decide +kernel⟩, List.mem_of_getElem? (i := 501) (by decide +kernel), List.mem_of_getElem? (i := 67) (by decide +kernel), ⟨List.mem_of_getElem? (i := 499) (by decide +kernel), List.mem_of_getElem? (i := 500) (by decide +kernel), Or.inl ⟨_, rfl, rfl⟩⟩⟩

def k_X0_hasWish : List sBk := [
  (0, false, [true, true], [o0 0 (.iload_n 1), oN 1 (.ifCond .lt 15) [1], o0 4 (.iload_n 1), o0 5 (.aload_n 0), oN 6 (.getfield 43) [0, 1, 119], oN 9 (.if_icmp .ge 7) [1], oK 12 (.iconst 1) (.int 1), oN 13 (.goto 4) [2]]),
  (16, false, [false, false], [oK 16 (.iconst 0) (.int 0), oN 17 .nop [2]]),
  (17, false, [false, false], [o0 17 .ireturn])]
set_option maxRecDepth 100000 in
theorem ck_X0_hasWish : s_ck RX0 cX0_hasWish 2 0 0 k_X0_hasWish = true := by decide +kernel

set_option maxRecDepth 100000 in
set_option maxHeartbeats 1000000 in
theorem ok_X0_hasWish : s_Ok c_X0_hasWish := by
  refine s_ok_of k_X0_hasWish (by decide +kernel) sta_X0_hasWish ck_X0_hasWish trivial ?_
  rintro vs L ⟨v0, y, p, rest, rfl, rfl⟩
  refine ⟨rfl, fun G hG => ?_⟩
  refine hG 0 _ _ _ (And.intro (fun h => ?_) (fun h => ?_))
  · refine And.intro (Or.inl rfl) ⟨rfl, ?_, fun _ => rfl⟩
    show some (Value.int 0) = some (Value.int (if p < 0 then 0 else if p < y then 1 else 0))
    rw [if_pos h]
  · refine And.intro (fun h2 => ?_) (fun h2 => ?_)
    · refine And.intro (Or.inr rfl) ⟨rfl, ?_, fun _ => rfl⟩
      show some (Value.int 1) = some (Value.int (if p < 0 then 0 else if p < y then 1 else 0))
      rw [if_neg h, if_pos h2]
    · refine And.intro (Or.inl rfl) ⟨rfl, ?_, fun _ => rfl⟩
      show some (Value.int 0) = some (Value.int (if p < 0 then 0 else if p < y then 1 else 0))
      rw [if_neg h, if_neg h2]
end
section
/-! ===== Book: what is looked at, refused, rests, goes round ===== -/
def p_st (nd : Nat → Int32) (n : Nat) (h g : Int32) : Int32 := g ||| (p_ga nd n g &&& (h ^^^ (-1)))
def p_it (nd : Nat → Int32) (n : Nat) (h g : Int32) : Nat → Int32
  | 0 => g
  | k + 1 => p_st nd n h (p_it nd n h g k)
theorem p_it_fix {nd : Nat → Int32} {n : Nat} {h g : Int32} {i : Nat} (hf : p_st nd n h (p_it nd n h g i) = p_it nd n h g i) : ∀ d, p_it nd n h g (i + d) = p_it nd n h g i
  | 0 => rfl
  | d + 1 => by
    show p_st nd n h (p_it nd n h g (i + d)) = _
    rw [p_it_fix hf d, hf]
def c_X0_lookedAt : sCtr := ((yX0_lookedAt, cX0_lookedAt, 7, (some .int)), (1, 3, 2, 45), true,
  bkfp,
  fun vs L => ∃ (s : Nat → Int32) (F : Nat → Nat → Int32) (w h e : Int32) (n d : Nat), vs = [.ref 0, .int w, .int h, .int e] ∧ L = bkW s F ∧ s 1 = nI n ∧ n ≤ 8 ∧ e = nI d ∧ d ≤ 8,
  fun vs L r _ => r = some (.int (p_it (bF L 4) (bS L 1).toNatClampNeg (vI vs 2) ((1 : Int32) <<< (vI vs 1 &&& 31)) (vI vs 3).toNatClampNeg)))
theorem sta_X0_lookedAt : s_Sta c_X0_lookedAt := ⟨⟨by decide +kernel, by decide +kernel, by decide +kernel⟩, List.mem_of_getElem? (i := 480) (by decide +kernel), List.mem_of_getElem? (i := 67) (by decide +kernel), ⟨List.mem_of_getElem? (i := 478) (by decide +kernel), List.mem_of_getElem? (i := 479) (by decide +kernel), Or.inl ⟨_, rfl, rfl⟩⟩⟩

def k_X0_lookedAt : List sBk := [
  (0, false, [true, true, true, true, false, false, false], [oK 0 (.iconst 1) (.int 1), o0 1 (.iload_n 1), o0 2 .ishl, o0 3 (.istore 4), oK 5 (.iconst 0) (.int 0), o0 6 (.istore 5), oN 8 .nop [1]]),
  (8, true, [true, false, true, true, true, true, false], [o0 8 (.iload 5), o0 10 (.iload_n 3), oN 11 (.if_icmp .ge 42) [3], o0 14 (.iload 4), o0 16 (.aload_n 0), o0 17 (.aload_n 0), oN 18 (.getfield 21) [0, 10, 148], o0 21 (.iload 4), oC 23 (.invokevirtual 84) [481] c_X0_gather, o0 26 (.iload_n 2), oK 27 (.iconst (-1)) (.int (-1)), o0 28 .ixor, o0 29 .iand, o0 30 .ior, o0 31 (.istore 6), o0 33 (.iload 6), o0 35 (.iload 4), oN 37 (.if_icmp .ne 6) [2], oN 40 (.goto 13) [3]]),
  (43, false, [true, false, true, true, false, true, true], [o0 43 (.iload 6), o0 45 (.istore 4), oK 47 (.iinc 5 1) (.int 1), oN 50 (.goto (-42)) [1]]),
  (53, false, [false, false, false, false, true, false, false], [o0 53 (.iload 4), o0 55 .ireturn])]
set_option maxRecDepth 100000 in
theorem ck_X0_lookedAt : s_ck RX0 cX0_lookedAt 7 2 45 k_X0_lookedAt = true := by decide +kernel

set_option maxRecDepth 100000 in
set_option maxHeartbeats 1000000 in
theorem ok_X0_lookedAt : s_Ok c_X0_lookedAt := by
  refine s_ok_of k_X0_lookedAt (by decide +kernel) sta_X0_lookedAt ck_X0_lookedAt (And.intro ok_X0_gather trivial) ?_
  rintro vs L ⟨s, F, w, h, e, n, d, rfl, rfl, hn, hn8, he, hd⟩
  refine ⟨rfl, fun G hG => ?_⟩
  have fin : ∀ a : Int32, a = p_it (F 4) n h ((1 : Int32) <<< (w &&& 31)) d → s_PP (some .int) true c_X0_lookedAt.2.2.2.2.2 [.ref 0, .int w, .int h, .int e] (bkW s F) (some (.int a)) (bkW s F) := by
    intro a ha
    refine ⟨rfl, ?_, fun _ => rfl⟩
    show some (Value.int a) = some (Value.int (p_it (F 4) (s 1).toNatClampNeg h ((1 : Int32) <<< (w &&& 31)) e.toNatClampNeg))
    rw [hn, he, nI_clamp (by omega), nI_clamp (by omega), ha]
  have loop : ∀ (k i : Nat) (x a : Int32), i + k = d → x = nI i → a = p_it (F 4) n h ((1 : Int32) <<< (w &&& 31)) i → G 1 [some (.ref 0), none, some (.int h), some (.int e), some (.int a), some (.int x), none] [] (bkW s F) := by
    intro k
    induction k with
    | zero =>
      intro i x a hi hx ha
      refine hG 1 _ _ _ (And.intro (fun h2 => ?_) (fun h2 => ?_))
      · rw [hx, he, nI_ltI (by omega) (by omega)] at h2; omega
      · exact fin a (by rw [ha, show i = d by omega])
    | succ k ih =>
      intro i x a hi hx ha
      refine hG 1 _ _ _ (And.intro (fun h2 => ?_) (fun h2 => ?_))
      · refine And.intro ⟨_, _, n, _, _, _, _, rfl, rfl, hn, hn8, Nat.le_refl _⟩ ?_
        intro r hr
        obtain rfl : r = some (.int (p_ga (F 4) (s 1).toNatClampNeg a)) := hr
        have e1 : a ||| (p_ga (F 4) (s 1).toNatClampNeg a &&& (h ^^^ (-1))) = p_it (F 4) n h ((1 : Int32) <<< (w &&& 31)) (i + 1) := by
          rw [hn, nI_clamp (by omega), ha]; rfl
        refine And.intro (fun h3 => ?_) (fun h3 => ?_)
        · refine fin a ?_
          have h4 : p_st (F 4) n h (p_it (F 4) n h ((1 : Int32) <<< (w &&& 31)) i) = p_it (F 4) n h ((1 : Int32) <<< (w &&& 31)) i := by
            rw [← ha]
            have h5 : a ||| (p_ga (F 4) (s 1).toNatClampNeg a &&& (h ^^^ (-1))) = a := h3
            rw [hn, nI_clamp (by omega)] at h5
            exact h5
          rw [ha, show d = i + (k + 1) by omega, p_it_fix h4]
        · exact ih (i + 1) _ _ (by omega) (by rw [hx, nI_1]) e1
      · rw [hx, he, nI_ltI (by omega) (by omega)] at h2; omega
  exact hG 0 _ _ _ (loop d 0 _ _ (by omega) nI_0.symm rfl)
/-- why the clerk refuses -/
def p_re (on nd cl : Nat → Int32) (n : Nat) (listed barred w held alive : Int32) (d : Nat) : Int32 :=
  if p_hb listed w = 0 then
    if p_ga on n (p_it nd n held ((1 : Int32) <<< (w &&& 31)) d) &&& barred &&& (alive ^^^ (-1)) = 0 then
      if p_ga cl n (p_it nd n held ((1 : Int32) <<< (w &&& 31)) d) &&& (p_it nd n held ((1 : Int32) <<< (w &&& 31)) d ||| held) = 0 then 0 else 3
    else 2
  else 1
def c_X0_refusal : sCtr := ((yX0_refusal, cX0_refusal, 6, (some .int)), (1, 4, 3, 71), true,
  bkfp,
  fun vs L => ∃ (s : Nat → Int32) (F : Nat → Nat → Int32) (w h a e : Int32) (n d : Nat), vs = [.ref 0, .int w, .int h, .int a, .int e] ∧ L = bkW s F ∧ s 1 = nI n ∧ n ≤ 8 ∧ e = nI d ∧ d ≤ 8,
  fun vs L r _ => r = some (.int (p_re (bF L 3) (bF L 4) (bF L 5) (bS L 1).toNatClampNeg (bS L 6) (bS L 4) (vI vs 1) (vI vs 2) (vI vs 3) (vI vs 4).toNatClampNeg)))
theorem sta_X0_refusal : s_Sta c_X0_refusal := ⟨⟨by decide +kernel, by decide +kernel, by decide +kernel⟩, List.mem_of_getElem? (i := 568) (by decide +kernel), List.mem_of_getElem? (i := 67) (by decide +kernel), ⟨List.mem_of_getElem? (i := 566) (by decide +kernel), List.mem_of_getElem? (i := 567) (by decide +kernel), Or.inl ⟨_, rfl, rfl⟩⟩⟩

def k_X0_refusal : List sBk := [
  (0, false, [true, true, true, true, true, false], [o0 0 (.aload_n 0), oN 1 (.getfield 62) [0, 6, 135], o0 4 (.iload_n 1), oC 5 (.invokestatic 88) [0, 0] c_X5_hasBit, oN 8 (.ifCond .eq 5) [1], oK 11 (.iconst 1) (.int 1), o0 12 .ireturn]),
  (13, false, [true, true, true, true, true, false], [o0 13 (.aload_n 0), o0 14 (.iload_n 1), o0 15 (.iload_n 2), o0 16 (.iload 4), oC 18 (.invokevirtual 80) [477] c_X0_lookedAt, o0 21 (.istore 5), o0 23 (.aload_n 0), o0 24 (.aload_n 0), oN 25 (.getfield 18) [0, 9, 145], o0 28 (.iload 5), oC 30 (.invokevirtual 84) [481] c_X0_gather, o0 33 (.aload_n 0), oN 34 (.getfield 56) [0, 4, 129], o0 37 .iand, o0 38 (.iload_n 3), oK 39 (.iconst (-1)) (.int (-1)), o0 40 .ixor, o0 41 .iand, oN 42 (.ifCond .eq 5) [2], oK 45 (.iconst 2) (.int 2), o0 46 .ireturn]),
  (47, false, [true, false, true, false, false, true], [o0 47 (.aload_n 0), o0 48 (.aload_n 0), oN 49 (.getfield 24) [0, 11, 151], o0 52 (.iload 5), oC 54 (.invokevirtual 84) [481] c_X0_gather, o0 57 (.iload 5), o0 59 (.iload_n 2), o0 60 .ior, o0 61 .iand, oN 62 (.ifCond .eq 7) [3], oK 65 (.iconst 3) (.int 3), oN 66 (.goto 4) [4]]),
  (69, false, [false, false, false, false, false, false], [oK 69 (.iconst 0) (.int 0), oN 70 .nop [4]]),
  (70, false, [false, false, false, false, false, false], [o0 70 .ireturn])]
set_option maxRecDepth 100000 in
theorem ck_X0_refusal : s_ck RX0 cX0_refusal 6 3 71 k_X0_refusal = true := by decide +kernel

set_option maxRecDepth 100000 in
set_option maxHeartbeats 1000000 in
theorem ok_X0_refusal : s_Ok c_X0_refusal := by
  refine s_ok_of k_X0_refusal (by decide +kernel) sta_X0_refusal ck_X0_refusal (And.intro ok_X5_hasBit (And.intro ok_X0_lookedAt (And.intro ok_X0_gather (And.intro ok_X0_gather trivial)))) ?_
  rintro vs L ⟨s, F, w, h, a, e, n, d, rfl, rfl, hn, hn8, he, hd⟩
  refine ⟨rfl, fun G hG => ?_⟩
  have fin : ∀ a2 : Int32, a2 = p_re (F 3) (F 4) (F 5) n (s 6) (s 4) w h a d → s_PP (some .int) true c_X0_refusal.2.2.2.2.2 [.ref 0, .int w, .int h, .int a, .int e] (bkW s F) (some (.int a2)) (bkW s F) := by
    intro a2 ha
    refine ⟨rfl, ?_, fun _ => rfl⟩
    show some (Value.int a2) = some (Value.int (p_re (F 3) (F 4) (F 5) (s 1).toNatClampNeg (s 6) (s 4) w h a e.toNatClampNeg))
    rw [hn, he, nI_clamp (by omega), nI_clamp (by omega), ha]
  refine hG 0 _ _ _ (And.intro ⟨s 6, w, rfl⟩ ?_)
  intro r hr
  obtain rfl : r = some (.int (p_hb (s 6) w)) := hr
  refine And.intro (fun h1 => ?_) (fun h1 => ?_)
  · refine And.intro ⟨s, F, w, h, e, n, d, rfl, rfl, hn, hn8, he, hd⟩ ?_
    intro r hr
    obtain ⟨g, hg⟩ : ∃ g, g = p_it (F 4) (s 1).toNatClampNeg h ((1 : Int32) <<< (w &&& 31)) e.toNatClampNeg := ⟨_, rfl⟩
    obtain rfl : r = some (.int g) := by rw [hg]; exact hr
    rw [hn, he, nI_clamp (by omega), nI_clamp (by omega)] at hg
    refine And.intro ⟨_, _, n, _, _, _, _, rfl, rfl, hn, hn8, Nat.le_refl _⟩ ?_
    intro r hr
    obtain rfl : r = some (.int (p_ga (F 3) (s 1).toNatClampNeg g)) := hr
    refine And.intro (fun h2 => ?_) (fun h2 => ?_)
    · refine And.intro ⟨_, _, n, _, _, _, _, rfl, rfl, hn, hn8, Nat.le_refl _⟩ ?_
      intro r hr
      obtain rfl : r = some (.int (p_ga (F 5) (s 1).toNatClampNeg g)) := hr
      have h2 : p_ga (F 3) (s 1).toNatClampNeg g &&& s 4 &&& (a ^^^ (-1)) = 0 := h2
      rw [hn, nI_clamp (by omega)] at h2
      refine And.intro (fun h3 => ?_) (fun h3 => ?_)
      · refine fin _ ?_
        have h3 : p_ga (F 5) (s 1).toNatClampNeg g &&& (g ||| h) = 0 := h3
        rw [hn, nI_clamp (by omega)] at h3
        rw [p_re, if_pos h1, ← hg, if_pos h2, if_pos h3]
      · refine fin _ ?_
        have h3 : ¬ p_ga (F 5) (s 1).toNatClampNeg g &&& (g ||| h) = 0 := h3
        rw [hn, nI_clamp (by omega)] at h3
        rw [p_re, if_pos h1, ← hg, if_pos h2, if_neg h3]
    · refine fin _ ?_
      have h2 : ¬ p_ga (F 3) (s 1).toNatClampNeg g &&& s 4 &&& (a ^^^ (-1)) = 0 := h2
      rw [hn, nI_clamp (by omega)] at h2
      rw [p_re, if_pos h1, ← hg, if_neg h2]
  · refine fin _ ?_
    rw [p_re, if_neg h1]
def c_X0_haveClash : sCtr := ((yX0_haveClash, cX0_haveClash, 2, (some .boolean)), (1, 1, 2, 45), true,
  bkfp,
  fun vs L => ∃ (s : Nat → Int32) (F : Nat → Nat → Int32) (g : Int32) (n : Nat), vs = [.ref 0, .int g] ∧ L = bkW s F ∧ s 1 = nI n ∧ n ≤ 8,
  fun vs L r _ => r = some (.int (if p_ga (bF L 5) (bS L 1).toNatClampNeg (vI vs 1) &&& vI vs 1 = 0 then 0 else 1)))
theorem sta_X0_haveClash : s_Sta c_X0_haveClash := ⟨⟨by decide +kernel, by decide +kernel, by decide +kernel⟩, List.mem_of_getElem? (i := 689) (by decide +kernel), List.mem_of_getElem? (i := 67) (by decide +kernel), ⟨List.mem_of_getElem? (i := 687) (by decide +kernel), List.mem_of_getElem? (i := 688) (by decide +kernel), Or.inl ⟨_, rfl, rfl⟩⟩⟩

def k_X0_haveClash : List sBk := [
  (0, false, [true, true], [o0 0 (.aload_n 0), o0 1 (.aload_n 0), oN 2 (.getfield 24) [0, 11, 151], o0 5 (.iload_n 1), oC 6 (.invokevirtual 84) [481] c_X0_gather, o0 9 (.iload_n 1), o0 10 .iand, oN 11 (.ifCond .eq 7) [1], oK 14 (.iconst 1) (.int 1), oN 15 (.goto 4) [2]]),
  (18, false, [false, false], [oK 18 (.iconst 0) (.int 0), oN 19 .nop [2]]),
  (19, false, [false, false], [o0 19 .ireturn])]
set_option maxRecDepth 100000 in
theorem ck_X0_haveClash : s_ck RX0 cX0_haveClash 2 2 45 k_X0_haveClash = true := by decide +kernel

set_option maxRecDepth 100000 in
set_option maxHeartbeats 1000000 in
theorem ok_X0_haveClash : s_Ok c_X0_haveClash := by
  refine s_ok_of k_X0_haveClash (by decide +kernel) sta_X0_haveClash ck_X0_haveClash (And.intro ok_X0_gather trivial) ?_
  rintro vs L ⟨s, F, g, n, rfl, rfl, hn, hn8⟩
  refine ⟨rfl, fun G hG => ?_⟩
  refine hG 0 _ _ _ (And.intro ⟨_, _, n, _, _, _, _, rfl, rfl, hn, hn8, Nat.le_refl _⟩ ?_)
  intro r hr
  obtain rfl : r = some (.int (p_ga (F 5) (s 1).toNatClampNeg g)) := hr
  refine And.intro (fun h => ?_) (fun h => ?_)
  · refine And.intro (Or.inl rfl) ⟨rfl, ?_, fun _ => rfl⟩
    show some (Value.int 0) = some (Value.int (if p_ga (F 5) (s 1).toNatClampNeg g &&& g = 0 then 0 else 1))
    rw [if_pos h]
  · refine And.intro (Or.inr rfl) ⟨rfl, ?_, fun _ => rfl⟩
    show some (Value.int 1) = some (Value.int (if p_ga (F 5) (s 1).toNatClampNeg g &&& g = 0 then 0 else 1))
    rw [if_neg h]
def c_X0_followersOf : sCtr := ((yX0_followersOf, cX0_followersOf, 2, (some .int)), (1, 1, 2, 45), true,
  bkfp,
  fun vs L => ∃ (s : Nat → Int32) (F : Nat → Nat → Int32) (g : Int32) (n : Nat), vs = [.ref 0, .int g] ∧ L = bkW s F ∧ s 1 = nI n ∧ n ≤ 8,
  fun vs L r _ => r = some (.int (p_ga (bF L 6) (bS L 1).toNatClampNeg (vI vs 1))))
theorem sta_X0_followersOf : s_Sta c_X0_followersOf := ⟨⟨by decide +kernel, by decide +kernel, by decide +kernel⟩, List.mem_of_getElem? (i := 685) (by decide +kernel), List.mem_of_getElem? (i := 67) (by decide +kernel), ⟨List.mem_of_getElem? (i := 683) (by decide +kernel), List.mem_of_getElem? (i := 684) (by decide +kernel), Or.inl ⟨_, rfl, rfl⟩⟩⟩

def k_X0_followersOf : List sBk := [
  (0, false, [true, true], [o0 0 (.aload_n 0), o0 1 (.aload_n 0), oN 2 (.getfield 27) [0, 12, 154], o0 5 (.iload_n 1), oC 6 (.invokevirtual 84) [481] c_X0_gather, o0 9 .ireturn])]
set_option maxRecDepth 100000 in
theorem ck_X0_followersOf : s_ck RX0 cX0_followersOf 2 2 45 k_X0_followersOf = true := by decide +kernel

set_option maxRecDepth 100000 in
set_option maxHeartbeats 1000000 in
theorem ok_X0_followersOf : s_Ok c_X0_followersOf := by
  refine s_ok_of k_X0_followersOf (by decide +kernel) sta_X0_followersOf ck_X0_followersOf (And.intro ok_X0_gather trivial) ?_
  rintro vs L ⟨s, F, g, n, rfl, rfl, hn, hn8⟩
  refine ⟨rfl, fun G hG => ?_⟩
  refine hG 0 _ _ _ (And.intro ⟨_, _, n, _, _, _, _, rfl, rfl, hn, hn8, Nat.le_refl _⟩ ?_)
  intro r hr
  obtain rfl : r = some (.int (p_ga (F 6) (s 1).toNatClampNeg g)) := hr
  exact ⟨rfl, rfl, fun _ => rfl⟩
def c_X0_wantedBy : sCtr := ((yX0_wantedBy, cX0_wantedBy, 2, (some .int)), (1, 1, 2, 45), true,
  bkfp,
  fun vs L => ∃ (s : Nat → Int32) (F : Nat → Nat → Int32) (g : Int32) (n : Nat), vs = [.ref 0, .int g] ∧ L = bkW s F ∧ s 1 = nI n ∧ n ≤ 8,
  fun vs L r _ => r = some (.int (p_ga (bF L 7) (bS L 1).toNatClampNeg (vI vs 1))))
theorem sta_X0_wantedBy : s_Sta c_X0_wantedBy := ⟨⟨by decide +kernel, by decide +kernel, by decide +kernel⟩, List.mem_of_getElem? (i := 733) (by decide +kernel), List.mem_of_getElem? (i := 67) (by decide +kernel), ⟨List.mem_of_getElem? (i := 731) (by decide +kernel), List.mem_of_getElem? (i := 732) (by decide +kernel), Or.inl ⟨_, rfl, rfl⟩⟩⟩

def k_X0_wantedBy : List sBk := [
  (0, false, [true, true], [o0 0 (.aload_n 0), o0 1 (.aload_n 0), oN 2 (.getfield 30) [0, 13, 157], o0 5 (.iload_n 1), oC 6 (.invokevirtual 84) [481] c_X0_gather, o0 9 .ireturn])]
set_option maxRecDepth 100000 in
theorem ck_X0_wantedBy : s_ck RX0 cX0_wantedBy 2 2 45 k_X0_wantedBy = true := by decide +kernel

set_option maxRecDepth 100000 in
set_option maxHeartbeats 1000000 in
theorem ok_X0_wantedBy : s_Ok c_X0_wantedBy := by
  refine s_ok_of k_X0_wantedBy (by decide +kernel) sta_X0_wantedBy ck_X0_wantedBy (And.intro ok_X0_gather trivial) ?_
  rintro vs L ⟨s, F, g, n, rfl, rfl, hn, hn8⟩
  refine ⟨rfl, fun G hG => ?_⟩
  refine hG 0 _ _ _ (And.intro ⟨_, _, n, _, _, _, _, rfl, rfl, hn, hn8, Nat.le_refl _⟩ ?_)
  intro r hr
  obtain rfl : r = some (.int (p_ga (F 7) (s 1).toNatClampNeg g)) := hr
  exact ⟨rfl, rfl, fun _ => rfl⟩
/-- those of the held of which one of the group follows, below k -/
def p_ro (fo : Nat → Int32) (g h : Int32) : Nat → Int32
  | 0 => 0
  | k + 1 => if p_hb h (nI k) = 0 then p_ro fo g h k else if fo k &&& g = 0 then p_ro fo g h k else p_ro fo g h k ||| ((1 : Int32) <<< (nI k &&& 31))
def c_X0_restingOn : sCtr := ((yX0_restingOn, cX0_restingOn, 5, (some .int)), (1, 2, 1, 21), true,
  bkfp,
  fun vs L => ∃ (s : Nat → Int32) (F : Nat → Nat → Int32) (g h : Int32) (n : Nat), vs = [.ref 0, .int g, .int h] ∧ L = bkW s F ∧ s 1 = nI n ∧ n ≤ 8,
  fun vs L r _ => r = some (.int (p_ro (bF L 6) (vI vs 1) (vI vs 2) (bS L 1).toNatClampNeg)))
theorem sta_X0_restingOn : s_Sta c_X0_restingOn := ⟨⟨by decide +kernel, by decide +kernel, by decide +kernel⟩, List.mem_of_getElem? (i := 587) (by decide +kernel), List.mem_of_getElem? (i := 67) (by decide +kernel), ⟨List.mem_of_getElem? (i := 585) (by decide +kernel), List.mem_of_getElem? (i := 586) (by decide +kernel), Or.inl ⟨_, rfl, rfl⟩⟩⟩

def k_X0_restingOn : List sBk := [
  (0, false, [true, true, true, false, false], [oK 0 (.iconst 0) (.int 0), o0 1 (.istore_n 3), oK 2 (.iconst 0) (.int 0), o0 3 (.istore 4), oN 5 .nop [1]]),
  (5, true, [true, true, true, true, true], [o0 5 (.iload 4), o0 7 (.aload_n 0), oN 8 (.getfield 43) [0, 1, 119], oN 11 (.if_icmp .ge 37) [3], o0 14 (.iload_n 2), o0 15 (.iload 4), oC 17 (.invokestatic 88) [0, 0] c_X5_hasBit, oN 20 (.ifCond .eq 22) [2], o0 23 (.aload_n 0), oN 24 (.getfield 27) [0, 12, 154], o0 27 (.iload 4), o0 29 .iaload, o0 30 (.iload_n 1), o0 31 .iand, oN 32 (.ifCond .eq 10) [2], o0 35 (.iload_n 3), oK 36 (.iconst 1) (.int 1), o0 37 (.iload 4), o0 39 .ishl, o0 40 .ior, o0 41 (.istore_n 3), oN 42 .nop [2]]),
  (42, false, [true, true, true, true, true], [oK 42 (.iinc 4 1) (.int 1), oN 45 (.goto (-40)) [1]]),
  (48, false, [false, false, false, true, false], [o0 48 (.iload_n 3), o0 49 .ireturn])]
set_option maxRecDepth 100000 in
theorem ck_X0_restingOn : s_ck RX0 cX0_restingOn 5 1 21 k_X0_restingOn = true := by decide +kernel

set_option maxRecDepth 100000 in
set_option maxHeartbeats 1000000 in
theorem ok_X0_restingOn : s_Ok c_X0_restingOn := by
  refine s_ok_of k_X0_restingOn (by decide +kernel) sta_X0_restingOn ck_X0_restingOn (And.intro ok_X5_hasBit trivial) ?_
  rintro vs L ⟨s, F, g, h, n, rfl, rfl, hn, hn8⟩
  refine ⟨rfl, fun G hG => ?_⟩
  have loop : ∀ (k i : Nat) (x a : Int32), i + k = n → x = nI i → a = p_ro (F 6) g h i → G 1 [some (.ref 0), some (.int g), some (.int h), some (.int a), some (.int x)] [] (bkW s F) := by
    intro k
    induction k with
    | zero =>
      intro i x a hi hx ha
      refine hG 1 _ _ _ (And.intro (fun h2 => ?_) (fun h2 => ?_))
      · have h2 : x < s 1 := h2
        rw [hx, hn, nI_ltI (by omega) (by omega)] at h2; omega
      · refine ⟨rfl, ?_, fun _ => rfl⟩
        show some (Value.int a) = some (Value.int (p_ro (F 6) g h (s 1).toNatClampNeg))
        rw [hn, nI_clamp (by omega), ha, show i = n by omega]
    | succ k ih =>
      intro i x a hi hx ha
      refine hG 1 _ _ _ (And.intro (fun h2 => ?_) (fun h2 => ?_))
      · refine And.intro ⟨h, x, rfl⟩ ?_
        intro r hr
        obtain rfl : r = some (.int (p_hb h x)) := hr
        refine And.intro (fun h3 => ?_) (fun h3 => ?_)
        · exact ih (i + 1) _ _ (by omega) (by rw [hx, nI_1]) (by rw [p_ro, ← hx, if_pos h3, ha])
        · refine And.intro (by rw [hx]; exact vp_in_nI (by omega) (by omega)) ?_
          refine And.intro (fun h4 => ?_) (fun h4 => ?_)
          · have h4 : F 6 x.toNatClampNeg &&& g = 0 := h4
            rw [hx, nI_clamp (by omega)] at h4
            exact ih (i + 1) _ _ (by omega) (by rw [hx, nI_1]) (by rw [p_ro, ← hx, if_neg h3, if_pos h4, ha])
          · have h4 : ¬ F 6 x.toNatClampNeg &&& g = 0 := h4
            rw [hx, nI_clamp (by omega)] at h4
            exact ih (i + 1) _ _ (by omega) (by rw [hx, nI_1]) (by rw [p_ro, ← hx, if_neg h3, if_neg h4, ha])
      · have h2 : ¬ x < s 1 := h2
        rw [hx, hn, nI_ltI (by omega) (by omega)] at h2; omega
  exact hG 0 _ _ _ (loop n 0 _ _ (by omega) nI_0.symm rfl)
end
section
/-! ===== Book: rounds, what is seen, followers worked out, emptied, copied ===== -/
def p_rd (nd fo : Nat → Int32) (n : Nat) (g : Int32) : Nat → Bool
  | 0 => false
  | k + 1 => p_rd nd fo n g k || (!(decide (p_hb g (nI k) = 0)) && !(decide (p_hb (p_ga fo n (nd k)) (nI k) = 0)))
theorem p_rd_mono {nd fo : Nat → Int32} {n : Nat} {g : Int32} {i : Nat} (h : p_rd nd fo n g i = true) : ∀ d, p_rd nd fo n g (i + d) = true
  | 0 => h
  | d + 1 => by
    show (p_rd nd fo n g (i + d) || _) = true
    rw [p_rd_mono h d]; rfl
def c_X0_goesRound : sCtr := ((yX0_goesRound, cX0_goesRound, 3, (some .boolean)), (1, 1, 3, 66), true,
  bkfp,
  fun vs L => ∃ (s : Nat → Int32) (F : Nat → Nat → Int32) (g : Int32) (n : Nat), vs = [.ref 0, .int g] ∧ L = bkW s F ∧ s 1 = nI n ∧ n ≤ 8,
  fun vs L r _ => r = some (.int (if p_rd (bF L 4) (bF L 6) (bS L 1).toNatClampNeg (vI vs 1) (bS L 1).toNatClampNeg = true then 1 else 0)))
theorem sta_X0_goesRound : s_Sta c_X0_goesRound := ⟨⟨by decide +kernel, by decide +kernel, by decide +kernel⟩, List.mem_of_getElem? (i := 705) (by decide +kernel), List.mem_of_getElem? (i := 67) (by decide +kernel), ⟨List.mem_of_getElem? (i := 703) (by decide +kernel), List.mem_of_getElem? (i := 704) (by decide +kernel), Or.inl ⟨_, rfl, rfl⟩⟩⟩

def k_X0_goesRound : List sBk := [
  (0, false, [true, true, false], [oK 0 (.iconst 0) (.int 0), o0 1 (.istore_n 2), oN 2 .nop [1]]),
  (2, true, [true, true, true], [o0 2 (.iload_n 2), o0 3 (.aload_n 0), oN 4 (.getfield 43) [0, 1, 119], oN 7 (.if_icmp .ge 36) [3], o0 10 (.iload_n 1), o0 11 (.iload_n 2), oC 12 (.invokestatic 88) [0, 0] c_X5_hasBit, oN 15 (.ifCond .eq 22) [2], o0 18 (.aload_n 0), o0 19 (.aload_n 0), oN 20 (.getfield 21) [0, 10, 148], o0 23 (.iload_n 2), o0 24 .iaload, oC 25 (.invokevirtual 92) [706] c_X0_followersOf, o0 28 (.iload_n 2), oC 29 (.invokestatic 88) [0, 0] c_X5_hasBit, oN 32 (.ifCond .eq 5) [2], oK 35 (.iconst 1) (.int 1), o0 36 .ireturn]),
  (37, false, [true, true, true], [oK 37 (.iinc 2 1) (.int 1), oN 40 (.goto (-38)) [1]]),
  (43, false, [false, false, false], [oK 43 (.iconst 0) (.int 0), o0 44 .ireturn])]
set_option maxRecDepth 100000 in
theorem ck_X0_goesRound : s_ck RX0 cX0_goesRound 3 3 66 k_X0_goesRound = true := by decide +kernel

set_option maxRecDepth 100000 in
set_option maxHeartbeats 1000000 in
theorem ok_X0_goesRound : s_Ok c_X0_goesRound := by
  refine s_ok_of k_X0_goesRound (by decide +kernel) sta_X0_goesRound ck_X0_goesRound (And.intro ok_X5_hasBit (And.intro ok_X0_followersOf (And.intro ok_X5_hasBit trivial))) ?_
  rintro vs L ⟨s, F, g, n, rfl, rfl, hn, hn8⟩
  refine ⟨rfl, fun G hG => ?_⟩
  have loop : ∀ (k i : Nat) (x : Int32), i + k = n → x = nI i → p_rd (F 4) (F 6) n g i = false → G 1 [some (.ref 0), some (.int g), some (.int x)] [] (bkW s F) := by
    intro k
    induction k with
    | zero =>
      intro i x hi hx ha
      refine hG 1 _ _ _ (And.intro (fun h2 => ?_) (fun h2 => ?_))
      · have h2 : x < s 1 := h2
        rw [hx, hn, nI_ltI (by omega) (by omega)] at h2; omega
      · refine And.intro (Or.inl rfl) ⟨rfl, ?_, fun _ => rfl⟩
        show some (Value.int 0) = some (Value.int (if p_rd (F 4) (F 6) (s 1).toNatClampNeg g (s 1).toNatClampNeg = true then 1 else 0))
        rw [hn, nI_clamp (by omega), ← show i = n by omega, if_neg (by rw [show i = n by omega] at ha ⊢; rw [ha]; exact fun q => by cases q)]
    | succ k ih =>
      intro i x hi hx ha
      refine hG 1 _ _ _ (And.intro (fun h2 => ?_) (fun h2 => ?_))
      · refine And.intro ⟨g, x, rfl⟩ ?_
        intro r hr
        obtain rfl : r = some (.int (p_hb g x)) := hr
        refine And.intro (fun h3 => ?_) (fun h3 => ?_)
        · exact ih (i + 1) _ (by omega) (by rw [hx, nI_1]) (by rw [p_rd, ha, ← hx, h3]; rfl)
        · refine And.intro (by rw [hx]; exact vp_in_nI (by omega) (by omega)) ?_
          refine And.intro ⟨s, F, _, n, rfl, rfl, hn, hn8⟩ ?_
          intro r hr
          obtain rfl : r = some (.int (p_ga (F 6) (s 1).toNatClampNeg (F 4 x.toNatClampNeg))) := hr
          refine And.intro ⟨_, x, rfl⟩ ?_
          intro r hr
          obtain rfl : r = some (.int (p_hb (p_ga (F 6) (s 1).toNatClampNeg (F 4 x.toNatClampNeg)) x)) := hr
          refine And.intro (fun h4 => ?_) (fun h4 => ?_)
          · have h4 : p_hb (p_ga (F 6) (s 1).toNatClampNeg (F 4 x.toNatClampNeg)) x = 0 := h4
            rw [hn, nI_clamp (by omega), hx, nI_clamp (by omega)] at h4
            exact ih (i + 1) _ (by omega) (by rw [hx, nI_1]) (by rw [p_rd, ha, h4]; simp)
          · have h4 : ¬ p_hb (p_ga (F 6) (s 1).toNatClampNeg (F 4 x.toNatClampNeg)) x = 0 := h4
            rw [hn, nI_clamp (by omega), hx, nI_clamp (by omega)] at h4
            refine And.intro (Or.inr rfl) ⟨rfl, ?_, fun _ => rfl⟩
            show some (Value.int 1) = some (Value.int (if p_rd (F 4) (F 6) (s 1).toNatClampNeg g (s 1).toNatClampNeg = true then 1 else 0))
            have h5 : p_rd (F 4) (F 6) n g (i + 1) = true := by
              rw [p_rd, ha]
              rw [hx] at h3
              simp [h3, h4]
            rw [hn, nI_clamp (by omega), if_pos (by have := p_rd_mono h5 k; rwa [show i + 1 + k = n by omega] at this)]
      · have h2 : ¬ x < s 1 := h2
        rw [hx, hn, nI_ltI (by omega) (by omega)] at h2; omega
  exact hG 0 _ _ _ (loop n 0 _ (by omega) nI_0.symm rfl)
/-- the ones seen as z, below k -/
def p_so (so : Nat → Int32) (sa z : Int32) : Nat → Int32
  | 0 => 0
  | k + 1 => if p_hb sa (nI k) = z then p_so so sa z k ||| ((1 : Int32) <<< (so k &&& 31)) else p_so so sa z k
def c_X0_seenOnes : sCtr := ((yX0_seenOnes, cX0_seenOnes, 4, (some .int)), (1, 1, 1, 21), true,
  bkfp,
  fun vs L => ∃ (s : Nat → Int32) (F : Nat → Nat → Int32) (z : Int32) (n : Nat), vs = [.ref 0, .int z] ∧ L = bkW s F ∧ s 18 = nI n ∧ n ≤ 8,
  fun vs L r _ => r = some (.int (p_so (bF L 9) (bS L 17) (vI vs 1) (bS L 18).toNatClampNeg)))
theorem sta_X0_seenOnes : s_Sta c_X0_seenOnes := ⟨⟨by decide +kernel, by decide +kernel, by decide +kernel⟩, List.mem_of_getElem? (i := 729) (by decide +kernel), List.mem_of_getElem? (i := 67) (by decide +kernel), ⟨List.mem_of_getElem? (i := 727) (by decide +kernel), List.mem_of_getElem? (i := 728) (by decide +kernel), Or.inl ⟨_, rfl, rfl⟩⟩⟩

def k_X0_seenOnes : List sBk := [
  (0, false, [true, true, false, false], [oK 0 (.iconst 0) (.int 0), o0 1 (.istore_n 2), oK 2 (.iconst 0) (.int 0), o0 3 (.istore_n 3), oN 4 .nop [1]]),
  (4, true, [true, true, true, true], [o0 4 (.iload_n 3), o0 5 (.aload_n 0), oN 6 (.getfield 71) [0, 18, 170], oN 9 (.if_icmp .ge 32) [3], o0 12 (.aload_n 0), oN 13 (.getfield 68) [0, 17, 168], o0 16 (.iload_n 3), oC 17 (.invokestatic 88) [0, 0] c_X5_hasBit, o0 20 (.iload_n 1), oN 21 (.if_icmp .ne 14) [2], o0 24 (.iload_n 2), oK 25 (.iconst 1) (.int 1), o0 26 (.aload_n 0), oN 27 (.getfield 36) [0, 16, 166], o0 30 (.iload_n 3), o0 31 .iaload, o0 32 .ishl, o0 33 .ior, o0 34 (.istore_n 2), oN 35 .nop [2]]),
  (35, false, [true, true, true, true], [oK 35 (.iinc 3 1) (.int 1), oN 38 (.goto (-34)) [1]]),
  (41, false, [false, false, true, false], [o0 41 (.iload_n 2), o0 42 .ireturn])]
set_option maxRecDepth 100000 in
theorem ck_X0_seenOnes : s_ck RX0 cX0_seenOnes 4 1 21 k_X0_seenOnes = true := by decide +kernel

set_option maxRecDepth 100000 in
set_option maxHeartbeats 1000000 in
theorem ok_X0_seenOnes : s_Ok c_X0_seenOnes := by
  refine s_ok_of k_X0_seenOnes (by decide +kernel) sta_X0_seenOnes ck_X0_seenOnes (And.intro ok_X5_hasBit trivial) ?_
  rintro vs L ⟨s, F, z, n, rfl, rfl, hn, hn8⟩
  refine ⟨rfl, fun G hG => ?_⟩
  have loop : ∀ (k i : Nat) (x a : Int32), i + k = n → x = nI i → a = p_so (F 9) (s 17) z i → G 1 [some (.ref 0), some (.int z), some (.int a), some (.int x)] [] (bkW s F) := by
    intro k
    induction k with
    | zero =>
      intro i x a hi hx ha
      refine hG 1 _ _ _ (And.intro (fun h2 => ?_) (fun h2 => ?_))
      · have h2 : x < s 18 := h2
        rw [hx, hn, nI_ltI (by omega) (by omega)] at h2; omega
      · refine ⟨rfl, ?_, fun _ => rfl⟩
        show some (Value.int a) = some (Value.int (p_so (F 9) (s 17) z (s 18).toNatClampNeg))
        rw [hn, nI_clamp (by omega), ha, show i = n by omega]
    | succ k ih =>
      intro i x a hi hx ha
      refine hG 1 _ _ _ (And.intro (fun h2 => ?_) (fun h2 => ?_))
      · refine And.intro ⟨s 17, x, rfl⟩ ?_
        intro r hr
        obtain rfl : r = some (.int (p_hb (s 17) x)) := hr
        refine And.intro (fun h3 => ?_) (fun h3 => ?_)
        · refine And.intro (by rw [hx]; exact vp_in_nI (by omega) (by omega)) ?_
          exact ih (i + 1) _ _ (by omega) (by rw [hx, nI_1]) (by rw [p_so, ← hx, if_pos h3, ha, hx, nI_clamp (by omega)])
        · exact ih (i + 1) _ _ (by omega) (by rw [hx, nI_1]) (by rw [p_so, ← hx, if_neg h3, ha])
      · have h2 : ¬ x < s 18 := h2
        rw [hx, hn, nI_ltI (by omega) (by omega)] at h2; omega
  exact hG 0 _ _ _ (loop n 0 _ _ (by omega) nI_0.symm rfl)
def p_in (y p : Int32) : Int32 := if p < 0 then 0 else if p < y then 1 else 0
def p_two (y w v : Int32) : Int32 := if p_in y w = 0 then 0 else if p_in y v = 0 then 0 else if w = v then 0 else 1
def c_X0_hasTwoWishes : sCtr := ((yX0_hasTwoWishes, cX0_hasTwoWishes, 3, (some .boolean)), (1, 2, 1, 21), true,
  fun vs _ => match vs with
    | .ref b :: _ => [b]
    | _ => [],
  fun vs L => ∃ (v0 : Value) (y w v : Int32) (rest : List Value), vs = [.ref 0, .int w, .int v] ∧ L = [.inr (.inr (0, v0 :: .int y :: rest))],
  fun vs L r _ => r = some (.int (p_two (bS L 1) (vI vs 1) (vI vs 2))))
theorem sta_X0_hasTwoWishes : s_Sta c_X0_hasTwoWishes := ⟨⟨by decide +kernel, by decide +kernel, by decide +kernel⟩, List.mem_of_getElem? (i := 542) (by decide +kernel), List.mem_of_getElem? (i := 67) (by decide +kernel), ⟨List.mem_of_getElem? (i := 540) (by decide +kernel), List.mem_of_getElem? (i := 541) (by decide +kernel), Or.inl ⟨_, rfl, rfl⟩⟩⟩

def k_X0_hasTwoWishes : List sBk := [
  (0, false, [true, true, true], [o0 0 (.aload_n 0), o0 1 (.iload_n 1), oC 2 (.invokevirtual 46) [543] c_X0_hasWish, oN 5 (.ifCond .eq 20) [1], o0 8 (.aload_n 0), o0 9 (.iload_n 2), oC 10 (.invokevirtual 46) [543] c_X0_hasWish, oN 13 (.ifCond .eq 12) [1], o0 16 (.iload_n 1), o0 17 (.iload_n 2), oN 18 (.if_icmp .eq 7) [1], oK 21 (.iconst 1) (.int 1), oN 22 (.goto 4) [2]]),
  (25, false, [false, false, false], [oK 25 (.iconst 0) (.int 0), oN 26 .nop [2]]),
  (26, false, [false, false, false], [o0 26 .ireturn])]
set_option maxRecDepth 100000 in
theorem ck_X0_hasTwoWishes : s_ck RX0 cX0_hasTwoWishes 3 1 21 k_X0_hasTwoWishes = true := by decide +kernel

set_option maxRecDepth 100000 in
set_option maxHeartbeats 1000000 in
theorem ok_X0_hasTwoWishes : s_Ok c_X0_hasTwoWishes := by
  refine s_ok_of k_X0_hasTwoWishes (by decide +kernel) sta_X0_hasTwoWishes ck_X0_hasTwoWishes (And.intro ok_X0_hasWish (And.intro ok_X0_hasWish trivial)) ?_
  rintro vs L ⟨v0, y, w, v, rest, rfl, rfl⟩
  refine ⟨rfl, fun G hG => ?_⟩
  have fin : ∀ a : Int32, a = 0 ∨ a = 1 → a = p_two y w v → (a = 0 ∨ a = 1) ∧ s_PP (some .boolean) true c_X0_hasTwoWishes.2.2.2.2.2 [.ref 0, .int w, .int v] [.inr (.inr (0, v0 :: .int y :: rest))] (some (.int a)) [.inr (.inr (0, v0 :: .int y :: rest))] := by
    intro a h01 ha
    exact ⟨h01, rfl, by rw [ha]; rfl, fun _ => rfl⟩
  refine hG 0 _ _ _ (And.intro ⟨_, _, _, _, rfl, rfl⟩ ?_)
  intro r hr
  obtain rfl : r = some (.int (p_in y w)) := hr
  refine And.intro (fun h => ?_) (fun h => ?_)
  · exact fin 0 (Or.inl rfl) (by rw [p_two, if_pos h])
  · refine And.intro ⟨_, _, _, _, rfl, rfl⟩ ?_
    intro r hr
    obtain rfl : r = some (.int (p_in y v)) := hr
    refine And.intro (fun h2 => ?_) (fun h2 => ?_)
    · exact fin 0 (Or.inl rfl) (by rw [p_two, if_neg h, if_pos h2])
    · refine And.intro (fun h3 => ?_) (fun h3 => ?_)
      · exact fin 0 (Or.inl rfl) (by rw [p_two, if_neg h, if_neg h2, if_pos h3])
      · exact fin 1 (Or.inr rfl) (by rw [p_two, if_neg h, if_neg h2, if_neg h3])
def c_X0_sets : sCtr := ((yX0_sets, cX0_sets, 1, (some .int)), (1, 0, 0, 0), true,
  fun vs _ => match vs with
    | .ref b :: _ => [b]
    | _ => [],
  fun vs L => ∃ (v0 : Value) (y : Int32) (rest : List Value), vs = [.ref 0] ∧ L = [.inr (.inr (0, v0 :: .int y :: rest))],
  fun _ L r _ => r = some (.int ((1 : Int32) <<< (bS L 1 &&& 31))))
theorem sta_X0_sets : s_Sta c_X0_sets := ⟨⟨by decide +kernel, by decide +kernel, by decide +kernel⟩, List.mem_of_getElem? (i := 607) (by decide +kernel), List.mem_of_getElem? (i := 67) (by decide +kernel), ⟨List.mem_of_getElem? (i := 605) (by decide +kernel), List.mem_of_getElem? (i := 606) (by decide +kernel), Or.inl ⟨_, rfl, rfl⟩⟩⟩

def k_X0_sets : List sBk := [
  (0, false, [true], [oK 0 (.iconst 1) (.int 1), o0 1 (.aload_n 0), oN 2 (.getfield 43) [0, 1, 119], o0 5 .ishl, o0 6 .ireturn])]
set_option maxRecDepth 100000 in
theorem ck_X0_sets : s_ck RX0 cX0_sets 1 0 0 k_X0_sets = true := by decide +kernel

set_option maxRecDepth 100000 in
set_option maxHeartbeats 1000000 in
theorem ok_X0_sets : s_Ok c_X0_sets := by
  refine s_ok_of k_X0_sets (by decide +kernel) sta_X0_sets ck_X0_sets trivial ?_
  rintro vs L ⟨v0, y, rest, rfl, rfl⟩
  refine ⟨rfl, fun G hG => ?_⟩
  exact hG 0 _ _ _ ⟨rfl, rfl, fun _ => rfl⟩
/-- a row filled below i -/
def p_fi (f g : Nat → Int32) (i : Nat) : Nat → Int32 := fun k => if k < i then f k else g k
theorem p_fi_0 (f g : Nat → Int32) : p_fi f g 0 = g := by funext k; simp [p_fi]
theorem p_fi_s (f g : Nat → Int32) (i : Nat) : upd (p_fi f g i) i (f i) = p_fi f g (i + 1) := by
  funext k
  unfold upd p_fi
  by_cases h : k = i
  · subst h; simp
  · by_cases h2 : k < i
    · simp [h, h2, show k < i + 1 by omega]
    · simp [h, h2, show ¬ k < i + 1 by omega]
theorem p_fi_in {f g : Nat → Int32} {i k : Nat} (h : k < i) : p_fi f g i k = f k := by simp [p_fi, h]
/-- what follows of each wish, as it is kept at hand -/
def p_fo (nd : Nat → Int32) (n : Nat) : Nat → Int32 := fun k => p_it nd n 0 ((1 : Int32) <<< (nI k &&& 31)) n
def p_wa (on nd : Nat → Int32) (n : Nat) : Nat → Int32 := fun k => p_ga on n (p_fo nd n k)
def c_X0_workOutFollowers : sCtr := ((yX0_workOutFollowers, cX0_workOutFollowers, 2, none), (1, 0, 3, 71), false,
  bkfp,
  fun vs L => ∃ (s : Nat → Int32) (F : Nat → Nat → Int32) (n : Nat), vs = [.ref 0] ∧ L = bkW s F ∧ s 1 = nI n ∧ n ≤ 8,
  fun _ L r L' => r = none ∧ L' = bkW (bS L) (va_up (va_up (bF L) 6 (p_fi (p_fo (bF L 4) (bS L 1).toNatClampNeg) (bF L 6) (bS L 1).toNatClampNeg)) 7 (p_fi (p_wa (bF L 3) (bF L 4) (bS L 1).toNatClampNeg) (bF L 7) (bS L 1).toNatClampNeg)))
theorem sta_X0_workOutFollowers : s_Sta c_X0_workOutFollowers := ⟨⟨by decide +kernel, by decide +kernel, by decide +kernel⟩, List.mem_of_getElem? (i := 476) (by decide +kernel), List.mem_of_getElem? (i := 67) (by decide +kernel), ⟨List.mem_of_getElem? (i := 474) (by decide +kernel), List.mem_of_getElem? (i := 475) (by decide +kernel), Or.inl ⟨_, rfl, rfl⟩⟩⟩

def k_X0_workOutFollowers : List sBk := [
  (0, false, [true, false], [oK 0 (.iconst 0) (.int 0), o0 1 (.istore_n 1), oN 2 .nop [1]]),
  (2, true, [true, true], [o0 2 (.iload_n 1), o0 3 (.aload_n 0), oN 4 (.getfield 43) [0, 1, 119], oN 7 (.if_icmp .ge 25) [2], o0 10 (.aload_n 0), oN 11 (.getfield 27) [0, 12, 154], o0 14 (.iload_n 1), o0 15 (.aload_n 0), o0 16 (.iload_n 1), oK 17 (.iconst 0) (.int 0), o0 18 (.aload_n 0), oN 19 (.getfield 43) [0, 1, 119], oC 22 (.invokevirtual 80) [477] c_X0_lookedAt, o0 25 .iastore, oK 26 (.iinc 1 1) (.int 1), oN 29 (.goto (-27)) [1]]),
  (32, false, [true, false], [oK 32 (.iconst 0) (.int 0), o0 33 (.istore_n 1), oN 34 .nop [3]]),
  (34, true, [true, true], [o0 34 (.iload_n 1), o0 35 (.aload_n 0), oN 36 (.getfield 43) [0, 1, 119], oN 39 (.if_icmp .ge 29) [4], o0 42 (.aload_n 0), oN 43 (.getfield 30) [0, 13, 157], o0 46 (.iload_n 1), o0 47 (.aload_n 0), o0 48 (.aload_n 0), oN 49 (.getfield 18) [0, 9, 145], o0 52 (.aload_n 0), oN 53 (.getfield 27) [0, 12, 154], o0 56 (.iload_n 1), o0 57 .iaload, oC 58 (.invokevirtual 84) [481] c_X0_gather, o0 61 .iastore, oK 62 (.iinc 1 1) (.int 1), oN 65 (.goto (-31)) [3]]),
  (68, false, [false, false], [o0 68 .return_])]
set_option maxRecDepth 100000 in
theorem ck_X0_workOutFollowers : s_ck RX0 cX0_workOutFollowers 2 3 71 k_X0_workOutFollowers = true := by decide +kernel

set_option maxRecDepth 100000 in
set_option maxHeartbeats 1000000 in
theorem ok_X0_workOutFollowers : s_Ok c_X0_workOutFollowers := by
  refine s_ok_of k_X0_workOutFollowers (by decide +kernel) sta_X0_workOutFollowers ck_X0_workOutFollowers (And.intro ok_X0_lookedAt (And.intro ok_X0_gather trivial)) ?_
  rintro vs L ⟨s, F, n, rfl, rfl, hn, hn8⟩
  refine ⟨rfl, fun G hG => ?_⟩
  have loop2 : ∀ (k i : Nat) (x : Int32) (f7 : Nat → Int32), i + k = n → x = nI i → f7 = p_fi (p_wa (F 3) (F 4) n) (F 7) i → G 3 [some (.ref 0), some (.int x)] [] (bkW s (va_up (va_up F 6 (p_fi (p_fo (F 4) n) (F 6) n)) 7 f7)) := by
    intro k
    induction k with
    | zero =>
      intro i x f7 hi hx hf
      refine hG 3 _ _ _ (And.intro (fun h2 => ?_) (fun h2 => ?_))
      · have h2 : x < s 1 := h2
        rw [hx, hn, nI_ltI (by omega) (by omega)] at h2; omega
      · refine ⟨rfl, ⟨rfl, ?_⟩, fun h => by cases h⟩
        show _ = bkW s (va_up (va_up F 6 (p_fi (p_fo (F 4) (s 1).toNatClampNeg) (F 6) (s 1).toNatClampNeg)) 7 (p_fi (p_wa (F 3) (F 4) (s 1).toNatClampNeg) (F 7) (s 1).toNatClampNeg))
        rw [hn, nI_clamp (by omega), hf, show i = n by omega]
    | succ k ih =>
      intro i x f7 hi hx hf
      refine hG 3 _ _ _ (And.intro (fun h2 => ?_) (fun h2 => ?_))
      · refine And.intro (by rw [hx]; exact vp_in_nI (by omega) (by omega)) ?_
        refine And.intro ⟨_, _, n, _, _, _, _, rfl, rfl, hn, hn8, Nat.le_refl _⟩ ?_
        intro r hr
        obtain rfl : r = some (.int (p_ga (F 3) (s 1).toNatClampNeg (p_fi (p_fo (F 4) n) (F 6) n x.toNatClampNeg))) := hr
        refine And.intro (by rw [hx]; exact vp_in_nI (by omega) (by omega)) ?_
        refine ih (i + 1) _ (upd f7 x.toNatClampNeg (p_ga (F 3) (s 1).toNatClampNeg (p_fi (p_fo (F 4) n) (F 6) n x.toNatClampNeg))) (by omega) (by rw [hx, nI_1]) ?_
        rw [hx, nI_clamp (by omega), hn, nI_clamp (by omega), p_fi_in (by omega), hf, ← p_fi_s]
        rfl
      · have h2 : ¬ x < s 1 := h2
        rw [hx, hn, nI_ltI (by omega) (by omega)] at h2; omega
  have loop1 : ∀ (k i : Nat) (x : Int32) (f6 : Nat → Int32), i + k = n → x = nI i → f6 = p_fi (p_fo (F 4) n) (F 6) i → G 1 [some (.ref 0), some (.int x)] [] (bkW s (va_up F 6 f6)) := by
    intro k
    induction k with
    | zero =>
      intro i x f6 hi hx hf
      refine hG 1 _ _ _ (And.intro (fun h2 => ?_) (fun h2 => ?_))
      · have h2 : x < s 1 := h2
        rw [hx, hn, nI_ltI (by omega) (by omega)] at h2; omega
      · have e1 : f6 = p_fi (p_fo (F 4) n) (F 6) n := by rw [hf, show i = n by omega]
        subst e1
        exact loop2 n 0 _ (F 7) (by omega) nI_0.symm (p_fi_0 _ _).symm
    | succ k ih =>
      intro i x f6 hi hx hf
      refine hG 1 _ _ _ (And.intro (fun h2 => ?_) (fun h2 => ?_))
      · refine And.intro ⟨s, va_up F 6 f6, x, 0, s 1, n, n, rfl, rfl, hn, hn8, hn, hn8⟩ ?_
        intro r hr
        obtain rfl : r = some (.int (p_it (F 4) (s 1).toNatClampNeg 0 ((1 : Int32) <<< (x &&& 31)) (s 1).toNatClampNeg)) := hr
        refine And.intro (by rw [hx]; exact vp_in_nI (by omega) (by omega)) ?_
        refine ih (i + 1) _ (upd f6 x.toNatClampNeg (p_it (F 4) (s 1).toNatClampNeg 0 ((1 : Int32) <<< (x &&& 31)) (s 1).toNatClampNeg)) (by omega) (by rw [hx, nI_1]) ?_
        rw [hx, nI_clamp (by omega), hn, nI_clamp (by omega), hf, ← p_fi_s]
        rfl
      · have h2 : ¬ x < s 1 := h2
        rw [hx, hn, nI_ltI (by omega) (by omega)] at h2; omega
  exact hG 0 _ _ _ (loop1 n 0 _ (F 6) (by omega) nI_0.symm (p_fi_0 _ _).symm)
end
section
/-! ===== Book: emptied, copied ===== -/
def c_X0_makeEmpty : sCtr := ((yX0_makeEmpty, cX0_makeEmpty, 2, none), (1, 0, 0, 0), false,
  bkfp,
  fun vs L => ∃ (s : Nat → Int32) (F : Nat → Nat → Int32), vs = [.ref 0] ∧ L = bkW s F,
  fun _ L r L' => r = none ∧ L' = bkW (fun _ => 0) (va_up (va_up (va_up (bF L) 3 (p_fi (fun _ => 0) (bF L 3) 8)) 4 (p_fi (fun _ => 0) (bF L 4) 8)) 5 (p_fi (fun _ => 0) (bF L 5) 8)))
theorem sta_X0_makeEmpty : s_Sta c_X0_makeEmpty := ⟨⟨by decide +kernel, by decide +kernel, by decide +kernel⟩, List.mem_of_getElem? (i := 348) (by decide +kernel), List.mem_of_getElem? (i := 67) (by decide +kernel), ⟨List.mem_of_getElem? (i := 346) (by decide +kernel), List.mem_of_getElem? (i := 347) (by decide +kernel), Or.inl ⟨_, rfl, rfl⟩⟩⟩

def k_X0_makeEmpty : List sBk := [
  (0, false, [true, false], [o0 0 (.aload_n 0), oK 1 (.iconst 0) (.int 0), oN 2 (.putfield 39) [0, 0, 115], o0 5 (.aload_n 0), oK 6 (.iconst 0) (.int 0), oN 7 (.putfield 43) [0, 1, 119], o0 10 (.aload_n 0), oK 11 (.iconst 0) (.int 0), oN 12 (.putfield 50) [0, 2, 122], o0 15 (.aload_n 0), oK 16 (.iconst 0) (.int 0), oN 17 (.putfield 53) [0, 3, 126], o0 20 (.aload_n 0), oK 21 (.iconst 0) (.int 0), oN 22 (.putfield 56) [0, 4, 129], o0 25 (.aload_n 0), oK 26 (.iconst 0) (.int 0), oN 27 (.putfield 59) [0, 5, 133], o0 30 (.aload_n 0), oK 31 (.iconst 0) (.int 0), oN 32 (.putfield 62) [0, 6, 135], o0 35 (.aload_n 0), oK 36 (.iconst 0) (.int 0), oN 37 (.putfield 65) [0, 15, 163], o0 40 (.aload_n 0), oK 41 (.iconst 0) (.int 0), oN 42 (.putfield 68) [0, 17, 168], o0 45 (.aload_n 0), oK 46 (.iconst 0) (.int 0), oN 47 (.putfield 71) [0, 18, 170], oK 50 (.iconst 0) (.int 0), o0 51 (.istore_n 1), oN 52 .nop [1]]),
  (52, true, [true, true], [o0 52 (.iload_n 1), oK 53 (.bipush 8) (.int 8), oN 55 (.if_icmp .ge 30) [2], o0 58 (.aload_n 0), oN 59 (.getfield 18) [0, 9, 145], o0 62 (.iload_n 1), oK 63 (.iconst 0) (.int 0), o0 64 .iastore, o0 65 (.aload_n 0), oN 66 (.getfield 21) [0, 10, 148], o0 69 (.iload_n 1), oK 70 (.iconst 0) (.int 0), o0 71 .iastore, o0 72 (.aload_n 0), oN 73 (.getfield 24) [0, 11, 151], o0 76 (.iload_n 1), oK 77 (.iconst 0) (.int 0), o0 78 .iastore, oK 79 (.iinc 1 1) (.int 1), oN 82 (.goto (-30)) [1]]),
  (85, false, [false, false], [o0 85 .return_])]
set_option maxRecDepth 100000 in
theorem ck_X0_makeEmpty : s_ck RX0 cX0_makeEmpty 2 0 0 k_X0_makeEmpty = true := by decide +kernel

set_option maxRecDepth 100000 in
set_option maxHeartbeats 1000000 in
theorem ok_X0_makeEmpty : s_Ok c_X0_makeEmpty := by
  refine s_ok_of k_X0_makeEmpty (by decide +kernel) sta_X0_makeEmpty ck_X0_makeEmpty trivial ?_
  rintro vs L ⟨s, F, rfl, rfl⟩
  refine ⟨rfl, fun G hG => ?_⟩
  have loop : ∀ (k i : Nat) (x : Int32) (f3 f4 f5 : Nat → Int32), i + k = 8 → x = nI i → f3 = p_fi (fun _ => 0) (F 3) i → f4 = p_fi (fun _ => 0) (F 4) i → f5 = p_fi (fun _ => 0) (F 5) i → G 1 [some (.ref 0), some (.int x)] [] (bkW (fun _ => 0) (va_up (va_up (va_up F 3 f3) 4 f4) 5 f5)) := by
    intro k
    induction k with
    | zero =>
      intro i x f3 f4 f5 hi hx h3 h4 h5
      refine hG 1 _ _ _ (And.intro (fun h2 => ?_) (fun h2 => ?_))
      · rw [hx, show (8 : Int32) = nI 8 from rfl, nI_ltI (by omega) (by omega)] at h2; omega
      · refine ⟨rfl, ⟨rfl, ?_⟩, fun h => by cases h⟩
        show _ = bkW (fun _ => 0) (va_up (va_up (va_up F 3 (p_fi (fun _ => 0) (F 3) 8)) 4 (p_fi (fun _ => 0) (F 4) 8)) 5 (p_fi (fun _ => 0) (F 5) 8))
        rw [h3, h4, h5, show i = 8 by omega]
    | succ k ih =>
      intro i x f3 f4 f5 hi hx h3 h4 h5
      have hin : vp_in x 8 := by rw [hx]; exact vp_in_nI (by omega) (by omega)
      refine hG 1 _ _ _ (And.intro (fun h2 => ?_) (fun h2 => ?_))
      · refine And.intro hin (And.intro hin (And.intro hin ?_))
        have hc : x.toNatClampNeg = i := by rw [hx, nI_clamp (by omega)]
        refine ih (i + 1) _ (upd f3 x.toNatClampNeg 0) (upd f4 x.toNatClampNeg 0) (upd f5 x.toNatClampNeg 0) (by omega) (by rw [hx, nI_1]) ?_ ?_ ?_
        · rw [hc, h3, ← p_fi_s]
        · rw [hc, h4, ← p_fi_s]
        · rw [hc, h5, ← p_fi_s]
      · rw [hx, show (8 : Int32) = nI 8 from rfl, nI_ltI (by omega) (by omega)] at h2; omega
  exact hG 0 _ _ _ (loop 8 0 _ (F 3) (F 4) (F 5) (by omega) nI_0.symm (p_fi_0 _ _).symm (p_fi_0 _ _).symm (p_fi_0 _ _).symm)
def bkV (s : Nat → Int32) (F : Nat → Nat → Int32) : sH := [.inr (.inr (0, [.int (s 0), .int (s 1), .int (s 2), .int (s 3), .int (s 4), .int (s 5), .int (s 6), .ref 11, .ref 12, .ref 13, .ref 14, .ref 15, .ref 16, .ref 17, .ref 18, .int (s 15), .ref 19, .int (s 17), .int (s 18)])), .inl (0, 8, F 1), .inl (0, 8, F 2), .inl (0, 8, F 3), .inl (0, 8, F 4), .inl (0, 8, F 5), .inl (0, 8, F 6), .inl (0, 8, F 7), .inl (0, 6, F 8), .inl (0, 8, F 9)]
/-- a field of the object at cell 10 -/
def bS2 (L : sH) (k : Nat) : Int32 := match s_nth L 10 with
  | some (.inr (.inr (_, fs))) => vI fs k
  | _ => 0
def p_cpB (F F2 : Nat → Nat → Int32) : Nat → Nat → Int32 := fun i => if i = 8 then va_cpy (F2 8) (F 8) 0 0 6 else va_cpy (F2 i) (F i) 0 0 8
def c_X0_copyFrom : sCtr := ((yX0_copyFrom, cX0_copyFrom, 2, none), (1, 1, 1, 44), false,
  fun vs L => match vs with
    | .ref b :: .ref o :: _ => bkP L b ++ bkP L o
    | _ => [],
  fun vs L => ∃ (s s2 : Nat → Int32) (F F2 : Nat → Nat → Int32), vs = [.ref 0, .ref 10] ∧ L = bkW s F ++ bkV s2 F2,
  fun _ L r L' => r = none ∧ L' = bkW (bS2 L) (p_cpB (bF L) (fun i => bF L (10 + i))) ++ bkV (bS2 L) (fun i => bF L (10 + i)))
theorem sta_X0_copyFrom : s_Sta c_X0_copyFrom := ⟨⟨by decide +kernel, by decide +kernel, by decide +kernel⟩, List.mem_of_getElem? (i := 762) (by decide +kernel), List.mem_of_getElem? (i := 67) (by decide +kernel), ⟨List.mem_of_getElem? (i := 760) (by decide +kernel), List.mem_of_getElem? (i := 761) (by decide +kernel), Or.inl ⟨_, rfl, rfl⟩⟩⟩

def k_X0_copyFrom : List sBk := [
  (0, false, [true, true], [o0 0 (.aload_n 0), o0 1 (.aload_n 1), oN 2 (.getfield 39) [0, 0, 115], oN 5 (.putfield 39) [0, 0, 115], o0 8 (.aload_n 0), o0 9 (.aload_n 1), oN 10 (.getfield 43) [0, 1, 119], oN 13 (.putfield 43) [0, 1, 119], o0 16 (.aload_n 0), o0 17 (.aload_n 1), oN 18 (.getfield 50) [0, 2, 122], oN 21 (.putfield 50) [0, 2, 122], o0 24 (.aload_n 0), o0 25 (.aload_n 1), oN 26 (.getfield 53) [0, 3, 126], oN 29 (.putfield 53) [0, 3, 126], o0 32 (.aload_n 0), o0 33 (.aload_n 1), oN 34 (.getfield 56) [0, 4, 129], oN 37 (.putfield 56) [0, 4, 129], o0 40 (.aload_n 0), o0 41 (.aload_n 1), oN 42 (.getfield 59) [0, 5, 133], oN 45 (.putfield 59) [0, 5, 133], o0 48 (.aload_n 0), o0 49 (.aload_n 1), oN 50 (.getfield 62) [0, 6, 135], oN 53 (.putfield 62) [0, 6, 135], o0 56 (.aload_n 0), o0 57 (.aload_n 1), oN 58 (.getfield 65) [0, 15, 163], oN 61 (.putfield 65) [0, 15, 163], o0 64 (.aload_n 0), o0 65 (.aload_n 1), oN 66 (.getfield 68) [0, 17, 168], oN 69 (.putfield 68) [0, 17, 168], o0 72 (.aload_n 0), o0 73 (.aload_n 1), oN 74 (.getfield 71) [0, 18, 170], oN 77 (.putfield 71) [0, 18, 170], o0 80 (.aload_n 1), oN 81 (.getfield 9) [0, 7, 138], oK 84 (.iconst 0) (.int 0), o0 85 (.aload_n 0), oN 86 (.getfield 9) [0, 7, 138], oK 89 (.iconst 0) (.int 0), oK 90 (.bipush 8) (.int 8), oN 92 (.invokestatic 74) [763], o0 95 (.aload_n 1), oN 96 (.getfield 15) [0, 8, 141], oK 99 (.iconst 0) (.int 0), o0 100 (.aload_n 0), oN 101 (.getfield 15) [0, 8, 141], oK 104 (.iconst 0) (.int 0), oK 105 (.bipush 8) (.int 8), oN 107 (.invokestatic 74) [763], o0 110 (.aload_n 1), oN 111 (.getfield 18) [0, 9, 145], oK 114 (.iconst 0) (.int 0), o0 115 (.aload_n 0), oN 116 (.getfield 18) [0, 9, 145], oK 119 (.iconst 0) (.int 0), oK 120 (.bipush 8) (.int 8), oN 122 (.invokestatic 74) [763], o0 125 (.aload_n 1), oN 126 (.getfield 21) [0, 10, 148], oK 129 (.iconst 0) (.int 0), o0 130 (.aload_n 0), oN 131 (.getfield 21) [0, 10, 148], oK 134 (.iconst 0) (.int 0), oK 135 (.bipush 8) (.int 8), oN 137 (.invokestatic 74) [763], o0 140 (.aload_n 1), oN 141 (.getfield 24) [0, 11, 151], oK 144 (.iconst 0) (.int 0), o0 145 (.aload_n 0), oN 146 (.getfield 24) [0, 11, 151], oK 149 (.iconst 0) (.int 0), oK 150 (.bipush 8) (.int 8), oN 152 (.invokestatic 74) [763], o0 155 (.aload_n 1), oN 156 (.getfield 27) [0, 12, 154], oK 159 (.iconst 0) (.int 0), o0 160 (.aload_n 0), oN 161 (.getfield 27) [0, 12, 154], oK 164 (.iconst 0) (.int 0), oK 165 (.bipush 8) (.int 8), oN 167 (.invokestatic 74) [763], o0 170 (.aload_n 1), oN 171 (.getfield 30) [0, 13, 157], oK 174 (.iconst 0) (.int 0), o0 175 (.aload_n 0), oN 176 (.getfield 30) [0, 13, 157], oK 179 (.iconst 0) (.int 0), oK 180 (.bipush 8) (.int 8), oN 182 (.invokestatic 74) [763], o0 185 (.aload_n 1), oN 186 (.getfield 33) [0, 14, 160], oK 189 (.iconst 0) (.int 0), o0 190 (.aload_n 0), oN 191 (.getfield 33) [0, 14, 160], oK 194 (.iconst 0) (.int 0), oK 195 (.bipush 6) (.int 6), oN 197 (.invokestatic 74) [763], o0 200 (.aload_n 1), oN 201 (.getfield 36) [0, 16, 166], oK 204 (.iconst 0) (.int 0), o0 205 (.aload_n 0), oN 206 (.getfield 36) [0, 16, 166], oK 209 (.iconst 0) (.int 0), oK 210 (.bipush 8) (.int 8), oN 212 (.invokestatic 74) [763], o0 215 .return_])]
set_option maxRecDepth 100000 in
theorem ck_X0_copyFrom : s_ck RX0 cX0_copyFrom 2 1 44 k_X0_copyFrom = true := by decide +kernel

set_option maxRecDepth 100000 in
set_option maxHeartbeats 1000000 in
theorem ok_X0_copyFrom : s_Ok c_X0_copyFrom := by
  refine s_ok_of k_X0_copyFrom (by decide +kernel) sta_X0_copyFrom ck_X0_copyFrom trivial ?_
  rintro vs L ⟨s, s2, F, F2, rfl, rfl⟩
  refine ⟨rfl, fun G hG => ?_⟩
  have z8 : ((¬ (0 : Int32) < 0) ∧ (¬ (0 : Int32) < 0) ∧ (¬ (8 : Int32) < 0) ∧ (0 : Int32).toNatClampNeg + (8 : Int32).toNatClampNeg ≤ 8 ∧ (0 : Int32).toNatClampNeg + (8 : Int32).toNatClampNeg ≤ 8) := by decide
  have z6 : ((¬ (0 : Int32) < 0) ∧ (¬ (0 : Int32) < 0) ∧ (¬ (6 : Int32) < 0) ∧ (0 : Int32).toNatClampNeg + (6 : Int32).toNatClampNeg ≤ 6 ∧ (0 : Int32).toNatClampNeg + (6 : Int32).toNatClampNeg ≤ 6) := by decide
  refine hG 0 _ _ _ ?_
  refine And.intro z8 (And.intro z8 (And.intro z8 (And.intro z8 (And.intro z8 (And.intro z8 (And.intro z8 (And.intro z6 (And.intro z8 ?_))))))))
  exact ⟨rfl, ⟨rfl, rfl⟩, fun h => by cases h⟩
end
section
/-! ===== WishClerk: the calls that need the book alone ===== -/
def oI (L : sH) (c k : Nat) : Int32 := match s_nth L c with
  | some (.inr (.inr (_, fs))) => vI fs k
  | _ => 0
def s_hd (L : sH) : sC := match L with
  | c :: _ => c
  | [] => .inl (0, 0, fun _ => 0)
def bG (k : Nat) (L : sH) : Nat → Nat → Int32 := fun i => bF L (k + i)
def bkK (k : Nat) (s : Nat → Int32) (F : Nat → Nat → Int32) : sH := [.inr (.inr (0, [.int (s 0), .int (s 1), .int (s 2), .int (s 3), .int (s 4), .int (s 5), .int (s 6), .ref (k + 1), .ref (k + 2), .ref (k + 3), .ref (k + 4), .ref (k + 5), .ref (k + 6), .ref (k + 7), .ref (k + 8), .int (s 15), .ref (k + 9), .int (s 17), .int (s 18)])), .inl (0, 8, F 1), .inl (0, 8, F 2), .inl (0, 8, F 3), .inl (0, 8, F 4), .inl (0, 8, F 5), .inl (0, 8, F 6), .inl (0, 8, F 7), .inl (0, 6, F 8), .inl (0, 8, F 9)]
def w1 (x0 x1 x2 x3 x4 x5 : Nat) (y7 y8 y9 : Int32) (s : Nat → Int32) (F : Nat → Nat → Int32) : sH := .inr (.inr (5, [.ref x0, .ref x1, .ref x2, .ref x3, .ref x4, .ref x5, .ref 1, .int y7, .int y8, .int y9])) :: bkK 1 s F
def w1fp (vs : sS) (L : sH) : List Nat := match vs with
  | .ref b :: _ => b :: bkP L (s_rf L b 6)
  | _ => []
theorem tab_out {x : Int32} {a b : Int} (h : x.toInt < a ∨ b < x.toInt) (k : Int32) (hk : a ≤ k.toInt ∧ k.toInt ≤ b) : ¬ x = k := by
  rintro rfl
  omega
def p_ush (x k : Int32) : Int32 := (x.toUInt32 >>> (k.toUInt32 &&& Int32.toUInt32 31)).toInt32
def p_b1 (i : Int32) : Int32 := i - (p_ush i 1 &&& 1431655765)
def p_b2 (i : Int32) : Int32 := (i &&& 858993459) + (p_ush i 2 &&& 858993459)
def p_b3 (i : Int32) : Int32 := (i + p_ush i 4) &&& 252645135
def p_b4 (i : Int32) : Int32 := i + p_ush i 8
def p_b5 (i : Int32) : Int32 := i + p_ush i 16
/-- Integer.bitCount, as it is written -/
def p_bc (i : Int32) : Int32 := p_b5 (p_b4 (p_b3 (p_b2 (p_b1 i)))) &&& 63
def c_J6_bitCount_0f7a4 : sCtr := ((yJ6_bitCount_0f7a4, cJ6_bitCount_0f7a4, 1, (some .int)), (0, 1, 0, 0), true,
  fun _ _ => [],
  fun vs _ => ∃ x : Int32, vs = [.int x],
  fun vs _ r _ => r = some (.int (p_bc (vI vs 0))))
theorem sta_J6_bitCount_0f7a4 : s_Sta c_J6_bitCount_0f7a4 := ⟨⟨by decide +kernel, by decide +kernel, by decide +kernel⟩, List.mem_of_getElem? (i := 576) (by decide +kernel), List.mem_of_getElem? (i := 75) (by decide +kernel), List.mem_of_getElem? (i := 575) (by decide +kernel)⟩

def k_J6_bitCount_0f7a4 : List sBk := [
  (0, false, [true], [o0 0 (.iload_n 0), o0 1 (.iload_n 0), oK 2 (.iconst 1) (.int 1), o0 3 .iushr, oV 4 (.ldc_w 265) [577] (.int 1431655765), o0 7 .iand, o0 8 .isub, o0 9 (.istore_n 0), o0 10 (.iload_n 0), oV 11 (.ldc_w 266) [578] (.int 858993459), o0 14 .iand, o0 15 (.iload_n 0), oK 16 (.iconst 2) (.int 2), o0 17 .iushr, oV 18 (.ldc_w 266) [578] (.int 858993459), o0 21 .iand, o0 22 .iadd, o0 23 (.istore_n 0), o0 24 (.iload_n 0), o0 25 (.iload_n 0), oK 26 (.iconst 4) (.int 4), o0 27 .iushr, o0 28 .iadd, oV 29 (.ldc_w 267) [579] (.int 252645135), o0 32 .iand, o0 33 (.istore_n 0), o0 34 (.iload_n 0), o0 35 (.iload_n 0), oK 36 (.bipush 8) (.int 8), o0 38 .iushr, o0 39 .iadd, o0 40 (.istore_n 0), o0 41 (.iload_n 0), o0 42 (.iload_n 0), oK 43 (.bipush 16) (.int 16), o0 45 .iushr, o0 46 .iadd, o0 47 (.istore_n 0), o0 48 (.iload_n 0), oK 49 (.bipush 63) (.int 63), o0 51 .iand, o0 52 .ireturn])]
set_option maxRecDepth 100000 in
theorem ck_J6_bitCount_0f7a4 : s_ck RJ6 cJ6_bitCount_0f7a4 1 0 0 k_J6_bitCount_0f7a4 = true := by decide +kernel

set_option maxRecDepth 100000 in
set_option maxHeartbeats 1000000 in
theorem ok_J6_bitCount_0f7a4 : s_Ok c_J6_bitCount_0f7a4 := by
  refine s_ok_of k_J6_bitCount_0f7a4 (by decide +kernel) sta_J6_bitCount_0f7a4 ck_J6_bitCount_0f7a4 trivial ?_
  rintro vs L ⟨x, rfl⟩
  refine ⟨rfl, fun G hG => ?_⟩
  exact hG 0 _ _ _ ⟨rfl, rfl, fun _ => rfl⟩
def r_rule (s : Nat → Int32) (x : Int32) : Int32 := if x = 0 then s 0 else if x = 1 then s 1 else if x = 2 then s 2 else if x = 3 then s 3 else if x = 4 then s 4 else if x = 5 then s 5 else if x = 6 then s 6 else if x = 7 then s 15 else -1
def c_X5_rule : sCtr := ((yX5_rule, cX5_rule, 2, (some .int)), (6, 1, 0, 0), true,
  w1fp,
  fun vs L => ∃ (x0 x1 x2 x3 x4 x5 : Nat) (y7 y8 y9 : Int32) (s : Nat → Int32) (F : Nat → Nat → Int32) (x : Int32), vs = [.ref 0, .int x] ∧ L = w1 x0 x1 x2 x3 x4 x5 y7 y8 y9 s F,
  fun vs L r _ => r = some (.int (r_rule (oI L 1) (vI vs 1))))
theorem sta_X5_rule : s_Sta c_X5_rule := ⟨⟨by decide +kernel, by decide +kernel, by decide +kernel⟩, List.mem_of_getElem? (i := 493) (by decide +kernel), List.mem_of_getElem? (i := 64) (by decide +kernel), ⟨List.mem_of_getElem? (i := 491) (by decide +kernel), List.mem_of_getElem? (i := 492) (by decide +kernel), Or.inl ⟨_, rfl, rfl⟩⟩⟩

def k_X5_rule : List sBk := [
  (0, false, [true, true], [o0 0 (.iload_n 1), oN 1 (.tableswitch 111 0 7 #[47, 55, 63, 71, 79, 87, 95, 103]) [9, 1, 2, 3, 4, 5, 6, 7, 8]]),
  (48, false, [true, false], [o0 48 (.aload_n 0), oN 49 (.getfield 49) [5, 6, 304], oN 52 (.getfield 79) [0, 0, 117], o0 55 .ireturn]),
  (56, false, [true, false], [o0 56 (.aload_n 0), oN 57 (.getfield 49) [5, 6, 304], oN 60 (.getfield 82) [0, 1, 121], o0 63 .ireturn]),
  (64, false, [true, false], [o0 64 (.aload_n 0), oN 65 (.getfield 49) [5, 6, 304], oN 68 (.getfield 85) [0, 2, 123], o0 71 .ireturn]),
  (72, false, [true, false], [o0 72 (.aload_n 0), oN 73 (.getfield 49) [5, 6, 304], oN 76 (.getfield 88) [0, 3, 127], o0 79 .ireturn]),
  (80, false, [true, false], [o0 80 (.aload_n 0), oN 81 (.getfield 49) [5, 6, 304], oN 84 (.getfield 91) [0, 4, 130], o0 87 .ireturn]),
  (88, false, [true, false], [o0 88 (.aload_n 0), oN 89 (.getfield 49) [5, 6, 304], oN 92 (.getfield 94) [0, 5, 134], o0 95 .ireturn]),
  (96, false, [true, false], [o0 96 (.aload_n 0), oN 97 (.getfield 49) [5, 6, 304], oN 100 (.getfield 97) [0, 6, 136], o0 103 .ireturn]),
  (104, false, [true, false], [o0 104 (.aload_n 0), oN 105 (.getfield 49) [5, 6, 304], oN 108 (.getfield 100) [0, 15, 164], o0 111 .ireturn]),
  (112, false, [false, false], [oK 112 (.iconst (-1)) (.int (-1)), o0 113 .ireturn])]
set_option maxRecDepth 100000 in
theorem ck_X5_rule : s_ck RX5 cX5_rule 2 0 0 k_X5_rule = true := by decide +kernel

set_option maxRecDepth 100000 in
set_option maxHeartbeats 1000000 in
theorem ok_X5_rule : s_Ok c_X5_rule := by
  refine s_ok_of k_X5_rule (by decide +kernel) sta_X5_rule ck_X5_rule trivial ?_
  rintro vs L ⟨x0, x1, x2, x3, x4, x5, y7, y8, y9, s, F, x, rfl, rfl⟩
  refine ⟨rfl, fun G hG => ?_⟩
  refine hG 0 _ _ _ (And.intro ?_ ?_)
  · refine And.intro ?_ (And.intro ?_ (And.intro ?_ (And.intro ?_ (And.intro ?_ (And.intro ?_ (And.intro ?_ (And.intro ?_ trivial)))))))
    all_goals (intro h; obtain rfl := h; exact ⟨rfl, rfl, fun _ => rfl⟩)
  · intro h
    refine ⟨rfl, ?_, fun _ => rfl⟩
    show some (Value.int (-1)) = some (Value.int (r_rule s x))
    have t := fun k hk => tab_out h k hk
    rw [r_rule, if_neg (t 0 (by decide)), if_neg (t 1 (by decide)), if_neg (t 2 (by decide)), if_neg (t 3 (by decide)), if_neg (t 4 (by decide)), if_neg (t 5 (by decide)), if_neg (t 6 (by decide)), if_neg (t 7 (by decide))]
theorem p_in_ne {n : Nat} {p : Int32} (hn : n ≤ 8) (h : ¬ p_in (nI n) p = 0) : ∃ j, j < n ∧ p = nI j := by
  unfold p_in at h
  by_cases h1 : p < 0
  · rw [if_pos h1] at h; exact absurd rfl h
  · rw [if_neg h1] at h
    by_cases h2 : p < nI n
    · obtain ⟨j, hj, rfl⟩ := nI_of h1
      exact ⟨j, (nI_ltI hj (by omega)).mp h2, rfl⟩
    · rw [if_neg h2] at h; exact absurd rfl h
def r_wish (s : Nat → Int32) (F : Nat → Nat → Int32) (w x : Int32) : Int32 := if p_in (s 1) w = 0 then -1 else if x = 0 then F 1 w.toNatClampNeg else if x = 1 then F 2 w.toNatClampNeg else if x = 2 then F 3 w.toNatClampNeg else if x = 3 then F 4 w.toNatClampNeg else if x = 4 then F 5 w.toNatClampNeg else if x = 5 then F 6 w.toNatClampNeg else if x = 6 then F 7 w.toNatClampNeg else -1
def c_X5_wish : sCtr := ((yX5_wish, cX5_wish, 3, (some .int)), (6, 2, 1, 21), true,
  w1fp,
  fun vs L => ∃ (x0 x1 x2 x3 x4 x5 : Nat) (y7 y8 y9 : Int32) (s : Nat → Int32) (F : Nat → Nat → Int32) (w x : Int32) (n : Nat), vs = [.ref 0, .int w, .int x] ∧ L = w1 x0 x1 x2 x3 x4 x5 y7 y8 y9 s F ∧ s 1 = nI n ∧ n ≤ 8,
  fun vs L r _ => r = some (.int (r_wish (oI L 1) (bG 1 L) (vI vs 1) (vI vs 2))))
theorem sta_X5_wish : s_Sta c_X5_wish := ⟨⟨by decide +kernel, by decide +kernel, by decide +kernel⟩, List.mem_of_getElem? (i := 497) (by decide +kernel), List.mem_of_getElem? (i := 64) (by decide +kernel), ⟨List.mem_of_getElem? (i := 495) (by decide +kernel), List.mem_of_getElem? (i := 496) (by decide +kernel), Or.inl ⟨_, rfl, rfl⟩⟩⟩

def k_X5_wish : List sBk := [
  (0, false, [true, true, true], [o0 0 (.aload_n 0), oN 1 (.getfield 49) [5, 6, 304], o0 4 (.iload_n 1), oC 5 (.invokevirtual 103) [498] c_X0_hasWish, oN 8 (.ifCond .ne 5) [1], oK 11 (.iconst (-1)) (.int (-1)), o0 12 .ireturn]),
  (13, false, [true, true, true], [o0 13 (.iload_n 2), oN 14 (.tableswitch 112 0 6 #[42, 52, 62, 72, 82, 92, 102]) [9, 2, 3, 4, 5, 6, 7, 8]]),
  (56, false, [true, true, false], [o0 56 (.aload_n 0), oN 57 (.getfield 49) [5, 6, 304], oN 60 (.getfield 107) [0, 7, 139], o0 63 (.iload_n 1), o0 64 .iaload, o0 65 .ireturn]),
  (66, false, [true, true, false], [o0 66 (.aload_n 0), oN 67 (.getfield 49) [5, 6, 304], oN 70 (.getfield 110) [0, 8, 142], o0 73 (.iload_n 1), o0 74 .iaload, o0 75 .ireturn]),
  (76, false, [true, true, false], [o0 76 (.aload_n 0), oN 77 (.getfield 49) [5, 6, 304], oN 80 (.getfield 113) [0, 9, 146], o0 83 (.iload_n 1), o0 84 .iaload, o0 85 .ireturn]),
  (86, false, [true, true, false], [o0 86 (.aload_n 0), oN 87 (.getfield 49) [5, 6, 304], oN 90 (.getfield 116) [0, 10, 149], o0 93 (.iload_n 1), o0 94 .iaload, o0 95 .ireturn]),
  (96, false, [true, true, false], [o0 96 (.aload_n 0), oN 97 (.getfield 49) [5, 6, 304], oN 100 (.getfield 119) [0, 11, 152], o0 103 (.iload_n 1), o0 104 .iaload, o0 105 .ireturn]),
  (106, false, [true, true, false], [o0 106 (.aload_n 0), oN 107 (.getfield 49) [5, 6, 304], oN 110 (.getfield 122) [0, 12, 156], o0 113 (.iload_n 1), o0 114 .iaload, o0 115 .ireturn]),
  (116, false, [true, true, false], [o0 116 (.aload_n 0), oN 117 (.getfield 49) [5, 6, 304], oN 120 (.getfield 125) [0, 13, 159], o0 123 (.iload_n 1), o0 124 .iaload, o0 125 .ireturn]),
  (126, false, [false, false, false], [oK 126 (.iconst (-1)) (.int (-1)), o0 127 .ireturn])]
set_option maxRecDepth 100000 in
theorem ck_X5_wish : s_ck RX5 cX5_wish 3 1 21 k_X5_wish = true := by decide +kernel

set_option maxRecDepth 100000 in
set_option maxHeartbeats 1000000 in
theorem ok_X5_wish : s_Ok c_X5_wish := by
  refine s_ok_of k_X5_wish (by decide +kernel) sta_X5_wish ck_X5_wish (And.intro ok_X0_hasWish trivial) ?_
  rintro vs L ⟨x0, x1, x2, x3, x4, x5, y7, y8, y9, s, F, w, x, n, rfl, rfl, hn, hn8⟩
  refine ⟨rfl, fun G hG => ?_⟩
  have fin : ∀ a : Int32, a = r_wish s F w x → s_PP (some .int) true c_X5_wish.2.2.2.2.2 [.ref 0, .int w, .int x] (w1 x0 x1 x2 x3 x4 x5 y7 y8 y9 s F) (some (.int a)) (w1 x0 x1 x2 x3 x4 x5 y7 y8 y9 s F) := fun a ha => ⟨rfl, by rw [ha]; rfl, fun _ => rfl⟩
  refine hG 0 _ _ _ (And.intro ⟨_, _, _, _, rfl, rfl⟩ ?_)
  intro r hr
  obtain rfl : r = some (.int (p_in (s 1) w)) := hr
  refine And.intro (fun h => ?_) (fun h => ?_)
  · exact fin _ (by rw [r_wish, if_pos h])
  · have h' := h
    rw [hn] at h
    obtain ⟨j, hj, rfl⟩ := p_in_ne hn8 h
    have hin : vp_in (nI j) 8 := vp_in_nI (by omega) (by omega)
    refine And.intro ?_ ?_
    · refine And.intro ?_ (And.intro ?_ (And.intro ?_ (And.intro ?_ (And.intro ?_ (And.intro ?_ (And.intro ?_ trivial))))))
      all_goals (intro hx; obtain rfl := hx; exact And.intro hin (fin _ (by rw [r_wish, if_neg h']; rfl)))
    · intro hx
      have t := fun k hk => tab_out hx k hk
      exact fin _ (by rw [r_wish, if_neg h', if_neg (t 0 (by decide)), if_neg (t 1 (by decide)), if_neg (t 2 (by decide)), if_neg (t 3 (by decide)), if_neg (t 4 (by decide)), if_neg (t 5 (by decide)), if_neg (t 6 (by decide))])
def r_plan (s : Nat → Int32) (F : Nat → Nat → Int32) (i : Int32) : Int32 := if i < 0 then -1 else if i < s 15 then F 8 i.toNatClampNeg else -1
def c_X5_plan : sCtr := ((yX5_plan, cX5_plan, 2, (some .int)), (6, 1, 0, 0), true,
  w1fp,
  fun vs L => ∃ (x0 x1 x2 x3 x4 x5 : Nat) (y7 y8 y9 : Int32) (s : Nat → Int32) (F : Nat → Nat → Int32) (i : Int32) (n : Nat), vs = [.ref 0, .int i] ∧ L = w1 x0 x1 x2 x3 x4 x5 y7 y8 y9 s F ∧ s 15 = nI n ∧ n ≤ 6,
  fun vs L r _ => r = some (.int (r_plan (oI L 1) (bG 1 L) (vI vs 1))))
theorem sta_X5_plan : s_Sta c_X5_plan := ⟨⟨by decide +kernel, by decide +kernel, by decide +kernel⟩, List.mem_of_getElem? (i := 505) (by decide +kernel), List.mem_of_getElem? (i := 64) (by decide +kernel), ⟨List.mem_of_getElem? (i := 503) (by decide +kernel), List.mem_of_getElem? (i := 504) (by decide +kernel), Or.inl ⟨_, rfl, rfl⟩⟩⟩

def k_X5_plan : List sBk := [
  (0, false, [true, true], [o0 0 (.iload_n 1), oN 1 (.ifCond .lt 14) [1], o0 4 (.iload_n 1), o0 5 (.aload_n 0), oN 6 (.getfield 49) [5, 6, 304], oN 9 (.getfield 100) [0, 15, 164], oN 12 (.if_icmp .lt 7) [2], oN 15 .nop [1]]),
  (15, false, [false, false], [oK 15 (.iconst (-1)) (.int (-1)), oN 16 (.goto 12) [3]]),
  (19, false, [true, true], [o0 19 (.aload_n 0), oN 20 (.getfield 49) [5, 6, 304], oN 23 (.getfield 128) [0, 14, 161], o0 26 (.iload_n 1), o0 27 .iaload, oN 28 .nop [3]]),
  (28, false, [false, false], [o0 28 .ireturn])]
set_option maxRecDepth 100000 in
theorem ck_X5_plan : s_ck RX5 cX5_plan 2 0 0 k_X5_plan = true := by decide +kernel

set_option maxRecDepth 100000 in
set_option maxHeartbeats 1000000 in
theorem ok_X5_plan : s_Ok c_X5_plan := by
  refine s_ok_of k_X5_plan (by decide +kernel) sta_X5_plan ck_X5_plan trivial ?_
  rintro vs L ⟨x0, x1, x2, x3, x4, x5, y7, y8, y9, s, F, i, n, rfl, rfl, hn, hn8⟩
  refine ⟨rfl, fun G hG => ?_⟩
  have fin : ∀ a : Int32, a = r_plan s F i → s_PP (some .int) true c_X5_plan.2.2.2.2.2 [.ref 0, .int i] (w1 x0 x1 x2 x3 x4 x5 y7 y8 y9 s F) (some (.int a)) (w1 x0 x1 x2 x3 x4 x5 y7 y8 y9 s F) := fun a ha => ⟨rfl, by rw [ha]; rfl, fun _ => rfl⟩
  refine hG 0 _ _ _ (And.intro (fun h => ?_) (fun h => ?_))
  · exact fin _ (by rw [r_plan, if_pos h])
  · refine And.intro (fun h2 => ?_) (fun h2 => ?_)
    · have h2 : i < s 15 := h2
      have h3 := h2
      rw [hn] at h3
      obtain ⟨j, hj, rfl⟩ := nI_of h
      have hj2 := (nI_ltI hj (by omega)).mp h3
      exact And.intro (vp_in_nI (by omega) (by omega)) (fin _ (by rw [r_plan, if_neg h, if_pos h2]))
    · have h2 : ¬ i < s 15 := h2
      exact fin _ (by rw [r_plan, if_neg h, if_neg h2])
end
section
/-! ===== WishClerk: what is changed ===== -/
def r_bit (k y : Nat) (s : Nat → Int32) (i : Int32) : Int32 := if p_in (s y) i = 0 then -1 else (s k >>> (i &&& 31)) &&& 1
def q_bit (k y : Nat) (s : Nat → Int32) (i z : Int32) : Nat → Int32 := fun j => if p_in (s y) i = 0 then s j else upd s k (p_wb (s k) i z) j
theorem q_bit_no {k y : Nat} {s : Nat → Int32} {i z : Int32} (h : p_in (s y) i = 0) : q_bit k y s i z = s := by funext j; rw [q_bit, if_pos h]
theorem q_bit_ye {k y : Nat} {s : Nat → Int32} {i z : Int32} (h : ¬ p_in (s y) i = 0) : q_bit k y s i z = upd s k (p_wb (s k) i z) := by funext j; rw [q_bit, if_neg h]
def c_X5_live : sCtr := ((yX5_live, cX5_live, 4, (some .int)), (6, 2, 1, 22), false,
  w1fp,
  fun vs L => ∃ (x0 x1 x2 x3 x4 x5 : Nat) (y7 y8 y9 : Int32) (s : Nat → Int32) (F : Nat → Nat → Int32) (p z : Int32), vs = [.ref 0, .int p, .int z] ∧ L = w1 x0 x1 x2 x3 x4 x5 y7 y8 y9 s F,
  fun vs L r L' => r = some (.int (r_bit 3 0 (oI L 1) (vI vs 1))) ∧ L' = s_hd L :: bkK 1 (q_bit 3 0 (oI L 1) (vI vs 1) (vI vs 2)) (bG 1 L))
theorem sta_X5_live : s_Sta c_X5_live := ⟨⟨by decide +kernel, by decide +kernel, by decide +kernel⟩, List.mem_of_getElem? (i := 509) (by decide +kernel), List.mem_of_getElem? (i := 64) (by decide +kernel), ⟨List.mem_of_getElem? (i := 507) (by decide +kernel), List.mem_of_getElem? (i := 508) (by decide +kernel), Or.inl ⟨_, rfl, rfl⟩⟩⟩

def k_X5_live : List sBk := [
  (0, false, [true, true, true, false], [o0 0 (.aload_n 0), oN 1 (.getfield 49) [5, 6, 304], o0 4 (.iload_n 1), oC 5 (.invokevirtual 131) [510] c_X0_hasOne, oN 8 (.ifCond .ne 5) [1], oK 11 (.iconst (-1)) (.int (-1)), o0 12 .ireturn]),
  (13, false, [true, true, true, false], [o0 13 (.aload_n 0), oN 14 (.getfield 49) [5, 6, 304], oN 17 (.getfield 88) [0, 3, 127], o0 20 (.iload_n 1), oC 21 (.invokestatic 134) [514] c_X5_bitOf, o0 24 (.istore_n 3), o0 25 (.aload_n 0), oN 26 (.getfield 49) [5, 6, 304], o0 29 (.aload_n 0), oN 30 (.getfield 49) [5, 6, 304], oN 33 (.getfield 88) [0, 3, 127], o0 36 (.iload_n 1), o0 37 (.iload_n 2), oC 38 (.invokestatic 138) [517] c_X5_withBit, oN 41 (.putfield 88) [0, 3, 127], o0 44 (.iload_n 3), o0 45 .ireturn])]
set_option maxRecDepth 100000 in
theorem ck_X5_live : s_ck RX5 cX5_live 4 1 22 k_X5_live = true := by decide +kernel

set_option maxRecDepth 100000 in
set_option maxHeartbeats 1000000 in
theorem ok_X5_live : s_Ok c_X5_live := by
  refine s_ok_of k_X5_live (by decide +kernel) sta_X5_live ck_X5_live (And.intro ok_X0_hasOne (And.intro ok_X5_bitOf (And.intro ok_X5_withBit trivial))) ?_
  rintro vs L ⟨x0, x1, x2, x3, x4, x5, y7, y8, y9, s, F, p, z, rfl, rfl⟩
  refine ⟨rfl, fun G hG => ?_⟩
  have fin : ∀ (a : Int32) (L2 : sH), a = r_bit 3 0 s p → L2 = w1 x0 x1 x2 x3 x4 x5 y7 y8 y9 (q_bit 3 0 s p z) F → s_PP (some .int) false c_X5_live.2.2.2.2.2 [.ref 0, .int p, .int z] (w1 x0 x1 x2 x3 x4 x5 y7 y8 y9 s F) (some (.int a)) L2 := fun a L2 ha hL => ⟨rfl, ⟨by rw [ha]; rfl, by rw [hL]; rfl⟩, fun h => by cases h⟩
  refine hG 0 _ _ _ (And.intro ⟨_, _, _, rfl, rfl⟩ ?_)
  intro r hr
  obtain rfl : r = some (.int (p_in (s 0) p)) := hr
  refine And.intro (fun h => ?_) (fun h => ?_)
  · exact fin _ _ (by rw [r_bit, if_pos h]) (by rw [q_bit_no h])
  · refine And.intro ⟨_, _, rfl⟩ ?_
    intro r hr
    obtain rfl : r = some (.int ((s 3 >>> (p &&& 31)) &&& 1)) := hr
    refine And.intro ⟨_, _, _, rfl⟩ ?_
    intro r hr
    obtain rfl : r = some (.int (p_wb (s 3) p z)) := hr
    exact fin _ _ (by rw [r_bit, if_neg h]) (by rw [q_bit_ye h]; rfl)
def c_X5_bar : sCtr := ((yX5_bar, cX5_bar, 4, (some .int)), (6, 2, 1, 22), false,
  w1fp,
  fun vs L => ∃ (x0 x1 x2 x3 x4 x5 : Nat) (y7 y8 y9 : Int32) (s : Nat → Int32) (F : Nat → Nat → Int32) (p z : Int32), vs = [.ref 0, .int p, .int z] ∧ L = w1 x0 x1 x2 x3 x4 x5 y7 y8 y9 s F,
  fun vs L r L' => r = some (.int (r_bit 4 0 (oI L 1) (vI vs 1))) ∧ L' = s_hd L :: bkK 1 (q_bit 4 0 (oI L 1) (vI vs 1) (vI vs 2)) (bG 1 L))
theorem sta_X5_bar : s_Sta c_X5_bar := ⟨⟨by decide +kernel, by decide +kernel, by decide +kernel⟩, List.mem_of_getElem? (i := 521) (by decide +kernel), List.mem_of_getElem? (i := 64) (by decide +kernel), ⟨List.mem_of_getElem? (i := 519) (by decide +kernel), List.mem_of_getElem? (i := 520) (by decide +kernel), Or.inl ⟨_, rfl, rfl⟩⟩⟩

def k_X5_bar : List sBk := [
  (0, false, [true, true, true, false], [o0 0 (.aload_n 0), oN 1 (.getfield 49) [5, 6, 304], o0 4 (.iload_n 1), oC 5 (.invokevirtual 131) [510] c_X0_hasOne, oN 8 (.ifCond .ne 5) [1], oK 11 (.iconst (-1)) (.int (-1)), o0 12 .ireturn]),
  (13, false, [true, true, true, false], [o0 13 (.aload_n 0), oN 14 (.getfield 49) [5, 6, 304], oN 17 (.getfield 91) [0, 4, 130], o0 20 (.iload_n 1), oC 21 (.invokestatic 134) [514] c_X5_bitOf, o0 24 (.istore_n 3), o0 25 (.aload_n 0), oN 26 (.getfield 49) [5, 6, 304], o0 29 (.aload_n 0), oN 30 (.getfield 49) [5, 6, 304], oN 33 (.getfield 91) [0, 4, 130], o0 36 (.iload_n 1), o0 37 (.iload_n 2), oC 38 (.invokestatic 138) [517] c_X5_withBit, oN 41 (.putfield 91) [0, 4, 130], o0 44 (.iload_n 3), o0 45 .ireturn])]
set_option maxRecDepth 100000 in
theorem ck_X5_bar : s_ck RX5 cX5_bar 4 1 22 k_X5_bar = true := by decide +kernel

set_option maxRecDepth 100000 in
set_option maxHeartbeats 1000000 in
theorem ok_X5_bar : s_Ok c_X5_bar := by
  refine s_ok_of k_X5_bar (by decide +kernel) sta_X5_bar ck_X5_bar (And.intro ok_X0_hasOne (And.intro ok_X5_bitOf (And.intro ok_X5_withBit trivial))) ?_
  rintro vs L ⟨x0, x1, x2, x3, x4, x5, y7, y8, y9, s, F, p, z, rfl, rfl⟩
  refine ⟨rfl, fun G hG => ?_⟩
  have fin : ∀ (a : Int32) (L2 : sH), a = r_bit 4 0 s p → L2 = w1 x0 x1 x2 x3 x4 x5 y7 y8 y9 (q_bit 4 0 s p z) F → s_PP (some .int) false c_X5_bar.2.2.2.2.2 [.ref 0, .int p, .int z] (w1 x0 x1 x2 x3 x4 x5 y7 y8 y9 s F) (some (.int a)) L2 := fun a L2 ha hL => ⟨rfl, ⟨by rw [ha]; rfl, by rw [hL]; rfl⟩, fun h => by cases h⟩
  refine hG 0 _ _ _ (And.intro ⟨_, _, _, rfl, rfl⟩ ?_)
  intro r hr
  obtain rfl : r = some (.int (p_in (s 0) p)) := hr
  refine And.intro (fun h => ?_) (fun h => ?_)
  · exact fin _ _ (by rw [r_bit, if_pos h]) (by rw [q_bit_no h])
  · refine And.intro ⟨_, _, rfl⟩ ?_
    intro r hr
    obtain rfl : r = some (.int ((s 4 >>> (p &&& 31)) &&& 1)) := hr
    refine And.intro ⟨_, _, _, rfl⟩ ?_
    intro r hr
    obtain rfl : r = some (.int (p_wb (s 4) p z)) := hr
    exact fin _ _ (by rw [r_bit, if_neg h]) (by rw [q_bit_ye h]; rfl)
def c_X5_list : sCtr := ((yX5_list, cX5_list, 4, (some .int)), (6, 2, 1, 22), false,
  w1fp,
  fun vs L => ∃ (x0 x1 x2 x3 x4 x5 : Nat) (y7 y8 y9 : Int32) (s : Nat → Int32) (F : Nat → Nat → Int32) (p z : Int32), vs = [.ref 0, .int p, .int z] ∧ L = w1 x0 x1 x2 x3 x4 x5 y7 y8 y9 s F,
  fun vs L r L' => r = some (.int (r_bit 6 1 (oI L 1) (vI vs 1))) ∧ L' = s_hd L :: bkK 1 (q_bit 6 1 (oI L 1) (vI vs 1) (vI vs 2)) (bG 1 L))
theorem sta_X5_list : s_Sta c_X5_list := ⟨⟨by decide +kernel, by decide +kernel, by decide +kernel⟩, List.mem_of_getElem? (i := 525) (by decide +kernel), List.mem_of_getElem? (i := 64) (by decide +kernel), ⟨List.mem_of_getElem? (i := 523) (by decide +kernel), List.mem_of_getElem? (i := 524) (by decide +kernel), Or.inl ⟨_, rfl, rfl⟩⟩⟩

def k_X5_list : List sBk := [
  (0, false, [true, true, true, false], [o0 0 (.aload_n 0), oN 1 (.getfield 49) [5, 6, 304], o0 4 (.iload_n 1), oC 5 (.invokevirtual 103) [498] c_X0_hasWish, oN 8 (.ifCond .ne 5) [1], oK 11 (.iconst (-1)) (.int (-1)), o0 12 .ireturn]),
  (13, false, [true, true, true, false], [o0 13 (.aload_n 0), oN 14 (.getfield 49) [5, 6, 304], oN 17 (.getfield 97) [0, 6, 136], o0 20 (.iload_n 1), oC 21 (.invokestatic 134) [514] c_X5_bitOf, o0 24 (.istore_n 3), o0 25 (.aload_n 0), oN 26 (.getfield 49) [5, 6, 304], o0 29 (.aload_n 0), oN 30 (.getfield 49) [5, 6, 304], oN 33 (.getfield 97) [0, 6, 136], o0 36 (.iload_n 1), o0 37 (.iload_n 2), oC 38 (.invokestatic 138) [517] c_X5_withBit, oN 41 (.putfield 97) [0, 6, 136], o0 44 (.iload_n 3), o0 45 .ireturn])]
set_option maxRecDepth 100000 in
theorem ck_X5_list : s_ck RX5 cX5_list 4 1 22 k_X5_list = true := by decide +kernel

set_option maxRecDepth 100000 in
set_option maxHeartbeats 1000000 in
theorem ok_X5_list : s_Ok c_X5_list := by
  refine s_ok_of k_X5_list (by decide +kernel) sta_X5_list ck_X5_list (And.intro ok_X0_hasWish (And.intro ok_X5_bitOf (And.intro ok_X5_withBit trivial))) ?_
  rintro vs L ⟨x0, x1, x2, x3, x4, x5, y7, y8, y9, s, F, p, z, rfl, rfl⟩
  refine ⟨rfl, fun G hG => ?_⟩
  have fin : ∀ (a : Int32) (L2 : sH), a = r_bit 6 1 s p → L2 = w1 x0 x1 x2 x3 x4 x5 y7 y8 y9 (q_bit 6 1 s p z) F → s_PP (some .int) false c_X5_list.2.2.2.2.2 [.ref 0, .int p, .int z] (w1 x0 x1 x2 x3 x4 x5 y7 y8 y9 s F) (some (.int a)) L2 := fun a L2 ha hL => ⟨rfl, ⟨by rw [ha]; rfl, by rw [hL]; rfl⟩, fun h => by cases h⟩
  refine hG 0 _ _ _ (And.intro ⟨_, _, _, _, rfl, rfl⟩ ?_)
  intro r hr
  obtain rfl : r = some (.int (p_in (s 1) p)) := hr
  refine And.intro (fun h => ?_) (fun h => ?_)
  · exact fin _ _ (by rw [r_bit, if_pos h]) (by rw [q_bit_no h])
  · refine And.intro ⟨_, _, rfl⟩ ?_
    intro r hr
    obtain rfl : r = some (.int ((s 6 >>> (p &&& 31)) &&& 1)) := hr
    refine And.intro ⟨_, _, _, rfl⟩ ?_
    intro r hr
    obtain rfl : r = some (.int (p_wb (s 6) p z)) := hr
    exact fin _ _ (by rw [r_bit, if_neg h]) (by rw [q_bit_ye h]; rfl)
/-- a number between 0 and y (y too) takes a field's place -/
def r_cut (k : Nat) (y : Int32) (s : Nat → Int32) (i : Int32) : Int32 := if i < 0 then -1 else if y < i then -1 else s k
def q_cut (k : Nat) (y : Int32) (s : Nat → Int32) (i : Int32) : Nat → Int32 := fun j => if i < 0 then s j else if y < i then s j else upd s k i j
def c_X5_depth : sCtr := ((yX5_depth, cX5_depth, 3, (some .int)), (6, 1, 0, 0), false,
  w1fp,
  fun vs L => ∃ (x0 x1 x2 x3 x4 x5 : Nat) (y7 y8 y9 : Int32) (s : Nat → Int32) (F : Nat → Nat → Int32) (i : Int32), vs = [.ref 0, .int i] ∧ L = w1 x0 x1 x2 x3 x4 x5 y7 y8 y9 s F,
  fun vs L r L' => r = some (.int (r_cut 2 8 (oI L 1) (vI vs 1))) ∧ L' = s_hd L :: bkK 1 (q_cut 2 8 (oI L 1) (vI vs 1)) (bG 1 L))
theorem sta_X5_depth : s_Sta c_X5_depth := ⟨⟨by decide +kernel, by decide +kernel, by decide +kernel⟩, List.mem_of_getElem? (i := 529) (by decide +kernel), List.mem_of_getElem? (i := 64) (by decide +kernel), ⟨List.mem_of_getElem? (i := 527) (by decide +kernel), List.mem_of_getElem? (i := 528) (by decide +kernel), Or.inl ⟨_, rfl, rfl⟩⟩⟩

def k_X5_depth : List sBk := [
  (0, false, [true, true, false], [o0 0 (.iload_n 1), oN 1 (.ifCond .lt 9) [1], o0 4 (.iload_n 1), oK 5 (.bipush 8) (.int 8), oN 7 (.if_icmp .le 5) [2], oN 10 .nop [1]]),
  (10, false, [false, false, false], [oK 10 (.iconst (-1)) (.int (-1)), o0 11 .ireturn]),
  (12, false, [true, true, false], [o0 12 (.aload_n 0), oN 13 (.getfield 49) [5, 6, 304], oN 16 (.getfield 85) [0, 2, 123], o0 19 (.istore_n 2), o0 20 (.aload_n 0), oN 21 (.getfield 49) [5, 6, 304], o0 24 (.iload_n 1), oN 25 (.putfield 85) [0, 2, 123], o0 28 (.iload_n 2), o0 29 .ireturn])]
set_option maxRecDepth 100000 in
theorem ck_X5_depth : s_ck RX5 cX5_depth 3 0 0 k_X5_depth = true := by decide +kernel

set_option maxRecDepth 100000 in
set_option maxHeartbeats 1000000 in
theorem ok_X5_depth : s_Ok c_X5_depth := by
  refine s_ok_of k_X5_depth (by decide +kernel) sta_X5_depth ck_X5_depth trivial ?_
  rintro vs L ⟨x0, x1, x2, x3, x4, x5, y7, y8, y9, s, F, i, rfl, rfl⟩
  refine ⟨rfl, fun G hG => ?_⟩
  have fin : ∀ (a : Int32) (L2 : sH), a = r_cut 2 8 s i → L2 = w1 x0 x1 x2 x3 x4 x5 y7 y8 y9 (q_cut 2 8 s i) F → s_PP (some .int) false c_X5_depth.2.2.2.2.2 [.ref 0, .int i] (w1 x0 x1 x2 x3 x4 x5 y7 y8 y9 s F) (some (.int a)) L2 := fun a L2 ha hL => ⟨rfl, ⟨by rw [ha]; rfl, by rw [hL]; rfl⟩, fun h => by cases h⟩
  refine hG 0 _ _ _ (And.intro (fun h => ?_) (fun h => ?_))
  · exact fin _ _ (by rw [r_cut, if_pos h]) (by rw [show q_cut 2 8 s i = s by funext j; rw [q_cut, if_pos h]])
  · refine And.intro (fun h2 => ?_) (fun h2 => ?_)
    · exact fin _ _ (by rw [r_cut, if_neg h, if_pos h2]) (by rw [show q_cut 2 8 s i = s by funext j; rw [q_cut, if_neg h, if_pos h2]])
    · exact fin _ _ (by rw [r_cut, if_neg h, if_neg h2]) (by rw [show q_cut 2 8 s i = upd s 2 i by funext j; rw [q_cut, if_neg h, if_neg h2]]; rfl)
def c_X5_cut : sCtr := ((yX5_cut, cX5_cut, 3, (some .int)), (6, 1, 0, 0), false,
  w1fp,
  fun vs L => ∃ (x0 x1 x2 x3 x4 x5 : Nat) (y7 y8 y9 : Int32) (s : Nat → Int32) (F : Nat → Nat → Int32) (i : Int32), vs = [.ref 0, .int i] ∧ L = w1 x0 x1 x2 x3 x4 x5 y7 y8 y9 s F,
  fun vs L r L' => r = some (.int (r_cut 15 (oI L 1 15) (oI L 1) (vI vs 1))) ∧ L' = s_hd L :: bkK 1 (q_cut 15 (oI L 1 15) (oI L 1) (vI vs 1)) (bG 1 L))
theorem sta_X5_cut : s_Sta c_X5_cut := ⟨⟨by decide +kernel, by decide +kernel, by decide +kernel⟩, List.mem_of_getElem? (i := 555) (by decide +kernel), List.mem_of_getElem? (i := 64) (by decide +kernel), ⟨List.mem_of_getElem? (i := 553) (by decide +kernel), List.mem_of_getElem? (i := 554) (by decide +kernel), Or.inl ⟨_, rfl, rfl⟩⟩⟩

def k_X5_cut : List sBk := [
  (0, false, [true, true, false], [o0 0 (.iload_n 1), oN 1 (.ifCond .lt 14) [1], o0 4 (.iload_n 1), o0 5 (.aload_n 0), oN 6 (.getfield 49) [5, 6, 304], oN 9 (.getfield 100) [0, 15, 164], oN 12 (.if_icmp .le 5) [2], oN 15 .nop [1]]),
  (15, false, [false, false, false], [oK 15 (.iconst (-1)) (.int (-1)), o0 16 .ireturn]),
  (17, false, [true, true, false], [o0 17 (.aload_n 0), oN 18 (.getfield 49) [5, 6, 304], oN 21 (.getfield 100) [0, 15, 164], o0 24 (.istore_n 2), o0 25 (.aload_n 0), oN 26 (.getfield 49) [5, 6, 304], o0 29 (.iload_n 1), oN 30 (.putfield 100) [0, 15, 164], o0 33 (.iload_n 2), o0 34 .ireturn])]
set_option maxRecDepth 100000 in
theorem ck_X5_cut : s_ck RX5 cX5_cut 3 0 0 k_X5_cut = true := by decide +kernel

set_option maxRecDepth 100000 in
set_option maxHeartbeats 1000000 in
theorem ok_X5_cut : s_Ok c_X5_cut := by
  refine s_ok_of k_X5_cut (by decide +kernel) sta_X5_cut ck_X5_cut trivial ?_
  rintro vs L ⟨x0, x1, x2, x3, x4, x5, y7, y8, y9, s, F, i, rfl, rfl⟩
  refine ⟨rfl, fun G hG => ?_⟩
  have fin : ∀ (a : Int32) (L2 : sH), a = r_cut 15 (s 15) s i → L2 = w1 x0 x1 x2 x3 x4 x5 y7 y8 y9 (q_cut 15 (s 15) s i) F → s_PP (some .int) false c_X5_cut.2.2.2.2.2 [.ref 0, .int i] (w1 x0 x1 x2 x3 x4 x5 y7 y8 y9 s F) (some (.int a)) L2 := fun a L2 ha hL => ⟨rfl, ⟨by rw [ha]; rfl, by rw [hL]; rfl⟩, fun h => by cases h⟩
  refine hG 0 _ _ _ (And.intro (fun h => ?_) (fun h => ?_))
  · exact fin _ _ (by rw [r_cut, if_pos h]) (by rw [show q_cut 15 (s 15) s i = s by funext j; rw [q_cut, if_pos h]])
  · refine And.intro (fun h2 => ?_) (fun h2 => ?_)
    · have h2 : s 15 < i := h2
      exact fin _ _ (by rw [r_cut, if_neg h, if_pos h2]) (by rw [show q_cut 15 (s 15) s i = s by funext j; rw [q_cut, if_neg h, if_pos h2]])
    · have h2 : ¬ s 15 < i := h2
      exact fin _ _ (by rw [r_cut, if_neg h, if_neg h2]) (by rw [show q_cut 15 (s 15) s i = upd s 15 i by funext j; rw [q_cut, if_neg h, if_neg h2]]; rfl)
def c_X5_forget : sCtr := ((yX5_forget, cX5_forget, 3, (some .int)), (6, 1, 0, 0), false,
  w1fp,
  fun vs L => ∃ (x0 x1 x2 x3 x4 x5 : Nat) (y7 y8 y9 : Int32) (s : Nat → Int32) (F : Nat → Nat → Int32) (i : Int32), vs = [.ref 0, .int i] ∧ L = w1 x0 x1 x2 x3 x4 x5 y7 y8 y9 s F,
  fun vs L r L' => r = some (.int (r_cut 18 (oI L 1 18) (oI L 1) (vI vs 1))) ∧ L' = s_hd L :: bkK 1 (q_cut 18 (oI L 1 18) (oI L 1) (vI vs 1)) (bG 1 L))
theorem sta_X5_forget : s_Sta c_X5_forget := ⟨⟨by decide +kernel, by decide +kernel, by decide +kernel⟩, List.mem_of_getElem? (i := 721) (by decide +kernel), List.mem_of_getElem? (i := 64) (by decide +kernel), ⟨List.mem_of_getElem? (i := 719) (by decide +kernel), List.mem_of_getElem? (i := 720) (by decide +kernel), Or.inl ⟨_, rfl, rfl⟩⟩⟩

def k_X5_forget : List sBk := [
  (0, false, [true, true, false], [o0 0 (.iload_n 1), oN 1 (.ifCond .lt 14) [1], o0 4 (.iload_n 1), o0 5 (.aload_n 0), oN 6 (.getfield 49) [5, 6, 304], oN 9 (.getfield 220) [0, 18, 171], oN 12 (.if_icmp .le 5) [2], oN 15 .nop [1]]),
  (15, false, [false, false, false], [oK 15 (.iconst (-1)) (.int (-1)), o0 16 .ireturn]),
  (17, false, [true, true, false], [o0 17 (.aload_n 0), oN 18 (.getfield 49) [5, 6, 304], oN 21 (.getfield 220) [0, 18, 171], o0 24 (.istore_n 2), o0 25 (.aload_n 0), oN 26 (.getfield 49) [5, 6, 304], o0 29 (.iload_n 1), oN 30 (.putfield 220) [0, 18, 171], o0 33 (.iload_n 2), o0 34 .ireturn])]
set_option maxRecDepth 100000 in
theorem ck_X5_forget : s_ck RX5 cX5_forget 3 0 0 k_X5_forget = true := by decide +kernel

set_option maxRecDepth 100000 in
set_option maxHeartbeats 1000000 in
theorem ok_X5_forget : s_Ok c_X5_forget := by
  refine s_ok_of k_X5_forget (by decide +kernel) sta_X5_forget ck_X5_forget trivial ?_
  rintro vs L ⟨x0, x1, x2, x3, x4, x5, y7, y8, y9, s, F, i, rfl, rfl⟩
  refine ⟨rfl, fun G hG => ?_⟩
  have fin : ∀ (a : Int32) (L2 : sH), a = r_cut 18 (s 18) s i → L2 = w1 x0 x1 x2 x3 x4 x5 y7 y8 y9 (q_cut 18 (s 18) s i) F → s_PP (some .int) false c_X5_forget.2.2.2.2.2 [.ref 0, .int i] (w1 x0 x1 x2 x3 x4 x5 y7 y8 y9 s F) (some (.int a)) L2 := fun a L2 ha hL => ⟨rfl, ⟨by rw [ha]; rfl, by rw [hL]; rfl⟩, fun h => by cases h⟩
  refine hG 0 _ _ _ (And.intro (fun h => ?_) (fun h => ?_))
  · exact fin _ _ (by rw [r_cut, if_pos h]) (by rw [show q_cut 18 (s 18) s i = s by funext j; rw [q_cut, if_pos h]])
  · refine And.intro (fun h2 => ?_) (fun h2 => ?_)
    · have h2 : s 18 < i := h2
      exact fin _ _ (by rw [r_cut, if_neg h, if_pos h2]) (by rw [show q_cut 18 (s 18) s i = s by funext j; rw [q_cut, if_neg h, if_pos h2]])
    · have h2 : ¬ s 18 < i := h2
      exact fin _ _ (by rw [r_cut, if_neg h, if_neg h2]) (by rw [show q_cut 18 (s 18) s i = upd s 18 i by funext j; rw [q_cut, if_neg h, if_neg h2]]; rfl)
end
section
/-! ===== WishClerk: what wishes need, the plan, what is seen, asked, taken ===== -/
def p_wof (s : Nat → Int32) (F : Nat → Nat → Int32) : Nat → Nat → Int32 := va_up (va_up F 6 (p_fi (p_fo (F 4) (s 1).toNatClampNeg) (F 6) (s 1).toNatClampNeg)) 7 (p_fi (p_wa (F 3) (F 4) (s 1).toNatClampNeg) (F 7) (s 1).toNatClampNeg)
def r_asks (s : Nat → Int32) (F : Nat → Nat → Int32) (w p : Int32) : Int32 := if p_in (s 1) w = 0 then -1 else if p_in (s 0) p = 0 then -1 else (F 3 w.toNatClampNeg >>> (p &&& 31)) &&& 1
def q_asks (s : Nat → Int32) (F : Nat → Nat → Int32) (w p z : Int32) : Nat → Nat → Int32 := fun i => if p_in (s 1) w = 0 then F i else if p_in (s 0) p = 0 then F i else p_wof s (va_up F 3 (upd (F 3) w.toNatClampNeg (p_wb (F 3 w.toNatClampNeg) p z))) i
def c_X5_asks : sCtr := ((yX5_asks, cX5_asks, 5, (some .int)), (6, 3, 4, 92), false,
  w1fp,
  fun vs L => ∃ (x0 x1 x2 x3 x4 x5 : Nat) (y7 y8 y9 : Int32) (s : Nat → Int32) (F : Nat → Nat → Int32) (w p z : Int32) (n : Nat), vs = [.ref 0, .int w, .int p, .int z] ∧ L = w1 x0 x1 x2 x3 x4 x5 y7 y8 y9 s F ∧ s 1 = nI n ∧ n ≤ 8,
  fun vs L r L' => r = some (.int (r_asks (oI L 1) (bG 1 L) (vI vs 1) (vI vs 2))) ∧ L' = s_hd L :: bkK 1 (oI L 1) (q_asks (oI L 1) (bG 1 L) (vI vs 1) (vI vs 2) (vI vs 3)))
theorem sta_X5_asks : s_Sta c_X5_asks := ⟨⟨by decide +kernel, by decide +kernel, by decide +kernel⟩, List.mem_of_getElem? (i := 533) (by decide +kernel), List.mem_of_getElem? (i := 64) (by decide +kernel), ⟨List.mem_of_getElem? (i := 531) (by decide +kernel), List.mem_of_getElem? (i := 532) (by decide +kernel), Or.inl ⟨_, rfl, rfl⟩⟩⟩

def k_X5_asks : List sBk := [
  (0, false, [true, true, true, true, false], [o0 0 (.aload_n 0), oN 1 (.getfield 49) [5, 6, 304], o0 4 (.iload_n 1), oC 5 (.invokevirtual 103) [498] c_X0_hasWish, oN 8 (.ifCond .eq 14) [1], o0 11 (.aload_n 0), oN 12 (.getfield 49) [5, 6, 304], o0 15 (.iload_n 2), oC 16 (.invokevirtual 131) [510] c_X0_hasOne, oN 19 (.ifCond .ne 5) [2], oN 22 .nop [1]]),
  (22, false, [false, false, false, false, false], [oK 22 (.iconst (-1)) (.int (-1)), o0 23 .ireturn]),
  (24, false, [true, true, true, true, false], [o0 24 (.aload_n 0), oN 25 (.getfield 49) [5, 6, 304], oN 28 (.getfield 113) [0, 9, 146], o0 31 (.iload_n 1), o0 32 .iaload, o0 33 (.iload_n 2), oC 34 (.invokestatic 134) [514] c_X5_bitOf, o0 37 (.istore 4), o0 39 (.aload_n 0), oN 40 (.getfield 49) [5, 6, 304], oN 43 (.getfield 113) [0, 9, 146], o0 46 (.iload_n 1), o0 47 (.aload_n 0), oN 48 (.getfield 49) [5, 6, 304], oN 51 (.getfield 113) [0, 9, 146], o0 54 (.iload_n 1), o0 55 .iaload, o0 56 (.iload_n 2), o0 57 (.iload_n 3), oC 58 (.invokestatic 138) [517] c_X5_withBit, o0 61 .iastore, o0 62 (.aload_n 0), oN 63 (.getfield 49) [5, 6, 304], oC 66 (.invokevirtual 142) [534] c_X0_workOutFollowers, o0 69 (.iload 4), o0 71 .ireturn])]
set_option maxRecDepth 100000 in
theorem ck_X5_asks : s_ck RX5 cX5_asks 5 4 92 k_X5_asks = true := by decide +kernel

set_option maxRecDepth 100000 in
set_option maxHeartbeats 1000000 in
theorem ok_X5_asks : s_Ok c_X5_asks := by
  refine s_ok_of k_X5_asks (by decide +kernel) sta_X5_asks ck_X5_asks (And.intro ok_X0_hasWish (And.intro ok_X0_hasOne (And.intro ok_X5_bitOf (And.intro ok_X5_withBit (And.intro ok_X0_workOutFollowers trivial))))) ?_
  rintro vs L ⟨x0, x1, x2, x3, x4, x5, y7, y8, y9, s, F, w, p, z, n, rfl, rfl, hn, hn8⟩
  refine ⟨rfl, fun G hG => ?_⟩
  have fin : ∀ (a : Int32) (L2 : sH), a = r_asks s F w p → L2 = w1 x0 x1 x2 x3 x4 x5 y7 y8 y9 s (q_asks s F w p z) → s_PP (some .int) false c_X5_asks.2.2.2.2.2 [.ref 0, .int w, .int p, .int z] (w1 x0 x1 x2 x3 x4 x5 y7 y8 y9 s F) (some (.int a)) L2 := fun a L2 ha hL => ⟨rfl, ⟨by rw [ha]; rfl, by rw [hL]; rfl⟩, fun h => by cases h⟩
  refine hG 0 _ _ _ (And.intro ⟨_, _, _, _, rfl, rfl⟩ ?_)
  intro r hr
  obtain rfl : r = some (.int (p_in (s 1) w)) := hr
  refine And.intro (fun h => ?_) (fun h => ?_)
  · exact fin _ _ (by rw [r_asks, if_pos h]) (by rw [show q_asks s F w p z = F by funext j; rw [q_asks, if_pos h]])
  · refine And.intro ⟨_, _, _, rfl, rfl⟩ ?_
    intro r hr
    obtain rfl : r = some (.int (p_in (s 0) p)) := hr
    refine And.intro (fun h2 => ?_) (fun h2 => ?_)
    · exact fin _ _ (by rw [r_asks, if_neg h, if_pos h2]) (by rw [show q_asks s F w p z = F by funext j; rw [q_asks, if_neg h, if_pos h2]])
    · have hw : vp_in w 8 := by
        have h3 := h
        rw [hn] at h3
        obtain ⟨j, hj, rfl⟩ := p_in_ne hn8 h3
        exact vp_in_nI (by omega) (by omega)
      refine And.intro hw (And.intro ⟨_, _, rfl⟩ ?_)
      intro r hr
      obtain rfl : r = some (.int ((F 3 w.toNatClampNeg >>> (p &&& 31)) &&& 1)) := hr
      refine And.intro hw (And.intro ⟨_, _, _, rfl⟩ ?_)
      intro r hr
      obtain rfl : r = some (.int (p_wb (F 3 w.toNatClampNeg) p z)) := hr
      refine And.intro hw (And.intro ⟨s, va_up F 3 (upd (F 3) w.toNatClampNeg (p_wb (F 3 w.toNatClampNeg) p z)), n, rfl, rfl, hn, hn8⟩ ?_)
      rintro r L' ⟨rfl, hL⟩
      obtain rfl : L' = bkW s (p_wof s (va_up F 3 (upd (F 3) w.toNatClampNeg (p_wb (F 3 w.toNatClampNeg) p z)))) := hL
      exact fin _ _ (by rw [r_asks, if_neg h, if_neg h2]) (by rw [show q_asks s F w p z = p_wof s (va_up F 3 (upd (F 3) w.toNatClampNeg (p_wb (F 3 w.toNatClampNeg) p z))) by funext j; rw [q_asks, if_neg h, if_neg h2]]; rfl)
def r_needs (s : Nat → Int32) (F : Nat → Nat → Int32) (w v : Int32) : Int32 := if p_two (s 1) w v = 0 then -1 else (F 4 w.toNatClampNeg >>> (v &&& 31)) &&& 1
def q_needs (s : Nat → Int32) (F : Nat → Nat → Int32) (w v z : Int32) : Nat → Nat → Int32 := fun i => if p_two (s 1) w v = 0 then F i else p_wof s (va_up F 4 (upd (F 4) w.toNatClampNeg (p_wb (F 4 w.toNatClampNeg) v z))) i
theorem p_two_ne {n : Nat} {w v : Int32} (hn : n ≤ 8) (h : ¬ p_two (nI n) w v = 0) : ∃ i j, i < n ∧ j < n ∧ w = nI i ∧ v = nI j ∧ i ≠ j := by
  unfold p_two at h
  by_cases h1 : p_in (nI n) w = 0
  · rw [if_pos h1] at h; exact absurd rfl h
  · rw [if_neg h1] at h
    by_cases h2 : p_in (nI n) v = 0
    · rw [if_pos h2] at h; exact absurd rfl h
    · rw [if_neg h2] at h
      obtain ⟨i, hi, rfl⟩ := p_in_ne hn h1
      obtain ⟨j, hj, rfl⟩ := p_in_ne hn h2
      refine ⟨i, j, hi, hj, rfl, rfl, fun e => h ?_⟩
      rw [e, if_pos rfl]
def c_X5_needs : sCtr := ((yX5_needs, cX5_needs, 5, (some .int)), (6, 3, 4, 92), false,
  w1fp,
  fun vs L => ∃ (x0 x1 x2 x3 x4 x5 : Nat) (y7 y8 y9 : Int32) (s : Nat → Int32) (F : Nat → Nat → Int32) (w v z : Int32) (n : Nat), vs = [.ref 0, .int w, .int v, .int z] ∧ L = w1 x0 x1 x2 x3 x4 x5 y7 y8 y9 s F ∧ s 1 = nI n ∧ n ≤ 8,
  fun vs L r L' => r = some (.int (r_needs (oI L 1) (bG 1 L) (vI vs 1) (vI vs 2))) ∧ L' = s_hd L :: bkK 1 (oI L 1) (q_needs (oI L 1) (bG 1 L) (vI vs 1) (vI vs 2) (vI vs 3)))
theorem sta_X5_needs : s_Sta c_X5_needs := ⟨⟨by decide +kernel, by decide +kernel, by decide +kernel⟩, List.mem_of_getElem? (i := 538) (by decide +kernel), List.mem_of_getElem? (i := 64) (by decide +kernel), ⟨List.mem_of_getElem? (i := 536) (by decide +kernel), List.mem_of_getElem? (i := 537) (by decide +kernel), Or.inl ⟨_, rfl, rfl⟩⟩⟩

def k_X5_needs : List sBk := [
  (0, false, [true, true, true, true, false], [o0 0 (.aload_n 0), oN 1 (.getfield 49) [5, 6, 304], o0 4 (.iload_n 1), o0 5 (.iload_n 2), oC 6 (.invokevirtual 145) [539] c_X0_hasTwoWishes, oN 9 (.ifCond .ne 5) [1], oK 12 (.iconst (-1)) (.int (-1)), o0 13 .ireturn]),
  (14, false, [true, true, true, true, false], [o0 14 (.aload_n 0), oN 15 (.getfield 49) [5, 6, 304], oN 18 (.getfield 116) [0, 10, 149], o0 21 (.iload_n 1), o0 22 .iaload, o0 23 (.iload_n 2), oC 24 (.invokestatic 134) [514] c_X5_bitOf, o0 27 (.istore 4), o0 29 (.aload_n 0), oN 30 (.getfield 49) [5, 6, 304], oN 33 (.getfield 116) [0, 10, 149], o0 36 (.iload_n 1), o0 37 (.aload_n 0), oN 38 (.getfield 49) [5, 6, 304], oN 41 (.getfield 116) [0, 10, 149], o0 44 (.iload_n 1), o0 45 .iaload, o0 46 (.iload_n 2), o0 47 (.iload_n 3), oC 48 (.invokestatic 138) [517] c_X5_withBit, o0 51 .iastore, o0 52 (.aload_n 0), oN 53 (.getfield 49) [5, 6, 304], oC 56 (.invokevirtual 142) [534] c_X0_workOutFollowers, o0 59 (.iload 4), o0 61 .ireturn])]
set_option maxRecDepth 100000 in
theorem ck_X5_needs : s_ck RX5 cX5_needs 5 4 92 k_X5_needs = true := by decide +kernel

set_option maxRecDepth 100000 in
set_option maxHeartbeats 1000000 in
theorem ok_X5_needs : s_Ok c_X5_needs := by
  refine s_ok_of k_X5_needs (by decide +kernel) sta_X5_needs ck_X5_needs (And.intro ok_X0_hasTwoWishes (And.intro ok_X5_bitOf (And.intro ok_X5_withBit (And.intro ok_X0_workOutFollowers trivial)))) ?_
  rintro vs L ⟨x0, x1, x2, x3, x4, x5, y7, y8, y9, s, F, w, p, z, n, rfl, rfl, hn, hn8⟩
  refine ⟨rfl, fun G hG => ?_⟩
  have fin : ∀ (a : Int32) (L2 : sH), a = r_needs s F w p → L2 = w1 x0 x1 x2 x3 x4 x5 y7 y8 y9 s (q_needs s F w p z) → s_PP (some .int) false c_X5_needs.2.2.2.2.2 [.ref 0, .int w, .int p, .int z] (w1 x0 x1 x2 x3 x4 x5 y7 y8 y9 s F) (some (.int a)) L2 := fun a L2 ha hL => ⟨rfl, ⟨by rw [ha]; rfl, by rw [hL]; rfl⟩, fun h => by cases h⟩
  refine hG 0 _ _ _ (And.intro ⟨_, _, _, _, _, rfl, rfl⟩ ?_)
  intro r hr
  obtain rfl : r = some (.int (p_two (s 1) w p)) := hr
  refine And.intro (fun h => ?_) (fun h => ?_)
  · exact fin _ _ (by rw [r_needs, if_pos h]) (by rw [show q_needs s F w p z = F by funext j; rw [q_needs, if_pos h]])
  · have hw : vp_in w 8 := by
      have h3 := h
      rw [hn] at h3
      obtain ⟨i, j, hi, hj, rfl, rfl, -⟩ := p_two_ne hn8 h3
      exact vp_in_nI (by omega) (by omega)
    refine And.intro hw (And.intro ⟨_, _, rfl⟩ ?_)
    intro r hr
    obtain rfl : r = some (.int ((F 4 w.toNatClampNeg >>> (p &&& 31)) &&& 1)) := hr
    refine And.intro hw (And.intro ⟨_, _, _, rfl⟩ ?_)
    intro r hr
    obtain rfl : r = some (.int (p_wb (F 4 w.toNatClampNeg) p z)) := hr
    refine And.intro hw (And.intro ⟨s, va_up F 4 (upd (F 4) w.toNatClampNeg (p_wb (F 4 w.toNatClampNeg) p z)), n, rfl, rfl, hn, hn8⟩ ?_)
    rintro r L' ⟨rfl, hL⟩
    obtain rfl : L' = bkW s (p_wof s (va_up F 4 (upd (F 4) w.toNatClampNeg (p_wb (F 4 w.toNatClampNeg) p z)))) := hL
    exact fin _ _ (by rw [r_needs, if_neg h]) (by rw [show q_needs s F w p z = p_wof s (va_up F 4 (upd (F 4) w.toNatClampNeg (p_wb (F 4 w.toNatClampNeg) p z))) by funext j; rw [q_needs, if_neg h]]; rfl)
def r_clash (s : Nat → Int32) (F : Nat → Nat → Int32) (w v : Int32) : Int32 := if p_two (s 1) w v = 0 then -1 else (F 5 w.toNatClampNeg >>> (v &&& 31)) &&& 1
def p_cl1 (f : Nat → Int32) (w v z : Int32) : Nat → Int32 := upd f w.toNatClampNeg (p_wb (f w.toNatClampNeg) v z)
def q_clash (s : Nat → Int32) (F : Nat → Nat → Int32) (w v z : Int32) : Nat → Nat → Int32 := fun i => if p_two (s 1) w v = 0 then F i else va_up F 5 (p_cl1 (p_cl1 (F 5) w v z) v w z) i
def c_X5_clash : sCtr := ((yX5_clash, cX5_clash, 5, (some .int)), (6, 3, 2, 43), false,
  w1fp,
  fun vs L => ∃ (x0 x1 x2 x3 x4 x5 : Nat) (y7 y8 y9 : Int32) (s : Nat → Int32) (F : Nat → Nat → Int32) (w v z : Int32) (n : Nat), vs = [.ref 0, .int w, .int v, .int z] ∧ L = w1 x0 x1 x2 x3 x4 x5 y7 y8 y9 s F ∧ s 1 = nI n ∧ n ≤ 8,
  fun vs L r L' => r = some (.int (r_clash (oI L 1) (bG 1 L) (vI vs 1) (vI vs 2))) ∧ L' = s_hd L :: bkK 1 (oI L 1) (q_clash (oI L 1) (bG 1 L) (vI vs 1) (vI vs 2) (vI vs 3)))
theorem sta_X5_clash : s_Sta c_X5_clash := ⟨⟨by decide +kernel, by decide +kernel, by decide +kernel⟩, List.mem_of_getElem? (i := 547) (by decide +kernel), List.mem_of_getElem? (i := 64) (by decide +kernel), ⟨List.mem_of_getElem? (i := 545) (by decide +kernel), List.mem_of_getElem? (i := 546) (by decide +kernel), Or.inl ⟨_, rfl, rfl⟩⟩⟩

def k_X5_clash : List sBk := [
  (0, false, [true, true, true, true, false], [o0 0 (.aload_n 0), oN 1 (.getfield 49) [5, 6, 304], o0 4 (.iload_n 1), o0 5 (.iload_n 2), oC 6 (.invokevirtual 145) [539] c_X0_hasTwoWishes, oN 9 (.ifCond .ne 5) [1], oK 12 (.iconst (-1)) (.int (-1)), o0 13 .ireturn]),
  (14, false, [true, true, true, true, false], [o0 14 (.aload_n 0), oN 15 (.getfield 49) [5, 6, 304], oN 18 (.getfield 119) [0, 11, 152], o0 21 (.iload_n 1), o0 22 .iaload, o0 23 (.iload_n 2), oC 24 (.invokestatic 134) [514] c_X5_bitOf, o0 27 (.istore 4), o0 29 (.aload_n 0), oN 30 (.getfield 49) [5, 6, 304], oN 33 (.getfield 119) [0, 11, 152], o0 36 (.iload_n 1), o0 37 (.aload_n 0), oN 38 (.getfield 49) [5, 6, 304], oN 41 (.getfield 119) [0, 11, 152], o0 44 (.iload_n 1), o0 45 .iaload, o0 46 (.iload_n 2), o0 47 (.iload_n 3), oC 48 (.invokestatic 138) [517] c_X5_withBit, o0 51 .iastore, o0 52 (.aload_n 0), oN 53 (.getfield 49) [5, 6, 304], oN 56 (.getfield 119) [0, 11, 152], o0 59 (.iload_n 2), o0 60 (.aload_n 0), oN 61 (.getfield 49) [5, 6, 304], oN 64 (.getfield 119) [0, 11, 152], o0 67 (.iload_n 2), o0 68 .iaload, o0 69 (.iload_n 1), o0 70 (.iload_n 3), oC 71 (.invokestatic 138) [517] c_X5_withBit, o0 74 .iastore, o0 75 (.iload 4), o0 77 .ireturn])]
set_option maxRecDepth 100000 in
theorem ck_X5_clash : s_ck RX5 cX5_clash 5 2 43 k_X5_clash = true := by decide +kernel

set_option maxRecDepth 100000 in
set_option maxHeartbeats 1000000 in
theorem ok_X5_clash : s_Ok c_X5_clash := by
  refine s_ok_of k_X5_clash (by decide +kernel) sta_X5_clash ck_X5_clash (And.intro ok_X0_hasTwoWishes (And.intro ok_X5_bitOf (And.intro ok_X5_withBit (And.intro ok_X5_withBit trivial)))) ?_
  rintro vs L ⟨x0, x1, x2, x3, x4, x5, y7, y8, y9, s, F, w, p, z, n, rfl, rfl, hn, hn8⟩
  refine ⟨rfl, fun G hG => ?_⟩
  have fin : ∀ (a : Int32) (L2 : sH), a = r_clash s F w p → L2 = w1 x0 x1 x2 x3 x4 x5 y7 y8 y9 s (q_clash s F w p z) → s_PP (some .int) false c_X5_clash.2.2.2.2.2 [.ref 0, .int w, .int p, .int z] (w1 x0 x1 x2 x3 x4 x5 y7 y8 y9 s F) (some (.int a)) L2 := fun a L2 ha hL => ⟨rfl, ⟨by rw [ha]; rfl, by rw [hL]; rfl⟩, fun h => by cases h⟩
  refine hG 0 _ _ _ (And.intro ⟨_, _, _, _, _, rfl, rfl⟩ ?_)
  intro r hr
  obtain rfl : r = some (.int (p_two (s 1) w p)) := hr
  refine And.intro (fun h => ?_) (fun h => ?_)
  · exact fin _ _ (by rw [r_clash, if_pos h]) (by rw [show q_clash s F w p z = F by funext j; rw [q_clash, if_pos h]])
  · have hw : vp_in w 8 ∧ vp_in p 8 := by
      have h3 := h
      rw [hn] at h3
      obtain ⟨i, j, hi, hj, rfl, rfl, -⟩ := p_two_ne hn8 h3
      exact ⟨vp_in_nI (by omega) (by omega), vp_in_nI (by omega) (by omega)⟩
    refine And.intro hw.1 (And.intro ⟨_, _, rfl⟩ ?_)
    intro r hr
    obtain rfl : r = some (.int ((F 5 w.toNatClampNeg >>> (p &&& 31)) &&& 1)) := hr
    refine And.intro hw.1 (And.intro ⟨_, _, _, rfl⟩ ?_)
    intro r hr
    obtain rfl : r = some (.int (p_wb (F 5 w.toNatClampNeg) p z)) := hr
    refine And.intro hw.1 (And.intro hw.2 (And.intro ⟨_, _, _, rfl⟩ ?_))
    intro r hr
    obtain rfl : r = some (.int (p_wb (p_cl1 (F 5) w p z p.toNatClampNeg) w z)) := hr
    refine And.intro hw.2 ?_
    exact fin _ _ (by rw [r_clash, if_neg h]) (by rw [show q_clash s F w p z = va_up F 5 (p_cl1 (p_cl1 (F 5) w p z) p w z) by funext j; rw [q_clash, if_neg h]]; rfl)
def r_plans (s : Nat → Int32) (w : Int32) : Int32 := if p_in (s 1) w = 0 then -1 else if s 15 < 6 then s 15 + 1 else -3
def q_plans (s : Nat → Int32) (w : Int32) : Nat → Int32 := fun j => if p_in (s 1) w = 0 then s j else if s 15 < 6 then upd s 15 (s 15 + 1) j else s j
def q_plansF (s : Nat → Int32) (F : Nat → Nat → Int32) (w : Int32) : Nat → Nat → Int32 := fun i => if p_in (s 1) w = 0 then F i else if s 15 < 6 then va_up F 8 (upd (F 8) (s 15).toNatClampNeg w) i else F i
def c_X5_plans : sCtr := ((yX5_plans, cX5_plans, 2, (some .int)), (6, 1, 1, 21), false,
  w1fp,
  fun vs L => ∃ (x0 x1 x2 x3 x4 x5 : Nat) (y7 y8 y9 : Int32) (s : Nat → Int32) (F : Nat → Nat → Int32) (w : Int32) (n : Nat), vs = [.ref 0, .int w] ∧ L = w1 x0 x1 x2 x3 x4 x5 y7 y8 y9 s F ∧ s 15 = nI n ∧ n ≤ 6,
  fun vs L r L' => r = some (.int (r_plans (oI L 1) (vI vs 1))) ∧ L' = s_hd L :: bkK 1 (q_plans (oI L 1) (vI vs 1)) (q_plansF (oI L 1) (bG 1 L) (vI vs 1)))
theorem sta_X5_plans : s_Sta c_X5_plans := ⟨⟨by decide +kernel, by decide +kernel, by decide +kernel⟩, List.mem_of_getElem? (i := 551) (by decide +kernel), List.mem_of_getElem? (i := 64) (by decide +kernel), ⟨List.mem_of_getElem? (i := 549) (by decide +kernel), List.mem_of_getElem? (i := 550) (by decide +kernel), Or.inl ⟨_, rfl, rfl⟩⟩⟩

def k_X5_plans : List sBk := [
  (0, false, [true, true], [o0 0 (.aload_n 0), oN 1 (.getfield 49) [5, 6, 304], o0 4 (.iload_n 1), oC 5 (.invokevirtual 103) [498] c_X0_hasWish, oN 8 (.ifCond .ne 5) [1], oK 11 (.iconst (-1)) (.int (-1)), o0 12 .ireturn]),
  (13, false, [true, true], [o0 13 (.aload_n 0), oN 14 (.getfield 49) [5, 6, 304], oN 17 (.getfield 100) [0, 15, 164], oK 20 (.bipush 6) (.int 6), oN 22 (.if_icmp .lt 6) [2], oK 25 (.bipush (-3)) (.int (-3)), o0 27 .ireturn]),
  (28, false, [true, true], [o0 28 (.aload_n 0), oN 29 (.getfield 49) [5, 6, 304], oN 32 (.getfield 128) [0, 14, 161], o0 35 (.aload_n 0), oN 36 (.getfield 49) [5, 6, 304], oN 39 (.getfield 100) [0, 15, 164], o0 42 (.iload_n 1), o0 43 .iastore, o0 44 (.aload_n 0), oN 45 (.getfield 49) [5, 6, 304], o0 48 .dup, oN 49 (.getfield 100) [0, 15, 164], oK 52 (.iconst 1) (.int 1), o0 53 .iadd, oN 54 (.putfield 100) [0, 15, 164], o0 57 (.aload_n 0), oN 58 (.getfield 49) [5, 6, 304], oN 61 (.getfield 100) [0, 15, 164], o0 64 .ireturn])]
set_option maxRecDepth 100000 in
theorem ck_X5_plans : s_ck RX5 cX5_plans 2 1 21 k_X5_plans = true := by decide +kernel

set_option maxRecDepth 100000 in
set_option maxHeartbeats 1000000 in
theorem ok_X5_plans : s_Ok c_X5_plans := by
  refine s_ok_of k_X5_plans (by decide +kernel) sta_X5_plans ck_X5_plans (And.intro ok_X0_hasWish trivial) ?_
  rintro vs L ⟨x0, x1, x2, x3, x4, x5, y7, y8, y9, s, F, w, n, rfl, rfl, hn, hn8⟩
  refine ⟨rfl, fun G hG => ?_⟩
  have fin : ∀ (a : Int32) (L2 : sH), a = r_plans s w → L2 = w1 x0 x1 x2 x3 x4 x5 y7 y8 y9 (q_plans s w) (q_plansF s F w) → s_PP (some .int) false c_X5_plans.2.2.2.2.2 [.ref 0, .int w] (w1 x0 x1 x2 x3 x4 x5 y7 y8 y9 s F) (some (.int a)) L2 := fun a L2 ha hL => ⟨rfl, ⟨by rw [ha]; rfl, by rw [hL]; rfl⟩, fun h => by cases h⟩
  refine hG 0 _ _ _ (And.intro ⟨_, _, _, _, rfl, rfl⟩ ?_)
  intro r hr
  obtain rfl : r = some (.int (p_in (s 1) w)) := hr
  refine And.intro (fun h => ?_) (fun h => ?_)
  · exact fin _ _ (by rw [r_plans, if_pos h]) (by rw [show q_plans s w = s by funext j; rw [q_plans, if_pos h], show q_plansF s F w = F by funext j; rw [q_plansF, if_pos h]])
  · refine And.intro (fun h2 => ?_) (fun h2 => ?_)
    · have h2 : s 15 < 6 := h2
      refine And.intro ?_ ?_
      · show vp_in (s 15) 6
        rw [hn] at h2 ⊢
        exact vp_in_nI ((nI_ltI (b := 6) (by omega) (by omega)).mp h2) (by omega)
      · exact fin _ _ (by rw [r_plans, if_neg h, if_pos h2]) (by rw [show q_plans s w = upd s 15 (s 15 + 1) by funext j; rw [q_plans, if_neg h, if_pos h2], show q_plansF s F w = va_up F 8 (upd (F 8) (s 15).toNatClampNeg w) by funext j; rw [q_plansF, if_neg h, if_pos h2]]; rfl)
    · have h2 : ¬ s 15 < 6 := h2
      exact fin _ _ (by rw [r_plans, if_neg h, if_neg h2]) (by rw [show q_plans s w = s by funext j; rw [q_plans, if_neg h, if_neg h2], show q_plansF s F w = F by funext j; rw [q_plansF, if_neg h, if_neg h2]])
def r_see (s : Nat → Int32) (p : Int32) : Int32 := if p_in (s 0) p = 0 then -1 else if s 18 < 8 then s 18 + 1 else -3
def q_see (s : Nat → Int32) (p z : Int32) : Nat → Int32 := fun j => if p_in (s 0) p = 0 then s j else if s 18 < 8 then upd (upd s 17 (p_wb (s 17) (s 18) z)) 18 (s 18 + 1) j else s j
def q_seeF (s : Nat → Int32) (F : Nat → Nat → Int32) (p : Int32) : Nat → Nat → Int32 := fun i => if p_in (s 0) p = 0 then F i else if s 18 < 8 then va_up F 9 (upd (F 9) (s 18).toNatClampNeg p) i else F i
def c_X5_see : sCtr := ((yX5_see, cX5_see, 3, (some .int)), (6, 2, 1, 22), false,
  w1fp,
  fun vs L => ∃ (x0 x1 x2 x3 x4 x5 : Nat) (y7 y8 y9 : Int32) (s : Nat → Int32) (F : Nat → Nat → Int32) (p z : Int32) (n : Nat), vs = [.ref 0, .int p, .int z] ∧ L = w1 x0 x1 x2 x3 x4 x5 y7 y8 y9 s F ∧ s 18 = nI n ∧ n ≤ 8,
  fun vs L r L' => r = some (.int (r_see (oI L 1) (vI vs 1))) ∧ L' = s_hd L :: bkK 1 (q_see (oI L 1) (vI vs 1) (vI vs 2)) (q_seeF (oI L 1) (bG 1 L) (vI vs 1)))
theorem sta_X5_see : s_Sta c_X5_see := ⟨⟨by decide +kernel, by decide +kernel, by decide +kernel⟩, List.mem_of_getElem? (i := 717) (by decide +kernel), List.mem_of_getElem? (i := 64) (by decide +kernel), ⟨List.mem_of_getElem? (i := 715) (by decide +kernel), List.mem_of_getElem? (i := 716) (by decide +kernel), Or.inl ⟨_, rfl, rfl⟩⟩⟩

def k_X5_see : List sBk := [
  (0, false, [true, true, true], [o0 0 (.aload_n 0), oN 1 (.getfield 49) [5, 6, 304], o0 4 (.iload_n 1), oC 5 (.invokevirtual 131) [510] c_X0_hasOne, oN 8 (.ifCond .ne 5) [1], oK 11 (.iconst (-1)) (.int (-1)), o0 12 .ireturn]),
  (13, false, [true, true, true], [o0 13 (.aload_n 0), oN 14 (.getfield 49) [5, 6, 304], oN 17 (.getfield 220) [0, 18, 171], oK 20 (.bipush 8) (.int 8), oN 22 (.if_icmp .lt 6) [2], oK 25 (.bipush (-3)) (.int (-3)), o0 27 .ireturn]),
  (28, false, [true, true, true], [o0 28 (.aload_n 0), oN 29 (.getfield 49) [5, 6, 304], oN 32 (.getfield 223) [0, 16, 167], o0 35 (.aload_n 0), oN 36 (.getfield 49) [5, 6, 304], oN 39 (.getfield 220) [0, 18, 171], o0 42 (.iload_n 1), o0 43 .iastore, o0 44 (.aload_n 0), oN 45 (.getfield 49) [5, 6, 304], o0 48 (.aload_n 0), oN 49 (.getfield 49) [5, 6, 304], oN 52 (.getfield 226) [0, 17, 169], o0 55 (.aload_n 0), oN 56 (.getfield 49) [5, 6, 304], oN 59 (.getfield 220) [0, 18, 171], o0 62 (.iload_n 2), oC 63 (.invokestatic 138) [517] c_X5_withBit, oN 66 (.putfield 226) [0, 17, 169], o0 69 (.aload_n 0), oN 70 (.getfield 49) [5, 6, 304], o0 73 .dup, oN 74 (.getfield 220) [0, 18, 171], oK 77 (.iconst 1) (.int 1), o0 78 .iadd, oN 79 (.putfield 220) [0, 18, 171], o0 82 (.aload_n 0), oN 83 (.getfield 49) [5, 6, 304], oN 86 (.getfield 220) [0, 18, 171], o0 89 .ireturn])]
set_option maxRecDepth 100000 in
theorem ck_X5_see : s_ck RX5 cX5_see 3 1 22 k_X5_see = true := by decide +kernel

set_option maxRecDepth 100000 in
set_option maxHeartbeats 1000000 in
theorem ok_X5_see : s_Ok c_X5_see := by
  refine s_ok_of k_X5_see (by decide +kernel) sta_X5_see ck_X5_see (And.intro ok_X0_hasOne (And.intro ok_X5_withBit trivial)) ?_
  rintro vs L ⟨x0, x1, x2, x3, x4, x5, y7, y8, y9, s, F, w, z, n, rfl, rfl, hn, hn8⟩
  refine ⟨rfl, fun G hG => ?_⟩
  have fin : ∀ (a : Int32) (L2 : sH), a = r_see s w → L2 = w1 x0 x1 x2 x3 x4 x5 y7 y8 y9 (q_see s w z) (q_seeF s F w) → s_PP (some .int) false c_X5_see.2.2.2.2.2 [.ref 0, .int w, .int z] (w1 x0 x1 x2 x3 x4 x5 y7 y8 y9 s F) (some (.int a)) L2 := fun a L2 ha hL => ⟨rfl, ⟨by rw [ha]; rfl, by rw [hL]; rfl⟩, fun h => by cases h⟩
  refine hG 0 _ _ _ (And.intro ⟨_, _, _, rfl, rfl⟩ ?_)
  intro r hr
  obtain rfl : r = some (.int (p_in (s 0) w)) := hr
  refine And.intro (fun h => ?_) (fun h => ?_)
  · exact fin _ _ (by rw [r_see, if_pos h]) (by rw [show q_see s w z = s by funext j; rw [q_see, if_pos h], show q_seeF s F w = F by funext j; rw [q_seeF, if_pos h]])
  · refine And.intro (fun h2 => ?_) (fun h2 => ?_)
    · have h2 : s 18 < 8 := h2
      refine And.intro ?_ ?_
      · show vp_in (s 18) 8
        rw [hn] at h2 ⊢
        exact vp_in_nI ((nI_ltI (b := 8) (by omega) (by omega)).mp h2) (by omega)
      · refine And.intro ⟨_, _, _, rfl⟩ ?_
        intro r hr
        obtain rfl : r = some (.int (p_wb (s 17) (s 18) z)) := hr
        exact fin _ _ (by rw [r_see, if_neg h, if_pos h2]) (by rw [show q_see s w z = upd (upd s 17 (p_wb (s 17) (s 18) z)) 18 (s 18 + 1) by funext j; rw [q_see, if_neg h, if_pos h2], show q_seeF s F w = va_up F 9 (upd (F 9) (s 18).toNatClampNeg w) by funext j; rw [q_seeF, if_neg h, if_pos h2]]; rfl)
    · have h2 : ¬ s 18 < 8 := h2
      exact fin _ _ (by rw [r_see, if_neg h, if_neg h2]) (by rw [show q_see s w z = s by funext j; rw [q_see, if_neg h, if_neg h2], show q_seeF s F w = F by funext j; rw [q_seeF, if_neg h, if_neg h2]])
end
section
/-! ===== WishClerk: wishes asked ===== -/
def r_looks (s : Nat → Int32) (F : Nat → Nat → Int32) (w : Int32) : Int32 := if p_in (s 1) w = 0 then -1 else p_it (F 4) (s 1).toNatClampNeg (s 5) ((1 : Int32) <<< (w &&& 31)) (s 2).toNatClampNeg
def c_X5_looks : sCtr := ((yX5_looks, cX5_looks, 2, (some .int)), (6, 1, 3, 71), true,
  w1fp,
  fun vs L => ∃ (x0 x1 x2 x3 x4 x5 : Nat) (y7 y8 y9 : Int32) (s : Nat → Int32) (F : Nat → Nat → Int32) (w : Int32) (n d : Nat), vs = [.ref 0, .int w] ∧ L = w1 x0 x1 x2 x3 x4 x5 y7 y8 y9 s F ∧ s 1 = nI n ∧ n ≤ 8 ∧ s 2 = nI d ∧ d ≤ 8,
  fun vs L r _ => r = some (.int (r_looks (oI L 1) (bG 1 L) (vI vs 1))))
theorem sta_X5_looks : s_Sta c_X5_looks := ⟨⟨by decide +kernel, by decide +kernel, by decide +kernel⟩, List.mem_of_getElem? (i := 559) (by decide +kernel), List.mem_of_getElem? (i := 64) (by decide +kernel), ⟨List.mem_of_getElem? (i := 557) (by decide +kernel), List.mem_of_getElem? (i := 558) (by decide +kernel), Or.inl ⟨_, rfl, rfl⟩⟩⟩

def k_X5_looks : List sBk := [
  (0, false, [true, true], [o0 0 (.aload_n 0), oN 1 (.getfield 49) [5, 6, 304], o0 4 (.iload_n 1), oC 5 (.invokevirtual 103) [498] c_X0_hasWish, oN 8 (.ifCond .eq 28) [1], o0 11 (.aload_n 0), oN 12 (.getfield 49) [5, 6, 304], o0 15 (.iload_n 1), o0 16 (.aload_n 0), oN 17 (.getfield 49) [5, 6, 304], oN 20 (.getfield 94) [0, 5, 134], o0 23 (.aload_n 0), oN 24 (.getfield 49) [5, 6, 304], oN 27 (.getfield 85) [0, 2, 123], oC 30 (.invokevirtual 149) [560] c_X0_lookedAt, oN 33 (.goto 4) [2]]),
  (36, false, [false, false], [oK 36 (.iconst (-1)) (.int (-1)), oN 37 .nop [2]]),
  (37, false, [false, false], [o0 37 .ireturn])]
set_option maxRecDepth 100000 in
theorem ck_X5_looks : s_ck RX5 cX5_looks 2 3 71 k_X5_looks = true := by decide +kernel

set_option maxRecDepth 100000 in
set_option maxHeartbeats 1000000 in
theorem ok_X5_looks : s_Ok c_X5_looks := by
  refine s_ok_of k_X5_looks (by decide +kernel) sta_X5_looks ck_X5_looks (And.intro ok_X0_hasWish (And.intro ok_X0_lookedAt trivial)) ?_
  rintro vs L ⟨x0, x1, x2, x3, x4, x5, y7, y8, y9, s, F, w, n, d, rfl, rfl, hn, hn8, hd, hd8⟩
  refine ⟨rfl, fun G hG => ?_⟩
  have fin : ∀ a : Int32, a = r_looks s F w → s_PP (some .int) true c_X5_looks.2.2.2.2.2 [.ref 0, .int w] (w1 x0 x1 x2 x3 x4 x5 y7 y8 y9 s F) (some (.int a)) (w1 x0 x1 x2 x3 x4 x5 y7 y8 y9 s F) := fun a ha => ⟨rfl, by rw [ha]; rfl, fun _ => rfl⟩
  refine hG 0 _ _ _ (And.intro ⟨_, _, _, _, rfl, rfl⟩ ?_)
  intro r hr
  obtain rfl : r = some (.int (p_in (s 1) w)) := hr
  refine And.intro (fun h => ?_) (fun h => ?_)
  · exact fin _ (by rw [r_looks, if_pos h])
  · refine And.intro ⟨s, F, w, s 5, s 2, n, d, rfl, rfl, hn, hn8, hd, hd8⟩ ?_
    intro r hr
    obtain rfl : r = some (.int (p_it (F 4) (s 1).toNatClampNeg (s 5) ((1 : Int32) <<< (w &&& 31)) (s 2).toNatClampNeg)) := hr
    exact fin _ (by rw [r_looks, if_neg h])
/-- refusal, as the book stands -/
def p_reB (s : Nat → Int32) (F : Nat → Nat → Int32) (w h a : Int32) : Int32 := p_re (F 3) (F 4) (F 5) (s 1).toNatClampNeg (s 6) (s 4) w h a (s 2).toNatClampNeg
def r_refuses (s : Nat → Int32) (F : Nat → Nat → Int32) (w : Int32) : Int32 := if p_in (s 1) w = 0 then -1 else p_reB s F w (s 5) (s 3)
def c_X5_refuses : sCtr := ((yX5_refuses, cX5_refuses, 2, (some .int)), (6, 1, 4, 96), true,
  w1fp,
  fun vs L => ∃ (x0 x1 x2 x3 x4 x5 : Nat) (y7 y8 y9 : Int32) (s : Nat → Int32) (F : Nat → Nat → Int32) (w : Int32) (n d : Nat), vs = [.ref 0, .int w] ∧ L = w1 x0 x1 x2 x3 x4 x5 y7 y8 y9 s F ∧ s 1 = nI n ∧ n ≤ 8 ∧ s 2 = nI d ∧ d ≤ 8,
  fun vs L r _ => r = some (.int (r_refuses (oI L 1) (bG 1 L) (vI vs 1))))
theorem sta_X5_refuses : s_Sta c_X5_refuses := ⟨⟨by decide +kernel, by decide +kernel, by decide +kernel⟩, List.mem_of_getElem? (i := 564) (by decide +kernel), List.mem_of_getElem? (i := 64) (by decide +kernel), ⟨List.mem_of_getElem? (i := 562) (by decide +kernel), List.mem_of_getElem? (i := 563) (by decide +kernel), Or.inl ⟨_, rfl, rfl⟩⟩⟩

def k_X5_refuses : List sBk := [
  (0, false, [true, true], [o0 0 (.aload_n 0), oN 1 (.getfield 49) [5, 6, 304], o0 4 (.iload_n 1), oC 5 (.invokevirtual 103) [498] c_X0_hasWish, oN 8 (.ifCond .eq 35) [1], o0 11 (.aload_n 0), oN 12 (.getfield 49) [5, 6, 304], o0 15 (.iload_n 1), o0 16 (.aload_n 0), oN 17 (.getfield 49) [5, 6, 304], oN 20 (.getfield 94) [0, 5, 134], o0 23 (.aload_n 0), oN 24 (.getfield 49) [5, 6, 304], oN 27 (.getfield 88) [0, 3, 127], o0 30 (.aload_n 0), oN 31 (.getfield 49) [5, 6, 304], oN 34 (.getfield 85) [0, 2, 123], oC 37 (.invokevirtual 153) [565] c_X0_refusal, oN 40 (.goto 4) [2]]),
  (43, false, [false, false], [oK 43 (.iconst (-1)) (.int (-1)), oN 44 .nop [2]]),
  (44, false, [false, false], [o0 44 .ireturn])]
set_option maxRecDepth 100000 in
theorem ck_X5_refuses : s_ck RX5 cX5_refuses 2 4 96 k_X5_refuses = true := by decide +kernel

set_option maxRecDepth 100000 in
set_option maxHeartbeats 1000000 in
theorem ok_X5_refuses : s_Ok c_X5_refuses := by
  refine s_ok_of k_X5_refuses (by decide +kernel) sta_X5_refuses ck_X5_refuses (And.intro ok_X0_hasWish (And.intro ok_X0_refusal trivial)) ?_
  rintro vs L ⟨x0, x1, x2, x3, x4, x5, y7, y8, y9, s, F, w, n, d, rfl, rfl, hn, hn8, hd, hd8⟩
  refine ⟨rfl, fun G hG => ?_⟩
  have fin : ∀ a : Int32, a = r_refuses s F w → s_PP (some .int) true c_X5_refuses.2.2.2.2.2 [.ref 0, .int w] (w1 x0 x1 x2 x3 x4 x5 y7 y8 y9 s F) (some (.int a)) (w1 x0 x1 x2 x3 x4 x5 y7 y8 y9 s F) := fun a ha => ⟨rfl, by rw [ha]; rfl, fun _ => rfl⟩
  refine hG 0 _ _ _ (And.intro ⟨_, _, _, _, rfl, rfl⟩ ?_)
  intro r hr
  obtain rfl : r = some (.int (p_in (s 1) w)) := hr
  refine And.intro (fun h => ?_) (fun h => ?_)
  · exact fin _ (by rw [r_refuses, if_pos h])
  · refine And.intro ⟨s, F, w, s 5, s 3, s 2, n, d, rfl, rfl, hn, hn8, hd, hd8⟩ ?_
    intro r hr
    obtain rfl : r = some (.int (p_reB s F w (s 5) (s 3))) := hr
    exact fin _ (by rw [r_refuses, if_neg h])
def r_ask (s : Nat → Int32) (F : Nat → Nat → Int32) (w : Int32) : Int32 := if p_in (s 1) w = 0 then -1 else if p_hb (s 5) w = 0 then (if p_reB s F w (s 5) (s 3) = 0 then p_bc (F 7 w.toNatClampNeg &&& (s 3 ^^^ (-1))) else -4) else -2
def q_ask (s : Nat → Int32) (F : Nat → Nat → Int32) (w : Int32) : Nat → Int32 := fun j => if p_in (s 1) w = 0 then s j else if p_hb (s 5) w = 0 then (if p_reB s F w (s 5) (s 3) = 0 then upd (upd s 5 (s 5 ||| F 6 w.toNatClampNeg)) 3 (s 3 ||| F 7 w.toNatClampNeg) j else s j) else s j
def c_X5_ask : sCtr := ((yX5_ask, cX5_ask, 3, (some .int)), (6, 1, 4, 96), false,
  w1fp,
  fun vs L => ∃ (x0 x1 x2 x3 x4 x5 : Nat) (y7 y8 y9 : Int32) (s : Nat → Int32) (F : Nat → Nat → Int32) (w : Int32) (n d : Nat), vs = [.ref 0, .int w] ∧ L = w1 x0 x1 x2 x3 x4 x5 y7 y8 y9 s F ∧ s 1 = nI n ∧ n ≤ 8 ∧ s 2 = nI d ∧ d ≤ 8,
  fun vs L r L' => r = some (.int (r_ask (oI L 1) (bG 1 L) (vI vs 1))) ∧ L' = s_hd L :: bkK 1 (q_ask (oI L 1) (bG 1 L) (vI vs 1)) (bG 1 L))
theorem sta_X5_ask : s_Sta c_X5_ask := ⟨⟨by decide +kernel, by decide +kernel, by decide +kernel⟩, List.mem_of_getElem? (i := 572) (by decide +kernel), List.mem_of_getElem? (i := 64) (by decide +kernel), ⟨List.mem_of_getElem? (i := 570) (by decide +kernel), List.mem_of_getElem? (i := 571) (by decide +kernel), Or.inl ⟨_, rfl, rfl⟩⟩⟩

def k_X5_ask : List sBk := [
  (0, false, [true, true, false], [o0 0 (.aload_n 0), oN 1 (.getfield 49) [5, 6, 304], o0 4 (.iload_n 1), oC 5 (.invokevirtual 103) [498] c_X0_hasWish, oN 8 (.ifCond .ne 5) [1], oK 11 (.iconst (-1)) (.int (-1)), o0 12 .ireturn]),
  (13, false, [true, true, false], [o0 13 (.aload_n 0), oN 14 (.getfield 49) [5, 6, 304], oN 17 (.getfield 94) [0, 5, 134], o0 20 (.iload_n 1), oC 21 (.invokestatic 157) [573] c_X5_hasBit, oN 24 (.ifCond .eq 6) [2], oK 27 (.bipush (-2)) (.int (-2)), o0 29 .ireturn]),
  (30, false, [true, true, false], [o0 30 (.aload_n 0), oN 31 (.getfield 49) [5, 6, 304], o0 34 (.iload_n 1), o0 35 (.aload_n 0), oN 36 (.getfield 49) [5, 6, 304], oN 39 (.getfield 94) [0, 5, 134], o0 42 (.aload_n 0), oN 43 (.getfield 49) [5, 6, 304], oN 46 (.getfield 88) [0, 3, 127], o0 49 (.aload_n 0), oN 50 (.getfield 49) [5, 6, 304], oN 53 (.getfield 85) [0, 2, 123], oC 56 (.invokevirtual 153) [565] c_X0_refusal, oN 59 (.ifCond .eq 6) [3], oK 62 (.bipush (-4)) (.int (-4)), o0 64 .ireturn]),
  (65, false, [true, true, false], [o0 65 (.aload_n 0), oN 66 (.getfield 49) [5, 6, 304], oN 69 (.getfield 125) [0, 13, 159], o0 72 (.iload_n 1), o0 73 .iaload, o0 74 (.aload_n 0), oN 75 (.getfield 49) [5, 6, 304], oN 78 (.getfield 88) [0, 3, 127], oK 81 (.iconst (-1)) (.int (-1)), o0 82 .ixor, o0 83 .iand, o0 84 (.istore_n 2), o0 85 (.aload_n 0), oN 86 (.getfield 49) [5, 6, 304], o0 89 .dup, oN 90 (.getfield 94) [0, 5, 134], o0 93 (.aload_n 0), oN 94 (.getfield 49) [5, 6, 304], oN 97 (.getfield 122) [0, 12, 156], o0 100 (.iload_n 1), o0 101 .iaload, o0 102 .ior, oN 103 (.putfield 94) [0, 5, 134], o0 106 (.aload_n 0), oN 107 (.getfield 49) [5, 6, 304], o0 110 .dup, oN 111 (.getfield 88) [0, 3, 127], o0 114 (.aload_n 0), oN 115 (.getfield 49) [5, 6, 304], oN 118 (.getfield 125) [0, 13, 159], o0 121 (.iload_n 1), o0 122 .iaload, o0 123 .ior, oN 124 (.putfield 88) [0, 3, 127], o0 127 (.iload_n 2), oC 128 (.invokestatic 160) [574] c_J6_bitCount_0f7a4, o0 131 .ireturn])]
set_option maxRecDepth 100000 in
theorem ck_X5_ask : s_ck RX5 cX5_ask 3 4 96 k_X5_ask = true := by decide +kernel

set_option maxRecDepth 100000 in
set_option maxHeartbeats 1000000 in
theorem ok_X5_ask : s_Ok c_X5_ask := by
  refine s_ok_of k_X5_ask (by decide +kernel) sta_X5_ask ck_X5_ask (And.intro ok_X0_hasWish (And.intro ok_X5_hasBit (And.intro ok_X0_refusal (And.intro ok_J6_bitCount_0f7a4 trivial)))) ?_
  rintro vs L ⟨x0, x1, x2, x3, x4, x5, y7, y8, y9, s, F, w, n, d, rfl, rfl, hn, hn8, hd, hd8⟩
  refine ⟨rfl, fun G hG => ?_⟩
  have fin : ∀ (a : Int32) (L2 : sH), a = r_ask s F w → L2 = w1 x0 x1 x2 x3 x4 x5 y7 y8 y9 (q_ask s F w) F → s_PP (some .int) false c_X5_ask.2.2.2.2.2 [.ref 0, .int w] (w1 x0 x1 x2 x3 x4 x5 y7 y8 y9 s F) (some (.int a)) L2 := fun a L2 ha hL => ⟨rfl, ⟨by rw [ha]; rfl, by rw [hL]; rfl⟩, fun h => by cases h⟩
  refine hG 0 _ _ _ (And.intro ⟨_, _, _, _, rfl, rfl⟩ ?_)
  intro r hr
  obtain rfl : r = some (.int (p_in (s 1) w)) := hr
  refine And.intro (fun h => ?_) (fun h => ?_)
  · exact fin _ _ (by rw [r_ask, if_pos h]) (by rw [show q_ask s F w = s by funext j; rw [q_ask, if_pos h]])
  · refine And.intro ⟨_, _, rfl⟩ ?_
    intro r hr
    obtain rfl : r = some (.int (p_hb (s 5) w)) := hr
    refine And.intro (fun h2 => ?_) (fun h2 => ?_)
    · refine And.intro ⟨s, F, w, s 5, s 3, s 2, n, d, rfl, rfl, hn, hn8, hd, hd8⟩ ?_
      intro r hr
      obtain rfl : r = some (.int (p_reB s F w (s 5) (s 3))) := hr
      refine And.intro (fun h3 => ?_) (fun h3 => ?_)
      · have hw : vp_in w 8 := by
          have h3 := h
          rw [hn] at h3
          obtain ⟨j, hj, rfl⟩ := p_in_ne hn8 h3
          exact vp_in_nI (by omega) (by omega)
        refine And.intro hw (And.intro hw (And.intro hw (And.intro ⟨_, rfl⟩ ?_)))
        intro r hr
        obtain rfl : r = some (.int (p_bc (F 7 w.toNatClampNeg &&& (s 3 ^^^ (-1))))) := hr
        exact fin _ _ (by rw [r_ask, if_neg h, if_pos h2, if_pos h3]) (by rw [show q_ask s F w = upd (upd s 5 (s 5 ||| F 6 w.toNatClampNeg)) 3 (s 3 ||| F 7 w.toNatClampNeg) by funext j; rw [q_ask, if_neg h, if_pos h2, if_pos h3]]; rfl)
      · exact fin _ _ (by rw [r_ask, if_neg h, if_pos h2, if_neg h3]) (by rw [show q_ask s F w = s by funext j; rw [q_ask, if_neg h, if_pos h2, if_neg h3]])
    · exact fin _ _ (by rw [r_ask, if_neg h, if_neg h2]) (by rw [show q_ask s F w = s by funext j; rw [q_ask, if_neg h, if_neg h2]])
def p_gone (s : Nat → Int32) (F : Nat → Nat → Int32) (w : Int32) : Int32 := p_ro (F 6) ((1 : Int32) <<< (w &&& 31)) (s 5) (s 1).toNatClampNeg
def r_take (s : Nat → Int32) (F : Nat → Nat → Int32) (w : Int32) : Int32 := if p_in (s 1) w = 0 then -1 else if p_hb (s 5) w = 0 then -2 else p_bc (p_gone s F w)
def q_take (s : Nat → Int32) (F : Nat → Nat → Int32) (w : Int32) : Nat → Int32 := fun j => if p_in (s 1) w = 0 then s j else if p_hb (s 5) w = 0 then s j else upd s 5 (s 5 &&& (p_gone s F w ^^^ (-1))) j
def c_X5_take : sCtr := ((yX5_take, cX5_take, 3, (some .int)), (6, 1, 2, 45), false,
  w1fp,
  fun vs L => ∃ (x0 x1 x2 x3 x4 x5 : Nat) (y7 y8 y9 : Int32) (s : Nat → Int32) (F : Nat → Nat → Int32) (w : Int32) (n : Nat), vs = [.ref 0, .int w] ∧ L = w1 x0 x1 x2 x3 x4 x5 y7 y8 y9 s F ∧ s 1 = nI n ∧ n ≤ 8,
  fun vs L r L' => r = some (.int (r_take (oI L 1) (bG 1 L) (vI vs 1))) ∧ L' = s_hd L :: bkK 1 (q_take (oI L 1) (bG 1 L) (vI vs 1)) (bG 1 L))
theorem sta_X5_take : s_Sta c_X5_take := ⟨⟨by decide +kernel, by decide +kernel, by decide +kernel⟩, List.mem_of_getElem? (i := 583) (by decide +kernel), List.mem_of_getElem? (i := 64) (by decide +kernel), ⟨List.mem_of_getElem? (i := 581) (by decide +kernel), List.mem_of_getElem? (i := 582) (by decide +kernel), Or.inl ⟨_, rfl, rfl⟩⟩⟩

def k_X5_take : List sBk := [
  (0, false, [true, true, false], [o0 0 (.aload_n 0), oN 1 (.getfield 49) [5, 6, 304], o0 4 (.iload_n 1), oC 5 (.invokevirtual 103) [498] c_X0_hasWish, oN 8 (.ifCond .ne 5) [1], oK 11 (.iconst (-1)) (.int (-1)), o0 12 .ireturn]),
  (13, false, [true, true, false], [o0 13 (.aload_n 0), oN 14 (.getfield 49) [5, 6, 304], oN 17 (.getfield 94) [0, 5, 134], o0 20 (.iload_n 1), oC 21 (.invokestatic 157) [573] c_X5_hasBit, oN 24 (.ifCond .ne 6) [2], oK 27 (.bipush (-2)) (.int (-2)), o0 29 .ireturn]),
  (30, false, [true, true, false], [o0 30 (.aload_n 0), oN 31 (.getfield 49) [5, 6, 304], oK 34 (.iconst 1) (.int 1), o0 35 (.iload_n 1), o0 36 .ishl, o0 37 (.aload_n 0), oN 38 (.getfield 49) [5, 6, 304], oN 41 (.getfield 94) [0, 5, 134], oC 44 (.invokevirtual 166) [584] c_X0_restingOn, o0 47 (.istore_n 2), o0 48 (.aload_n 0), oN 49 (.getfield 49) [5, 6, 304], o0 52 .dup, oN 53 (.getfield 94) [0, 5, 134], o0 56 (.iload_n 2), oK 57 (.iconst (-1)) (.int (-1)), o0 58 .ixor, o0 59 .iand, oN 60 (.putfield 94) [0, 5, 134], o0 63 (.iload_n 2), oC 64 (.invokestatic 160) [574] c_J6_bitCount_0f7a4, o0 67 .ireturn])]
set_option maxRecDepth 100000 in
theorem ck_X5_take : s_ck RX5 cX5_take 3 2 45 k_X5_take = true := by decide +kernel

set_option maxRecDepth 100000 in
set_option maxHeartbeats 1000000 in
theorem ok_X5_take : s_Ok c_X5_take := by
  refine s_ok_of k_X5_take (by decide +kernel) sta_X5_take ck_X5_take (And.intro ok_X0_hasWish (And.intro ok_X5_hasBit (And.intro ok_X0_restingOn (And.intro ok_J6_bitCount_0f7a4 trivial)))) ?_
  rintro vs L ⟨x0, x1, x2, x3, x4, x5, y7, y8, y9, s, F, w, n, rfl, rfl, hn, hn8⟩
  refine ⟨rfl, fun G hG => ?_⟩
  have fin : ∀ (a : Int32) (L2 : sH), a = r_take s F w → L2 = w1 x0 x1 x2 x3 x4 x5 y7 y8 y9 (q_take s F w) F → s_PP (some .int) false c_X5_take.2.2.2.2.2 [.ref 0, .int w] (w1 x0 x1 x2 x3 x4 x5 y7 y8 y9 s F) (some (.int a)) L2 := fun a L2 ha hL => ⟨rfl, ⟨by rw [ha]; rfl, by rw [hL]; rfl⟩, fun h => by cases h⟩
  refine hG 0 _ _ _ (And.intro ⟨_, _, _, _, rfl, rfl⟩ ?_)
  intro r hr
  obtain rfl : r = some (.int (p_in (s 1) w)) := hr
  refine And.intro (fun h => ?_) (fun h => ?_)
  · exact fin _ _ (by rw [r_take, if_pos h]) (by rw [show q_take s F w = s by funext j; rw [q_take, if_pos h]])
  · refine And.intro ⟨_, _, rfl⟩ ?_
    intro r hr
    obtain rfl : r = some (.int (p_hb (s 5) w)) := hr
    refine And.intro (fun h2 => ?_) (fun h2 => ?_)
    · exact fin _ _ (by rw [r_take, if_neg h, if_pos h2]) (by rw [show q_take s F w = s by funext j; rw [q_take, if_neg h, if_pos h2]])
    · refine And.intro ⟨s, F, _, s 5, n, rfl, rfl, hn, hn8⟩ ?_
      intro r hr
      obtain rfl : r = some (.int (p_gone s F w)) := hr
      refine And.intro ⟨_, rfl⟩ ?_
      intro r hr
      obtain rfl : r = some (.int (p_bc (p_gone s F w))) := hr
      exact fin _ _ (by rw [r_take, if_neg h, if_neg h2]) (by rw [show q_take s F w = upd s 5 (s 5 &&& (p_gone s F w ^^^ (-1))) by funext j; rw [q_take, if_neg h, if_neg h2]]; rfl)
def p_ce (f : Nat → Int32) (h : Int32) : Nat → Int32
  | 0 => 0
  | k + 1 => if p_hb h (nI k) = 0 then p_ce f h k else p_ce f h k + p_bc (f k &&& h)
def c_X5_clashes : sCtr := ((yX5_clashes, cX5_clashes, 3, (some .int)), (6, 0, 1, 21), true,
  w1fp,
  fun vs L => ∃ (x0 x1 x2 x3 x4 x5 : Nat) (y7 y8 y9 : Int32) (s : Nat → Int32) (F : Nat → Nat → Int32) (n : Nat), vs = [.ref 0] ∧ L = w1 x0 x1 x2 x3 x4 x5 y7 y8 y9 s F ∧ s 1 = nI n ∧ n ≤ 8,
  fun _ L r _ => r = some (.int (p_ce (bG 1 L 5) (oI L 1 5) (oI L 1 1).toNatClampNeg / 2)))
theorem sta_X5_clashes : s_Sta c_X5_clashes := ⟨⟨by decide +kernel, by decide +kernel, by decide +kernel⟩, List.mem_of_getElem? (i := 591) (by decide +kernel), List.mem_of_getElem? (i := 64) (by decide +kernel), ⟨List.mem_of_getElem? (i := 589) (by decide +kernel), List.mem_of_getElem? (i := 590) (by decide +kernel), Or.inl ⟨_, rfl, rfl⟩⟩⟩

def k_X5_clashes : List sBk := [
  (0, false, [true, false, false], [oK 0 (.iconst 0) (.int 0), o0 1 (.istore_n 1), oK 2 (.iconst 0) (.int 0), o0 3 (.istore_n 2), oN 4 .nop [1]]),
  (4, true, [true, true, true], [o0 4 (.iload_n 2), o0 5 (.aload_n 0), oN 6 (.getfield 49) [5, 6, 304], oN 9 (.getfield 82) [0, 1, 121], oN 12 (.if_icmp .ge 46) [3], o0 15 (.aload_n 0), oN 16 (.getfield 49) [5, 6, 304], oN 19 (.getfield 94) [0, 5, 134], o0 22 (.iload_n 2), oC 23 (.invokestatic 157) [573] c_X5_hasBit, oN 26 (.ifCond .eq 26) [2], o0 29 (.iload_n 1), o0 30 (.aload_n 0), oN 31 (.getfield 49) [5, 6, 304], oN 34 (.getfield 119) [0, 11, 152], o0 37 (.iload_n 2), o0 38 .iaload, o0 39 (.aload_n 0), oN 40 (.getfield 49) [5, 6, 304], oN 43 (.getfield 94) [0, 5, 134], o0 46 .iand, oC 47 (.invokestatic 160) [574] c_J6_bitCount_0f7a4, o0 50 .iadd, o0 51 (.istore_n 1), oN 52 .nop [2]]),
  (52, false, [true, true, true], [oK 52 (.iinc 2 1) (.int 1), oN 55 (.goto (-51)) [1]]),
  (58, false, [false, true, false], [o0 58 (.iload_n 1), oK 59 (.iconst 2) (.int 2), o0 60 .idiv, o0 61 .ireturn])]
set_option maxRecDepth 100000 in
theorem ck_X5_clashes : s_ck RX5 cX5_clashes 3 1 21 k_X5_clashes = true := by decide +kernel

set_option maxRecDepth 100000 in
set_option maxHeartbeats 1000000 in
theorem ok_X5_clashes : s_Ok c_X5_clashes := by
  refine s_ok_of k_X5_clashes (by decide +kernel) sta_X5_clashes ck_X5_clashes (And.intro ok_X5_hasBit (And.intro ok_J6_bitCount_0f7a4 trivial)) ?_
  rintro vs L ⟨x0, x1, x2, x3, x4, x5, y7, y8, y9, s, F, n, rfl, rfl, hn, hn8⟩
  refine ⟨rfl, fun G hG => ?_⟩
  have loop : ∀ (k i : Nat) (x a : Int32), i + k = n → x = nI i → a = p_ce (F 5) (s 5) i → G 1 [some (.ref 0), some (.int a), some (.int x)] [] (w1 x0 x1 x2 x3 x4 x5 y7 y8 y9 s F) := by
    intro k
    induction k with
    | zero =>
      intro i x a hi hx ha
      refine hG 1 _ _ _ (And.intro (fun h2 => ?_) (fun h2 => ?_))
      · have h2 : x < s 1 := h2
        rw [hx, hn, nI_ltI (by omega) (by omega)] at h2; omega
      · refine And.intro (by decide) ⟨rfl, ?_, fun _ => rfl⟩
        show some (Value.int (a / 2)) = some (Value.int (p_ce (F 5) (s 5) (s 1).toNatClampNeg / 2))
        rw [hn, nI_clamp (by omega), ha, show i = n by omega]
    | succ k ih =>
      intro i x a hi hx ha
      have hw : vp_in x 8 := by rw [hx]; exact vp_in_nI (by omega) (by omega)
      refine hG 1 _ _ _ (And.intro (fun h2 => ?_) (fun h2 => ?_))
      · refine And.intro ⟨_, _, rfl⟩ ?_
        intro r hr
        obtain rfl : r = some (.int (p_hb (s 5) x)) := hr
        refine And.intro (fun h3 => ?_) (fun h3 => ?_)
        · exact ih (i + 1) _ _ (by omega) (by rw [hx, nI_1]) (by rw [p_ce, ← hx, if_pos h3, ha])
        · refine And.intro hw (And.intro ⟨_, rfl⟩ ?_)
          intro r hr
          obtain rfl : r = some (.int (p_bc (F 5 x.toNatClampNeg &&& s 5))) := hr
          exact ih (i + 1) _ _ (by omega) (by rw [hx, nI_1]) (by rw [p_ce, ← hx, if_neg h3, ha, hx, nI_clamp (by omega)])
      · have h2 : ¬ x < s 1 := h2
        rw [hx, hn, nI_ltI (by omega) (by omega)] at h2; omega
  exact hG 0 _ _ _ (loop n 0 _ _ (by omega) nI_0.symm rfl)
def p_br (fo wa : Nat → Int32) (h l : Int32) : Nat → Int32
  | 0 => 0
  | k + 1 => if fo k &&& (h ^^^ (-1)) = 0 then (if wa k &&& (l ^^^ (-1)) = 0 then p_br fo wa h l k else (if p_hb h (nI k) = 0 then p_br fo wa h l k else p_br fo wa h l k ||| ((1 : Int32) <<< (nI k &&& 31)))) else (if p_hb h (nI k) = 0 then p_br fo wa h l k else p_br fo wa h l k ||| ((1 : Int32) <<< (nI k &&& 31)))
def c_X5_broken : sCtr := ((yX5_broken, cX5_broken, 4, (some .int)), (6, 0, 1, 21), true,
  w1fp,
  fun vs L => ∃ (x0 x1 x2 x3 x4 x5 : Nat) (y7 y8 y9 : Int32) (s : Nat → Int32) (F : Nat → Nat → Int32) (n : Nat), vs = [.ref 0] ∧ L = w1 x0 x1 x2 x3 x4 x5 y7 y8 y9 s F ∧ s 1 = nI n ∧ n ≤ 8,
  fun _ L r _ => r = some (.int (p_br (bG 1 L 6) (bG 1 L 7) (oI L 1 5) (oI L 1 3) (oI L 1 1).toNatClampNeg)))
theorem sta_X5_broken : s_Sta c_X5_broken := ⟨⟨by decide +kernel, by decide +kernel, by decide +kernel⟩, List.mem_of_getElem? (i := 595) (by decide +kernel), List.mem_of_getElem? (i := 64) (by decide +kernel), ⟨List.mem_of_getElem? (i := 593) (by decide +kernel), List.mem_of_getElem? (i := 594) (by decide +kernel), Or.inl ⟨_, rfl, rfl⟩⟩⟩

def k_X5_broken : List sBk := [
  (0, false, [true, false, false, false], [oK 0 (.iconst 0) (.int 0), o0 1 (.istore_n 1), oK 2 (.iconst 0) (.int 0), o0 3 (.istore_n 2), oN 4 .nop [1]]),
  (4, true, [true, true, true, false], [o0 4 (.iload_n 2), o0 5 (.aload_n 0), oN 6 (.getfield 49) [5, 6, 304], oN 9 (.getfield 82) [0, 1, 121], oN 12 (.if_icmp .ge 83) [5], o0 15 (.aload_n 0), oN 16 (.getfield 49) [5, 6, 304], oN 19 (.getfield 122) [0, 12, 156], o0 22 (.iload_n 2), o0 23 .iaload, o0 24 (.aload_n 0), oN 25 (.getfield 49) [5, 6, 304], oN 28 (.getfield 94) [0, 5, 134], oK 31 (.iconst (-1)) (.int (-1)), o0 32 .ixor, o0 33 .iand, oN 34 (.ifCond .ne 29) [2], o0 37 (.aload_n 0), oN 38 (.getfield 49) [5, 6, 304], oN 41 (.getfield 125) [0, 13, 159], o0 44 (.iload_n 2), o0 45 .iaload, o0 46 (.aload_n 0), oN 47 (.getfield 49) [5, 6, 304], oN 50 (.getfield 88) [0, 3, 127], oK 53 (.iconst (-1)) (.int (-1)), o0 54 .ixor, o0 55 .iand, oN 56 (.ifCond .ne 7) [2], oK 59 (.iconst 1) (.int 1), oN 60 (.goto 4) [3]]),
  (63, false, [true, true, true, false], [oK 63 (.iconst 0) (.int 0), oN 64 .nop [3]]),
  (64, false, [true, true, true, false], [o0 64 (.istore_n 3), o0 65 (.aload_n 0), oN 66 (.getfield 49) [5, 6, 304], oN 69 (.getfield 94) [0, 5, 134], o0 72 (.iload_n 2), oC 73 (.invokestatic 157) [573] c_X5_hasBit, oN 76 (.ifCond .eq 13) [4], o0 79 (.iload_n 3), oN 80 (.ifCond .ne 9) [4], o0 83 (.iload_n 1), oK 84 (.iconst 1) (.int 1), o0 85 (.iload_n 2), o0 86 .ishl, o0 87 .ior, o0 88 (.istore_n 1), oN 89 .nop [4]]),
  (89, false, [true, true, true, false], [oK 89 (.iinc 2 1) (.int 1), oN 92 (.goto (-88)) [1]]),
  (95, false, [false, true, false, false], [o0 95 (.iload_n 1), o0 96 .ireturn])]
set_option maxRecDepth 100000 in
theorem ck_X5_broken : s_ck RX5 cX5_broken 4 1 21 k_X5_broken = true := by decide +kernel

set_option maxRecDepth 100000 in
set_option maxHeartbeats 1000000 in
theorem ok_X5_broken : s_Ok c_X5_broken := by
  refine s_ok_of k_X5_broken (by decide +kernel) sta_X5_broken ck_X5_broken (And.intro ok_X5_hasBit trivial) ?_
  rintro vs L ⟨x0, x1, x2, x3, x4, x5, y7, y8, y9, s, F, n, rfl, rfl, hn, hn8⟩
  refine ⟨rfl, fun G hG => ?_⟩
  have loop : ∀ (k i : Nat) (x a : Int32), i + k = n → x = nI i → a = p_br (F 6) (F 7) (s 5) (s 3) i → G 1 [some (.ref 0), some (.int a), some (.int x), none] [] (w1 x0 x1 x2 x3 x4 x5 y7 y8 y9 s F) := by
    intro k
    induction k with
    | zero =>
      intro i x a hi hx ha
      refine hG 1 _ _ _ (And.intro (fun h2 => ?_) (fun h2 => ?_))
      · have h2 : x < s 1 := h2
        rw [hx, hn, nI_ltI (by omega) (by omega)] at h2; omega
      · refine ⟨rfl, ?_, fun _ => rfl⟩
        show some (Value.int a) = some (Value.int (p_br (F 6) (F 7) (s 5) (s 3) (s 1).toNatClampNeg))
        rw [hn, nI_clamp (by omega), ha, show i = n by omega]
    | succ k ih =>
      intro i x a hi hx ha
      have hw : vp_in x 8 := by rw [hx]; exact vp_in_nI (by omega) (by omega)
      have hc : x.toNatClampNeg = i := by rw [hx, nI_clamp (by omega)]
      refine hG 1 _ _ _ (And.intro (fun h2 => ?_) (fun h2 => ?_))
      · refine And.intro hw (And.intro (fun h3 => ?_) (fun h3 => ?_))
        · have h3 : F 6 x.toNatClampNeg &&& (s 5 ^^^ (-1)) = 0 := h3
          rw [hc] at h3
          refine And.intro hw (And.intro (fun h4 => ?_) (fun h4 => ?_))
          · have h4 : F 7 x.toNatClampNeg &&& (s 3 ^^^ (-1)) = 0 := h4
            rw [hc] at h4
            refine And.intro ⟨_, _, rfl⟩ ?_
            intro r hr
            obtain rfl : r = some (.int (p_hb (s 5) x)) := hr
            refine And.intro (fun h5 => ?_) (fun h5 => ?_)
            · exact ih (i + 1) _ _ (by omega) (by rw [hx, nI_1]) (by rw [p_br, if_pos h3, if_pos h4, ha])
            · refine And.intro (fun h6 => absurd h6 (by decide)) (fun _ => ?_)
              exact ih (i + 1) _ _ (by omega) (by rw [hx, nI_1]) (by rw [p_br, if_pos h3, if_pos h4, ha])
          · have h4 : ¬ F 7 x.toNatClampNeg &&& (s 3 ^^^ (-1)) = 0 := h4
            rw [hc] at h4
            refine And.intro ⟨_, _, rfl⟩ ?_
            intro r hr
            obtain rfl : r = some (.int (p_hb (s 5) x)) := hr
            refine And.intro (fun h5 => ?_) (fun h5 => ?_)
            · exact ih (i + 1) _ _ (by omega) (by rw [hx, nI_1]) (by rw [p_br, if_pos h3, if_neg h4, ← hx, if_pos h5, ha])
            · refine And.intro (fun _ => ?_) (fun h6 => absurd rfl h6)
              exact ih (i + 1) _ _ (by omega) (by rw [hx, nI_1]) (by rw [p_br, if_pos h3, if_neg h4, ← hx, if_neg h5, ha])
        · have h3 : ¬ F 6 x.toNatClampNeg &&& (s 5 ^^^ (-1)) = 0 := h3
          rw [hc] at h3
          refine And.intro ⟨_, _, rfl⟩ ?_
          intro r hr
          obtain rfl : r = some (.int (p_hb (s 5) x)) := hr
          refine And.intro (fun h5 => ?_) (fun h5 => ?_)
          · exact ih (i + 1) _ _ (by omega) (by rw [hx, nI_1]) (by rw [p_br, if_neg h3, ← hx, if_pos h5, ha])
          · refine And.intro (fun _ => ?_) (fun h6 => absurd rfl h6)
            exact ih (i + 1) _ _ (by omega) (by rw [hx, nI_1]) (by rw [p_br, if_neg h3, ← hx, if_neg h5, ha])
      · have h2 : ¬ x < s 1 := h2
        rw [hx, hn, nI_ltI (by omega) (by omega)] at h2; omega
  exact hG 0 _ _ _ (loop n 0 _ _ (by omega) nI_0.symm rfl)
end
section
/-! ===== WishClerk: sets ===== -/
theorem p_2n : ∀ n, n < 32 → ((1 : Int32) <<< (nI n &&& 31)) = nI (2 ^ n) := by decide +kernel
theorem p_2le : ∀ n, n ≤ 8 → 2 ^ n ≤ 256 := by decide
def p_ss (x z : Int32) : Int32 := if x < 0 then x else if z = 1 then x else p_bc x
def c_X5_sizeOrSet : sCtr := ((yX5_sizeOrSet, cX5_sizeOrSet, 2, (some .int)), (0, 2, 1, 20), true,
  fun _ _ => [],
  fun vs _ => ∃ x z : Int32, vs = [.int x, .int z],
  fun vs _ r _ => r = some (.int (p_ss (vI vs 0) (vI vs 1))))
theorem sta_X5_sizeOrSet : s_Sta c_X5_sizeOrSet := ⟨⟨by decide +kernel, by decide +kernel, by decide +kernel⟩, List.mem_of_getElem? (i := 665) (by decide +kernel), List.mem_of_getElem? (i := 64) (by decide +kernel), List.mem_of_getElem? (i := 664) (by decide +kernel)⟩

def k_X5_sizeOrSet : List sBk := [
  (0, false, [true, true], [o0 0 (.iload_n 0), oN 1 (.ifCond .lt 8) [1], o0 4 (.iload_n 1), oK 5 (.iconst 1) (.int 1), oN 6 (.if_icmp .ne 7) [2], oN 9 .nop [1]]),
  (9, false, [true, false], [o0 9 (.iload_n 0), oN 10 (.goto 7) [3]]),
  (13, false, [true, false], [o0 13 (.iload_n 0), oC 14 (.invokestatic 160) [574] c_J6_bitCount_0f7a4, oN 17 .nop [3]]),
  (17, false, [false, false], [o0 17 .ireturn])]
set_option maxRecDepth 100000 in
theorem ck_X5_sizeOrSet : s_ck RX5 cX5_sizeOrSet 2 1 20 k_X5_sizeOrSet = true := by decide +kernel

set_option maxRecDepth 100000 in
set_option maxHeartbeats 1000000 in
theorem ok_X5_sizeOrSet : s_Ok c_X5_sizeOrSet := by
  refine s_ok_of k_X5_sizeOrSet (by decide +kernel) sta_X5_sizeOrSet ck_X5_sizeOrSet (And.intro ok_J6_bitCount_0f7a4 trivial) ?_
  rintro vs L ⟨x, z, rfl⟩
  refine ⟨rfl, fun G hG => ?_⟩
  have fin : ∀ a : Int32, a = p_ss x z → s_PP (some .int) true c_X5_sizeOrSet.2.2.2.2.2 [.int x, .int z] L (some (.int a)) L := fun a ha => ⟨rfl, by rw [ha]; rfl, fun _ => rfl⟩
  refine hG 0 _ _ _ (And.intro (fun h => ?_) (fun h => ?_))
  · exact fin _ (by rw [p_ss, if_pos h])
  · refine And.intro (fun h2 => ?_) (fun h2 => ?_)
    · exact fin _ (by rw [p_ss, if_neg h, if_pos h2])
    · refine And.intro ⟨_, rfl⟩ ?_
      intro r hr
      obtain rfl : r = some (.int (p_bc x)) := hr
      exact fin _ (by rw [p_ss, if_neg h, if_neg h2])
def p_lcS (cl fo : Nat → Int32) (n : Nat) (g b : Int32) : Int32 := if b < 0 ∨ p_bc g < p_bc b then (if p_ga cl n (p_ga fo n g) &&& p_ga fo n g = 0 then b else g) else b
def p_lc (cl fo : Nat → Int32) (n : Nat) : Nat → Int32
  | 0 => -4
  | k + 1 => p_lcS cl fo n (nI k) (p_lc cl fo n k)
def c_X5_leastClashing : sCtr := ((yX5_leastClashing, cX5_leastClashing, 4, (some .int)), (6, 0, 3, 66), true,
  w1fp,
  fun vs L => ∃ (x0 x1 x2 x3 x4 x5 : Nat) (y7 y8 y9 : Int32) (s : Nat → Int32) (F : Nat → Nat → Int32) (n : Nat), vs = [.ref 0] ∧ L = w1 x0 x1 x2 x3 x4 x5 y7 y8 y9 s F ∧ s 1 = nI n ∧ n ≤ 8,
  fun _ L r _ => r = some (.int (p_lc (bG 1 L 5) (bG 1 L 6) (oI L 1 1).toNatClampNeg (2 ^ (oI L 1 1).toNatClampNeg))))
theorem sta_X5_leastClashing : s_Sta c_X5_leastClashing := ⟨⟨by decide +kernel, by decide +kernel, by decide +kernel⟩, List.mem_of_getElem? (i := 681) (by decide +kernel), List.mem_of_getElem? (i := 64) (by decide +kernel), ⟨List.mem_of_getElem? (i := 680) (by decide +kernel), List.mem_of_getElem? (i := 22) (by decide +kernel), Or.inl ⟨_, rfl, rfl⟩⟩⟩

def k_X5_leastClashing : List sBk := [
  (0, false, [true, false, false, false], [oK 0 (.bipush (-4)) (.int (-4)), o0 2 (.istore_n 1), oK 3 (.iconst 0) (.int 0), o0 4 (.istore_n 2), oN 5 .nop [1]]),
  (5, true, [true, true, true, false], [o0 5 (.iload_n 2), o0 6 (.aload_n 0), oN 7 (.getfield 49) [5, 6, 304], oC 10 (.invokevirtual 194) [662] c_X0_sets, oN 13 (.if_icmp .ge 54) [6], o0 16 (.iload_n 1), oN 17 (.ifCond .lt 14) [2], o0 20 (.iload_n 2), oC 21 (.invokestatic 160) [574] c_J6_bitCount_0f7a4, o0 24 (.iload_n 1), oC 25 (.invokestatic 160) [574] c_J6_bitCount_0f7a4, oN 28 (.if_icmp .ge 7) [3], oN 31 .nop [2]]),
  (31, false, [true, true, true, false], [oK 31 (.iconst 1) (.int 1), oN 32 (.goto 4) [4]]),
  (35, false, [true, true, true, false], [oK 35 (.iconst 0) (.int 0), oN 36 .nop [4]]),
  (36, false, [true, true, true, false], [o0 36 (.istore_n 3), o0 37 (.iload_n 3), oN 38 (.ifCond .eq 23) [5], o0 41 (.aload_n 0), oN 42 (.getfield 49) [5, 6, 304], o0 45 (.aload_n 0), oN 46 (.getfield 49) [5, 6, 304], o0 49 (.iload_n 2), oC 50 (.invokevirtual 203) [682] c_X0_followersOf, oC 53 (.invokevirtual 206) [686] c_X0_haveClash, oN 56 (.ifCond .eq 5) [5], o0 59 (.iload_n 2), o0 60 (.istore_n 1), oN 61 .nop [5]]),
  (61, false, [true, true, true, false], [oK 61 (.iinc 2 1) (.int 1), oN 64 (.goto (-59)) [1]]),
  (67, false, [false, true, false, false], [o0 67 (.iload_n 1), o0 68 .ireturn])]
set_option maxRecDepth 100000 in
theorem ck_X5_leastClashing : s_ck RX5 cX5_leastClashing 4 3 66 k_X5_leastClashing = true := by decide +kernel

set_option maxRecDepth 100000 in
set_option maxHeartbeats 1000000 in
theorem ok_X5_leastClashing : s_Ok c_X5_leastClashing := by
  refine s_ok_of k_X5_leastClashing (by decide +kernel) sta_X5_leastClashing ck_X5_leastClashing (And.intro ok_X0_sets (And.intro ok_J6_bitCount_0f7a4 (And.intro ok_J6_bitCount_0f7a4 (And.intro ok_X0_followersOf (And.intro ok_X0_haveClash trivial))))) ?_
  rintro vs L ⟨x0, x1, x2, x3, x4, x5, y7, y8, y9, s, F, n, rfl, rfl, hn, hn8⟩
  refine ⟨rfl, fun G hG => ?_⟩
  have h28 := p_2le n hn8
  have loop : ∀ (k i : Nat) (x a : Int32), i + k = 2 ^ n → x = nI i → a = p_lc (F 5) (F 6) n i → G 1 [some (.ref 0), some (.int a), some (.int x), none] [] (w1 x0 x1 x2 x3 x4 x5 y7 y8 y9 s F) := by
    intro k
    induction k with
    | zero =>
      intro i x a hi hx ha
      refine hG 1 _ _ _ (And.intro ⟨_, _, _, rfl, rfl⟩ ?_)
      intro r hr
      obtain rfl : r = some (.int ((1 : Int32) <<< (s 1 &&& 31))) := hr
      refine And.intro (fun h2 => ?_) (fun h2 => ?_)
      · have h2 : x < (1 : Int32) <<< (s 1 &&& 31) := h2
        rw [hx, hn, p_2n n (by omega), nI_ltI (by omega) (by omega)] at h2; omega
      · refine ⟨rfl, ?_, fun _ => rfl⟩
        show some (Value.int a) = some (Value.int (p_lc (F 5) (F 6) (s 1).toNatClampNeg (2 ^ (s 1).toNatClampNeg)))
        rw [hn, nI_clamp (by omega), ha, show i = 2 ^ n by omega]
    | succ k ih =>
      intro i x a hi hx ha
      have next : ∀ b : Int32, b = p_lcS (F 5) (F 6) n x a → G 1 [some (.ref 0), some (.int b), some (.int (x + 1)), none] [] (w1 x0 x1 x2 x3 x4 x5 y7 y8 y9 s F) := by
        intro b hb
        exact ih (i + 1) _ _ (by omega) (by rw [hx, nI_1]) (by rw [hb, p_lc, ← hx, ← ha])
      have rest : (a < 0 ∨ p_bc x < p_bc a) → s_go none k_X5_leastClashing G (s_PP (some .int) true c_X5_leastClashing.2.2.2.2.2 [.ref 0] (w1 x0 x1 x2 x3 x4 x5 y7 y8 y9 s F)) false 98 4 [some (.ref 0), some (.int a), some (.int x), none] [.int 1] (w1 x0 x1 x2 x3 x4 x5 y7 y8 y9 s F) := by
        intro hor
        refine And.intro (fun h => absurd h (by decide)) (fun _ => ?_)
        refine And.intro ⟨s, F, x, n, rfl, rfl, hn, hn8⟩ ?_
        intro r hr
        obtain rfl : r = some (.int (p_ga (F 6) (s 1).toNatClampNeg x)) := hr
        refine And.intro ⟨s, F, _, n, rfl, rfl, hn, hn8⟩ ?_
        intro r hr
        obtain rfl : r = some (.int (if p_ga (F 5) (s 1).toNatClampNeg (p_ga (F 6) (s 1).toNatClampNeg x) &&& p_ga (F 6) (s 1).toNatClampNeg x = 0 then 0 else 1)) := hr
        have e : (s 1).toNatClampNeg = n := by rw [hn, nI_clamp (by omega)]
        by_cases hc : p_ga (F 5) n (p_ga (F 6) n x) &&& p_ga (F 6) n x = 0
        · refine And.intro (fun _ => ?_) (fun h => ?_)
          · exact next _ (by rw [p_lcS, if_pos hor, if_pos hc])
          · rw [e, if_pos hc] at h; exact absurd rfl h
        · refine And.intro (fun h => ?_) (fun _ => ?_)
          · rw [e, if_neg hc] at h; exact absurd h (by decide)
          · exact next _ (by rw [p_lcS, if_pos hor, if_neg hc])
      refine hG 1 _ _ _ (And.intro ⟨_, _, _, rfl, rfl⟩ ?_)
      intro r hr
      obtain rfl : r = some (.int ((1 : Int32) <<< (s 1 &&& 31))) := hr
      refine And.intro (fun h2 => ?_) (fun h2 => ?_)
      · refine And.intro (fun h3 => ?_) (fun h3 => ?_)
        · exact rest (Or.inl h3)
        · refine And.intro ⟨_, rfl⟩ ?_
          intro r hr
          obtain rfl : r = some (.int (p_bc x)) := hr
          refine And.intro ⟨_, rfl⟩ ?_
          intro r hr
          obtain rfl : r = some (.int (p_bc a)) := hr
          refine And.intro (fun h4 => ?_) (fun h4 => ?_)
          · exact rest (Or.inr h4)
          · refine And.intro (fun _ => ?_) (fun h => absurd rfl h)
            exact next _ (by rw [p_lcS, if_neg (by rintro (q | q); exact h3 q; exact h4 q)])
      · have h2 : ¬ x < (1 : Int32) <<< (s 1 &&& 31) := h2
        rw [hx, hn, p_2n n (by omega), nI_ltI (by omega) (by omega)] at h2; omega
  exact hG 0 _ _ _ (loop (2 ^ n) 0 _ _ (by omega) nI_0.symm rfl)
def r_set (s : Nat → Int32) (F : Nat → Nat → Int32) (z : Int32) : Int32 := if z < 0 then -1 else if 1 < z then -1 else p_ss (p_lc (F 5) (F 6) (s 1).toNatClampNeg (2 ^ (s 1).toNatClampNeg)) z
def c_X5_set : sCtr := ((yX5_set, cX5_set, 2, (some .int)), (6, 1, 4, 89), true,
  w1fp,
  fun vs L => ∃ (x0 x1 x2 x3 x4 x5 : Nat) (y7 y8 y9 : Int32) (s : Nat → Int32) (F : Nat → Nat → Int32) (z : Int32) (n : Nat), vs = [.ref 0, .int z] ∧ L = w1 x0 x1 x2 x3 x4 x5 y7 y8 y9 s F ∧ s 1 = nI n ∧ n ≤ 8,
  fun vs L r _ => r = some (.int (r_set (oI L 1) (bG 1 L) (vI vs 1))))
theorem sta_X5_set : s_Sta c_X5_set := ⟨⟨by decide +kernel, by decide +kernel, by decide +kernel⟩, List.mem_of_getElem? (i := 677) (by decide +kernel), List.mem_of_getElem? (i := 64) (by decide +kernel), ⟨List.mem_of_getElem? (i := 675) (by decide +kernel), List.mem_of_getElem? (i := 676) (by decide +kernel), Or.inl ⟨_, rfl, rfl⟩⟩⟩

def k_X5_set : List sBk := [
  (0, false, [true, true], [o0 0 (.iload_n 1), oN 1 (.ifCond .lt 8) [1], o0 4 (.iload_n 1), oK 5 (.iconst 1) (.int 1), oN 6 (.if_icmp .le 7) [2], oN 9 .nop [1]]),
  (9, false, [false, false], [oK 9 (.iconst (-1)) (.int (-1)), oN 10 (.goto 11) [3]]),
  (13, false, [true, true], [o0 13 (.aload_n 0), oC 14 (.invokevirtual 197) [678] c_X5_leastClashing, o0 17 (.iload_n 1), oC 18 (.invokestatic 188) [663] c_X5_sizeOrSet, oN 21 .nop [3]]),
  (21, false, [false, false], [o0 21 .ireturn])]
set_option maxRecDepth 100000 in
theorem ck_X5_set : s_ck RX5 cX5_set 2 4 89 k_X5_set = true := by decide +kernel

set_option maxRecDepth 100000 in
set_option maxHeartbeats 1000000 in
theorem ok_X5_set : s_Ok c_X5_set := by
  refine s_ok_of k_X5_set (by decide +kernel) sta_X5_set ck_X5_set (And.intro ok_X5_leastClashing (And.intro ok_X5_sizeOrSet trivial)) ?_
  rintro vs L ⟨x0, x1, x2, x3, x4, x5, y7, y8, y9, s, F, z, n, rfl, rfl, hn, hn8⟩
  refine ⟨rfl, fun G hG => ?_⟩
  have fin : ∀ a : Int32, a = r_set s F z → s_PP (some .int) true c_X5_set.2.2.2.2.2 [.ref 0, .int z] (w1 x0 x1 x2 x3 x4 x5 y7 y8 y9 s F) (some (.int a)) (w1 x0 x1 x2 x3 x4 x5 y7 y8 y9 s F) := fun a ha => ⟨rfl, by rw [ha]; rfl, fun _ => rfl⟩
  refine hG 0 _ _ _ (And.intro (fun h => ?_) (fun h => ?_))
  · exact fin _ (by rw [r_set, if_pos h])
  · refine And.intro (fun h2 => ?_) (fun h2 => ?_)
    · exact fin _ (by rw [r_set, if_neg h, if_pos h2])
    · refine And.intro ⟨_, _, _, _, _, _, _, _, _, s, F, n, rfl, rfl, hn, hn8⟩ ?_
      intro r hr
      obtain rfl : r = some (.int (p_lc (F 5) (F 6) (s 1).toNatClampNeg (2 ^ (s 1).toNatClampNeg))) := hr
      refine And.intro ⟨_, _, rfl⟩ ?_
      intro r hr
      obtain rfl : r = some (.int (p_ss (p_lc (F 5) (F 6) (s 1).toNatClampNeg (2 ^ (s 1).toNatClampNeg)) z)) := hr
      exact fin _ (by rw [r_set, if_neg h, if_neg h2])
def p_ltS (cl fo : Nat → Int32) (n : Nat) (h g b : Int32) : Int32 := if g &&& (h ^^^ (-1)) = 0 ∧ p_bc g < p_bc b then (if p_ga cl n (h &&& (p_ro fo g h n ^^^ (-1))) &&& (h &&& (p_ro fo g h n ^^^ (-1))) = 0 then g else b) else b
def p_lt (cl fo : Nat → Int32) (n : Nat) (h : Int32) : Nat → Int32
  | 0 => h
  | k + 1 => p_ltS cl fo n h (nI k) (p_lt cl fo n h k)
def c_X5_leastTaken : sCtr := ((yX5_leastTaken, cX5_leastTaken, 5, (some .int)), (6, 0, 3, 66), true,
  w1fp,
  fun vs L => ∃ (x0 x1 x2 x3 x4 x5 : Nat) (y7 y8 y9 : Int32) (s : Nat → Int32) (F : Nat → Nat → Int32) (n : Nat), vs = [.ref 0] ∧ L = w1 x0 x1 x2 x3 x4 x5 y7 y8 y9 s F ∧ s 1 = nI n ∧ n ≤ 8,
  fun _ L r _ => r = some (.int (p_lt (bG 1 L 5) (bG 1 L 6) (oI L 1 1).toNatClampNeg (oI L 1 5) (2 ^ (oI L 1 1).toNatClampNeg))))
theorem sta_X5_leastTaken : s_Sta c_X5_leastTaken := ⟨⟨by decide +kernel, by decide +kernel, by decide +kernel⟩, List.mem_of_getElem? (i := 697) (by decide +kernel), List.mem_of_getElem? (i := 64) (by decide +kernel), ⟨List.mem_of_getElem? (i := 696) (by decide +kernel), List.mem_of_getElem? (i := 23) (by decide +kernel), Or.inl ⟨_, rfl, rfl⟩⟩⟩

def k_X5_leastTaken : List sBk := [
  (0, false, [true, false, false, false, false], [o0 0 (.aload_n 0), oN 1 (.getfield 49) [5, 6, 304], oN 4 (.getfield 94) [0, 5, 134], o0 7 (.istore_n 1), oK 8 (.iconst 0) (.int 0), o0 9 (.istore_n 2), oN 10 .nop [1]]),
  (10, true, [true, true, true, false, false], [o0 10 (.iload_n 2), o0 11 (.aload_n 0), oN 12 (.getfield 49) [5, 6, 304], oC 15 (.invokevirtual 194) [662] c_X0_sets, oN 18 (.if_icmp .ge 93) [7], o0 21 (.iload_n 2), o0 22 (.aload_n 0), oN 23 (.getfield 49) [5, 6, 304], oN 26 (.getfield 94) [0, 5, 134], oK 29 (.iconst (-1)) (.int (-1)), o0 30 .ixor, o0 31 .iand, oN 32 (.ifCond .ne 7) [2], oK 35 (.iconst 1) (.int 1), oN 36 (.goto 4) [3]]),
  (39, false, [true, true, true, false, false], [oK 39 (.iconst 0) (.int 0), oN 40 .nop [3]]),
  (40, false, [true, true, true, false, false], [o0 40 (.istore_n 3), o0 41 (.iload_n 2), oC 42 (.invokestatic 160) [574] c_J6_bitCount_0f7a4, o0 45 (.iload_n 1), oC 46 (.invokestatic 160) [574] c_J6_bitCount_0f7a4, oN 49 (.if_icmp .ge 7) [4], oK 52 (.iconst 1) (.int 1), oN 53 (.goto 4) [5]]),
  (56, false, [true, true, true, true, false], [oK 56 (.iconst 0) (.int 0), oN 57 .nop [5]]),
  (57, false, [true, true, true, true, false], [o0 57 (.istore 4), o0 59 (.iload_n 3), oN 60 (.ifCond .eq 45) [6], o0 63 (.iload 4), oN 65 (.ifCond .eq 40) [6], o0 68 (.aload_n 0), oN 69 (.getfield 49) [5, 6, 304], o0 72 (.aload_n 0), oN 73 (.getfield 49) [5, 6, 304], oN 76 (.getfield 94) [0, 5, 134], o0 79 (.aload_n 0), oN 80 (.getfield 49) [5, 6, 304], o0 83 (.iload_n 2), o0 84 (.aload_n 0), oN 85 (.getfield 49) [5, 6, 304], oN 88 (.getfield 94) [0, 5, 134], oC 91 (.invokevirtual 166) [584] c_X0_restingOn, oK 94 (.iconst (-1)) (.int (-1)), o0 95 .ixor, o0 96 .iand, oC 97 (.invokevirtual 206) [686] c_X0_haveClash, oN 100 (.ifCond .ne 5) [6], o0 103 (.iload_n 2), o0 104 (.istore_n 1), oN 105 .nop [6]]),
  (105, false, [true, true, true, false, false], [oK 105 (.iinc 2 1) (.int 1), oN 108 (.goto (-98)) [1]]),
  (111, false, [false, true, false, false, false], [o0 111 (.iload_n 1), o0 112 .ireturn])]
set_option maxRecDepth 100000 in
theorem ck_X5_leastTaken : s_ck RX5 cX5_leastTaken 5 3 66 k_X5_leastTaken = true := by decide +kernel

set_option maxRecDepth 100000 in
set_option maxHeartbeats 1000000 in
theorem ok_X5_leastTaken : s_Ok c_X5_leastTaken := by
  refine s_ok_of k_X5_leastTaken (by decide +kernel) sta_X5_leastTaken ck_X5_leastTaken (And.intro ok_X0_sets (And.intro ok_J6_bitCount_0f7a4 (And.intro ok_J6_bitCount_0f7a4 (And.intro ok_X0_restingOn (And.intro ok_X0_haveClash trivial))))) ?_
  rintro vs L ⟨x0, x1, x2, x3, x4, x5, y7, y8, y9, s, F, n, rfl, rfl, hn, hn8⟩
  refine ⟨rfl, fun G hG => ?_⟩
  have h28 := p_2le n hn8
  have e : (s 1).toNatClampNeg = n := by rw [hn, nI_clamp (by omega)]
  have loop : ∀ (k i : Nat) (x a : Int32), i + k = 2 ^ n → x = nI i → a = p_lt (F 5) (F 6) n (s 5) i → G 1 [some (.ref 0), some (.int a), some (.int x), none, none] [] (w1 x0 x1 x2 x3 x4 x5 y7 y8 y9 s F) := by
    intro k
    induction k with
    | zero =>
      intro i x a hi hx ha
      refine hG 1 _ _ _ (And.intro ⟨_, _, _, rfl, rfl⟩ ?_)
      intro r hr
      obtain rfl : r = some (.int ((1 : Int32) <<< (s 1 &&& 31))) := hr
      refine And.intro (fun h2 => ?_) (fun h2 => ?_)
      · have h2 : x < (1 : Int32) <<< (s 1 &&& 31) := h2
        rw [hx, hn, p_2n n (by omega), nI_ltI (by omega) (by omega)] at h2; omega
      · refine ⟨rfl, ?_, fun _ => rfl⟩
        show some (Value.int a) = some (Value.int (p_lt (F 5) (F 6) (s 1).toNatClampNeg (s 5) (2 ^ (s 1).toNatClampNeg)))
        rw [e, ha, show i = 2 ^ n by omega]
    | succ k ih =>
      intro i x a hi hx ha
      have next : ∀ b : Int32, b = p_ltS (F 5) (F 6) n (s 5) x a → G 1 [some (.ref 0), some (.int b), some (.int (x + 1)), none, none] [] (w1 x0 x1 x2 x3 x4 x5 y7 y8 y9 s F) := by
        intro b hb
        exact ih (i + 1) _ _ (by omega) (by rw [hx, nI_1]) (by rw [hb, p_lt, ← hx, ← ha])
      refine hG 1 _ _ _ (And.intro ⟨_, _, _, rfl, rfl⟩ ?_)
      intro r hr
      obtain rfl : r = some (.int ((1 : Int32) <<< (s 1 &&& 31))) := hr
      refine And.intro (fun h2 => ?_) (fun h2 => ?_)
      · refine And.intro (fun h3 => ?_) (fun h3 => ?_)
        · refine And.intro ⟨_, rfl⟩ ?_
          intro r hr
          obtain rfl : r = some (.int (p_bc x)) := hr
          refine And.intro ⟨_, rfl⟩ ?_
          intro r hr
          obtain rfl : r = some (.int (p_bc a)) := hr
          refine And.intro (fun h4 => ?_) (fun h4 => ?_)
          · refine And.intro (fun h => absurd h (by decide)) (fun _ => ?_)
            refine And.intro (fun h => absurd h (by decide)) (fun _ => ?_)
            refine And.intro ⟨s, F, _, _, n, rfl, rfl, hn, hn8⟩ ?_
            intro r hr
            obtain rfl : r = some (.int (p_ro (F 6) x (s 5) (s 1).toNatClampNeg)) := hr
            refine And.intro ⟨s, F, _, n, rfl, rfl, hn, hn8⟩ ?_
            intro r hr
            obtain rfl : r = some (.int (if p_ga (F 5) (s 1).toNatClampNeg (s 5 &&& (p_ro (F 6) x (s 5) (s 1).toNatClampNeg ^^^ (-1))) &&& (s 5 &&& (p_ro (F 6) x (s 5) (s 1).toNatClampNeg ^^^ (-1))) = 0 then 0 else 1)) := hr
            by_cases hc : p_ga (F 5) n (s 5 &&& (p_ro (F 6) x (s 5) n ^^^ (-1))) &&& (s 5 &&& (p_ro (F 6) x (s 5) n ^^^ (-1))) = 0
            · refine And.intro (fun _ => ?_) (fun h => ?_)
              · exact next _ (by rw [p_ltS, if_pos ⟨h3, h4⟩, if_pos hc])
              · rw [e, if_pos hc] at h; exact absurd rfl h
            · refine And.intro (fun h => ?_) (fun _ => ?_)
              · rw [e, if_neg hc] at h; exact absurd h (by decide)
              · exact next _ (by rw [p_ltS, if_pos ⟨h3, h4⟩, if_neg hc])
          · refine And.intro (fun h => absurd h (by decide)) (fun _ => ?_)
            refine And.intro (fun _ => ?_) (fun h => absurd rfl h)
            exact next _ (by rw [p_ltS, if_neg (fun q => h4 q.2)])
        · refine And.intro ⟨_, rfl⟩ ?_
          intro r hr
          obtain rfl : r = some (.int (p_bc x)) := hr
          refine And.intro ⟨_, rfl⟩ ?_
          intro r hr
          obtain rfl : r = some (.int (p_bc a)) := hr
          refine And.intro (fun h4 => ?_) (fun h4 => ?_)
          · refine And.intro (fun _ => ?_) (fun h => absurd rfl h)
            exact next _ (by rw [p_ltS, if_neg (fun q => h3 q.1)])
          · refine And.intro (fun _ => ?_) (fun h => absurd rfl h)
            exact next _ (by rw [p_ltS, if_neg (fun q => h3 q.1)])
      · have h2 : ¬ x < (1 : Int32) <<< (s 1 &&& 31) := h2
        rw [hx, hn, p_2n n (by omega), nI_ltI (by omega) (by omega)] at h2; omega
  exact hG 0 _ _ _ (loop (2 ^ n) 0 _ _ (by omega) nI_0.symm rfl)
def r_rid (s : Nat → Int32) (F : Nat → Nat → Int32) (z : Int32) : Int32 := if z < 0 then -1 else if 1 < z then -1 else p_ss (p_lt (F 5) (F 6) (s 1).toNatClampNeg (s 5) (2 ^ (s 1).toNatClampNeg)) z
def c_X5_rid : sCtr := ((yX5_rid, cX5_rid, 2, (some .int)), (6, 1, 4, 90), true,
  w1fp,
  fun vs L => ∃ (x0 x1 x2 x3 x4 x5 : Nat) (y7 y8 y9 : Int32) (s : Nat → Int32) (F : Nat → Nat → Int32) (z : Int32) (n : Nat), vs = [.ref 0, .int z] ∧ L = w1 x0 x1 x2 x3 x4 x5 y7 y8 y9 s F ∧ s 1 = nI n ∧ n ≤ 8,
  fun vs L r _ => r = some (.int (r_rid (oI L 1) (bG 1 L) (vI vs 1))))
theorem sta_X5_rid : s_Sta c_X5_rid := ⟨⟨by decide +kernel, by decide +kernel, by decide +kernel⟩, List.mem_of_getElem? (i := 693) (by decide +kernel), List.mem_of_getElem? (i := 64) (by decide +kernel), ⟨List.mem_of_getElem? (i := 691) (by decide +kernel), List.mem_of_getElem? (i := 692) (by decide +kernel), Or.inl ⟨_, rfl, rfl⟩⟩⟩

def k_X5_rid : List sBk := [
  (0, false, [true, true], [o0 0 (.iload_n 1), oN 1 (.ifCond .lt 8) [1], o0 4 (.iload_n 1), oK 5 (.iconst 1) (.int 1), oN 6 (.if_icmp .le 7) [2], oN 9 .nop [1]]),
  (9, false, [false, false], [oK 9 (.iconst (-1)) (.int (-1)), oN 10 (.goto 11) [3]]),
  (13, false, [true, true], [o0 13 (.aload_n 0), oC 14 (.invokevirtual 200) [694] c_X5_leastTaken, o0 17 (.iload_n 1), oC 18 (.invokestatic 188) [663] c_X5_sizeOrSet, oN 21 .nop [3]]),
  (21, false, [false, false], [o0 21 .ireturn])]
set_option maxRecDepth 100000 in
theorem ck_X5_rid : s_ck RX5 cX5_rid 2 4 90 k_X5_rid = true := by decide +kernel

set_option maxRecDepth 100000 in
set_option maxHeartbeats 1000000 in
theorem ok_X5_rid : s_Ok c_X5_rid := by
  refine s_ok_of k_X5_rid (by decide +kernel) sta_X5_rid ck_X5_rid (And.intro ok_X5_leastTaken (And.intro ok_X5_sizeOrSet trivial)) ?_
  rintro vs L ⟨x0, x1, x2, x3, x4, x5, y7, y8, y9, s, F, z, n, rfl, rfl, hn, hn8⟩
  refine ⟨rfl, fun G hG => ?_⟩
  have fin : ∀ a : Int32, a = r_rid s F z → s_PP (some .int) true c_X5_rid.2.2.2.2.2 [.ref 0, .int z] (w1 x0 x1 x2 x3 x4 x5 y7 y8 y9 s F) (some (.int a)) (w1 x0 x1 x2 x3 x4 x5 y7 y8 y9 s F) := fun a ha => ⟨rfl, by rw [ha]; rfl, fun _ => rfl⟩
  refine hG 0 _ _ _ (And.intro (fun h => ?_) (fun h => ?_))
  · exact fin _ (by rw [r_rid, if_pos h])
  · refine And.intro (fun h2 => ?_) (fun h2 => ?_)
    · exact fin _ (by rw [r_rid, if_neg h, if_pos h2])
    · refine And.intro ⟨_, _, _, _, _, _, _, _, _, s, F, n, rfl, rfl, hn, hn8⟩ ?_
      intro r hr
      obtain rfl : r = some (.int (p_lt (F 5) (F 6) (s 1).toNatClampNeg (s 5) (2 ^ (s 1).toNatClampNeg))) := hr
      refine And.intro ⟨_, _, rfl⟩ ?_
      intro r hr
      obtain rfl : r = some (.int (p_ss (p_lt (F 5) (F 6) (s 1).toNatClampNeg (s 5) (2 ^ (s 1).toNatClampNeg)) z)) := hr
      exact fin _ (by rw [r_rid, if_neg h, if_neg h2])
end
section
/-! ===== WishClerk: what fits, by a seed, odds ===== -/
def p_fit (wa : Nat → Int32) (n : Nat) (lv ml mn g : Int32) : Prop := ml &&& ((lv ||| p_ga wa n g) ^^^ (-1)) = 0 ∧ mn &&& (lv ||| p_ga wa n g) = 0
def p_fS (wa : Nat → Int32) (n : Nat) (lv ml mn g : Int32) (q : Int32 × Int32 × Int32 × Int32) : Int32 × Int32 × Int32 × Int32 :=
  if ml &&& ((lv ||| p_ga wa n g) ^^^ (-1)) = 0 ∧ mn &&& (lv ||| p_ga wa n g) = 0 then (q.1 + 1, (if q.2.1 < 0 then g else q.2.1), q.2.2.1 &&& g, q.2.2.2 ||| g) else q
def p_fs (wa : Nat → Int32) (n : Nat) (lv ml mn : Int32) : Nat → Int32 × Int32 × Int32 × Int32
  | 0 => (0, -4, ((1 : Int32) <<< (nI n &&& 31)) - 1, 0)
  | k + 1 => p_fS wa n lv ml mn (nI k) (p_fs wa n lv ml mn k)
def p_fq (s : Nat → Int32) (F : Nat → Nat → Int32) : Int32 × Int32 × Int32 × Int32 := p_fs (F 7) (s 1).toNatClampNeg (s 3) (p_so (F 9) (s 17) 1 (s 18).toNatClampNeg) (p_so (F 9) (s 17) 0 (s 18).toNatClampNeg) (2 ^ (s 1).toNatClampNeg)
def r_fits (s : Nat → Int32) (F : Nat → Nat → Int32) (z : Int32) : Int32 := if z < 0 then -1 else if 3 < z then -1 else if z = 0 then (p_fq s F).1 else if (p_fq s F).1 = 0 then (p_fq s F).2.1 else if z = 1 then (p_fq s F).2.1 else if z = 2 then (p_fq s F).2.2.1 else (((1 : Int32) <<< (s 1 &&& 31)) - 1) &&& ((p_fq s F).2.2.2 ^^^ (-1))
def c_X5_fits : sCtr := ((yX5_fits, cX5_fits, 10, (some .int)), (6, 1, 3, 66), true,
  w1fp,
  fun vs L => ∃ (x0 x1 x2 x3 x4 x5 : Nat) (y7 y8 y9 : Int32) (s : Nat → Int32) (F : Nat → Nat → Int32) (z : Int32) (n m : Nat), vs = [.ref 0, .int z] ∧ L = w1 x0 x1 x2 x3 x4 x5 y7 y8 y9 s F ∧ s 1 = nI n ∧ n ≤ 8 ∧ s 18 = nI m ∧ m ≤ 8,
  fun vs L r _ => r = some (.int (r_fits (oI L 1) (bG 1 L) (vI vs 1))))
theorem sta_X5_fits : s_Sta c_X5_fits := ⟨⟨by decide +kernel, by decide +kernel, by decide +kernel⟩, List.mem_of_getElem? (i := 725) (by decide +kernel), List.mem_of_getElem? (i := 64) (by decide +kernel), ⟨List.mem_of_getElem? (i := 723) (by decide +kernel), List.mem_of_getElem? (i := 724) (by decide +kernel), Or.inl ⟨_, rfl, rfl⟩⟩⟩

def k_X5_fits : List sBk := [
  (0, false, [true, true, false, false, false, false, false, false, false, false], [o0 0 (.iload_n 1), oN 1 (.ifCond .lt 8) [1], o0 4 (.iload_n 1), oK 5 (.iconst 3) (.int 3), oN 6 (.if_icmp .le 5) [2], oN 9 .nop [1]]),
  (9, false, [false, false, false, false, false, false, false, false, false, false], [oK 9 (.iconst (-1)) (.int (-1)), o0 10 .ireturn]),
  (11, false, [true, true, false, false, false, false, false, false, false, false], [oK 11 (.iconst 0) (.int 0), o0 12 (.istore_n 2), oK 13 (.bipush (-4)) (.int (-4)), o0 15 (.istore_n 3), o0 16 (.aload_n 0), oN 17 (.getfield 49) [5, 6, 304], oC 20 (.invokevirtual 194) [662] c_X0_sets, oK 23 (.iconst 1) (.int 1), o0 24 .isub, o0 25 (.istore 4), oK 27 (.iconst 0) (.int 0), o0 28 (.istore 5), o0 30 (.aload_n 0), oN 31 (.getfield 49) [5, 6, 304], oK 34 (.iconst 1) (.int 1), oC 35 (.invokevirtual 229) [726] c_X0_seenOnes, o0 38 (.istore 6), o0 40 (.aload_n 0), oN 41 (.getfield 49) [5, 6, 304], oK 44 (.iconst 0) (.int 0), oC 45 (.invokevirtual 229) [726] c_X0_seenOnes, o0 48 (.istore 7), oK 50 (.iconst 0) (.int 0), o0 51 (.istore 8), oN 53 .nop [3]]),
  (53, true, [true, true, true, true, true, true, true, true, true, false], [o0 53 (.iload 8), o0 55 (.aload_n 0), oN 56 (.getfield 49) [5, 6, 304], oC 59 (.invokevirtual 194) [662] c_X0_sets, oN 62 (.if_icmp .ge 74) [7], o0 65 (.aload_n 0), oN 66 (.getfield 49) [5, 6, 304], oN 69 (.getfield 88) [0, 3, 127], o0 72 (.aload_n 0), oN 73 (.getfield 49) [5, 6, 304], o0 76 (.iload 8), oC 78 (.invokevirtual 233) [730] c_X0_wantedBy, o0 81 .ior, o0 82 (.istore 9), o0 84 (.iload 6), o0 86 (.iload 9), oK 88 (.iconst (-1)) (.int (-1)), o0 89 .ixor, o0 90 .iand, oN 91 (.ifCond .ne 39) [6], o0 94 (.iload 7), o0 96 (.iload 9), o0 98 .iand, oN 99 (.ifCond .ne 31) [6], oK 102 (.iinc 2 1) (.int 1), o0 105 (.iload_n 3), oN 106 (.ifCond .ge 8) [4], o0 109 (.iload 8), oN 111 (.goto 4) [5]]),
  (114, false, [true, true, true, true, true, true, true, true, true, false], [o0 114 (.iload_n 3), oN 115 .nop [5]]),
  (115, false, [true, true, true, false, true, true, true, true, true, false], [o0 115 (.istore_n 3), o0 116 (.iload 4), o0 118 (.iload 8), o0 120 .iand, o0 121 (.istore 4), o0 123 (.iload 5), o0 125 (.iload 8), o0 127 .ior, o0 128 (.istore 5), oN 130 .nop [6]]),
  (130, false, [true, true, true, true, true, true, true, true, true, false], [oK 130 (.iinc 8 1) (.int 1), oN 133 (.goto (-80)) [3]]),
  (136, false, [true, true, true, true, true, true, false, false, false, false], [o0 136 (.iload_n 1), oN 137 (.ifCond .ne 5) [8], o0 140 (.iload_n 2), o0 141 .ireturn]),
  (142, false, [true, true, true, true, true, true, false, false, false, false], [o0 142 (.iload_n 2), oN 143 (.ifCond .eq 8) [9], o0 146 (.iload_n 1), oK 147 (.iconst 1) (.int 1), oN 148 (.if_icmp .ne 5) [10], oN 151 .nop [9]]),
  (151, false, [false, false, false, true, false, false, false, false, false, false], [o0 151 (.iload_n 3), o0 152 .ireturn]),
  (153, false, [true, true, false, false, true, true, false, false, false, false], [o0 153 (.iload_n 1), oK 154 (.iconst 2) (.int 2), oN 155 (.if_icmp .ne 8) [11], o0 158 (.iload 4), oN 160 (.goto 17) [12]]),
  (163, false, [true, false, false, false, false, true, false, false, false, false], [o0 163 (.aload_n 0), oN 164 (.getfield 49) [5, 6, 304], oC 167 (.invokevirtual 194) [662] c_X0_sets, oK 170 (.iconst 1) (.int 1), o0 171 .isub, o0 172 (.iload 5), oK 174 (.iconst (-1)) (.int (-1)), o0 175 .ixor, o0 176 .iand, oN 177 .nop [12]]),
  (177, false, [false, false, false, false, false, false, false, false, false, false], [o0 177 .ireturn])]
set_option maxRecDepth 100000 in
theorem ck_X5_fits : s_ck RX5 cX5_fits 10 3 66 k_X5_fits = true := by decide +kernel

set_option maxRecDepth 100000 in
set_option maxHeartbeats 1000000 in
theorem ok_X5_fits : s_Ok c_X5_fits := by
  refine s_ok_of k_X5_fits (by decide +kernel) sta_X5_fits ck_X5_fits (And.intro ok_X0_sets (And.intro ok_X0_seenOnes (And.intro ok_X0_seenOnes (And.intro ok_X0_sets (And.intro ok_X0_wantedBy (And.intro ok_X0_sets trivial)))))) ?_
  rintro vs L ⟨x0, x1, x2, x3, x4, x5, y7, y8, y9, s, F, z, n, m, rfl, rfl, hn, hn8, hm, hm8⟩
  refine ⟨rfl, fun G hG => ?_⟩
  have h28 := p_2le n hn8
  have e : (s 1).toNatClampNeg = n := by rw [hn, nI_clamp (by omega)]
  have fin : ∀ a : Int32, a = r_fits s F z → s_PP (some .int) true c_X5_fits.2.2.2.2.2 [.ref 0, .int z] (w1 x0 x1 x2 x3 x4 x5 y7 y8 y9 s F) (some (.int a)) (w1 x0 x1 x2 x3 x4 x5 y7 y8 y9 s F) := fun a ha => ⟨rfl, by rw [ha]; rfl, fun _ => rfl⟩
  refine hG 0 _ _ _ (And.intro (fun h => ?_) (fun h => ?_))
  · exact fin _ (by rw [r_fits, if_pos h])
  · refine And.intro (fun h2 => ?_) (fun h2 => ?_)
    · exact fin _ (by rw [r_fits, if_neg h, if_pos h2])
    · have h1 : ∀ r, r = r_fits s F z ↔ r = (if z = 0 then (p_fq s F).1 else if (p_fq s F).1 = 0 then (p_fq s F).2.1 else if z = 1 then (p_fq s F).2.1 else if z = 2 then (p_fq s F).2.2.1 else (((1 : Int32) <<< (s 1 &&& 31)) - 1) &&& ((p_fq s F).2.2.2 ^^^ (-1))) := fun r => by rw [r_fits, if_neg h, if_neg h2]
      obtain ⟨ml, hml⟩ : ∃ ml, ml = p_so (F 9) (s 17) 1 (s 18).toNatClampNeg := ⟨_, rfl⟩
      obtain ⟨mn, hmn⟩ : ∃ mn, mn = p_so (F 9) (s 17) 0 (s 18).toNatClampNeg := ⟨_, rfl⟩
      have loop : ∀ (k i : Nat) (x a1 a2 a3 a4 : Int32), i + k = 2 ^ n → x = nI i → (a1, a2, a3, a4) = p_fs (F 7) n (s 3) ml mn i → G 3 [some (.ref 0), some (.int z), some (.int a1), some (.int a2), some (.int a3), some (.int a4), some (.int ml), some (.int mn), some (.int x), none] [] (w1 x0 x1 x2 x3 x4 x5 y7 y8 y9 s F) := by
        intro k
        induction k with
        | zero =>
          intro i x a1 a2 a3 a4 hi hx ha
          refine hG 3 _ _ _ (And.intro ⟨_, _, _, rfl, rfl⟩ ?_)
          intro r hr
          obtain rfl : r = some (.int ((1 : Int32) <<< (s 1 &&& 31))) := hr
          have hq : (a1, a2, a3, a4) = p_fq s F := by rw [ha, p_fq, e, ← hml, ← hmn, show i = 2 ^ n by omega]
          have q1 : a1 = (p_fq s F).1 := by rw [← hq]
          have q2 : a2 = (p_fq s F).2.1 := by rw [← hq]
          have q3 : a3 = (p_fq s F).2.2.1 := by rw [← hq]
          have q4 : a4 = (p_fq s F).2.2.2 := by rw [← hq]
          refine And.intro (fun h3 => ?_) (fun h3 => ?_)
          · have h3 : x < (1 : Int32) <<< (s 1 &&& 31) := h3
            rw [hx, hn, p_2n n (by omega), nI_ltI (by omega) (by omega)] at h3; omega
          · refine And.intro (fun h4 => ?_) (fun h4 => ?_)
            · exact fin _ ((h1 _).mpr (by rw [if_pos h4, q1]))
            · refine And.intro (fun h5 => ?_) (fun h5 => ?_)
              · exact fin _ ((h1 _).mpr (by rw [if_neg h4, if_pos (by rw [← q1]; exact h5), q2]))
              · have h5' : ¬ (p_fq s F).1 = 0 := by rw [← q1]; exact h5
                refine And.intro (fun h6 => ?_) (fun h6 => ?_)
                · exact fin _ ((h1 _).mpr (by rw [if_neg h4, if_neg h5', if_pos h6, q2]))
                · refine And.intro (fun h7 => ?_) (fun h7 => ?_)
                  · exact fin _ ((h1 _).mpr (by rw [if_neg h4, if_neg h5', if_neg h6, if_pos h7, q3]))
                  · refine And.intro ⟨_, _, _, rfl, rfl⟩ ?_
                    intro r hr
                    obtain rfl : r = some (.int ((1 : Int32) <<< (s 1 &&& 31))) := hr
                    exact fin _ ((h1 _).mpr (by rw [if_neg h4, if_neg h5', if_neg h6, if_neg h7, q4]))
        | succ k ih =>
          intro i x a1 a2 a3 a4 hi hx ha
          refine hG 3 _ _ _ (And.intro ⟨_, _, _, rfl, rfl⟩ ?_)
          intro r hr
          obtain rfl : r = some (.int ((1 : Int32) <<< (s 1 &&& 31))) := hr
          have next : ∀ b1 b2 b3 b4 : Int32, (b1, b2, b3, b4) = p_fS (F 7) n (s 3) ml mn x (a1, a2, a3, a4) → G 3 [some (.ref 0), some (.int z), some (.int b1), some (.int b2), some (.int b3), some (.int b4), some (.int ml), some (.int mn), some (.int (x + 1)), none] [] (w1 x0 x1 x2 x3 x4 x5 y7 y8 y9 s F) := fun b1 b2 b3 b4 hb => ih (i + 1) _ _ _ _ _ (by omega) (by rw [hx, nI_1]) (by rw [hb, p_fs, ← ha, ← hx])
          refine And.intro (fun h3 => ?_) (fun h3 => ?_)
          · refine And.intro ⟨s, F, x, n, rfl, rfl, hn, hn8⟩ ?_
            intro r hr
            obtain ⟨al, hal⟩ : ∃ al, al = p_ga (F 7) n x := ⟨_, rfl⟩
            obtain rfl : r = some (.int al) := by rw [hal, ← e]; exact hr
            refine And.intro (fun h4 => ?_) (fun h4 => ?_)
            · refine And.intro (fun h5 => ?_) (fun h5 => ?_)
              · refine And.intro (fun h6 => ?_) (fun h6 => ?_)
                · exact next _ _ _ _ (by rw [p_fS, ← hal, if_pos ⟨h4, h5⟩, if_pos h6])
                · exact next _ _ _ _ (by rw [p_fS, ← hal, if_pos ⟨h4, h5⟩, if_neg h6])
              · exact next _ _ _ _ (by rw [p_fS, ← hal, if_neg (fun q => h5 q.2)])
            · exact next _ _ _ _ (by rw [p_fS, ← hal, if_neg (fun q => h4 q.1)])
          · have h3 : ¬ x < (1 : Int32) <<< (s 1 &&& 31) := h3
            rw [hx, hn, p_2n n (by omega), nI_ltI (by omega) (by omega)] at h3; omega
      refine And.intro ⟨_, _, _, rfl, rfl⟩ ?_
      intro r hr
      obtain rfl : r = some (.int ((1 : Int32) <<< (s 1 &&& 31))) := hr
      refine And.intro ⟨s, F, 1, m, rfl, rfl, hm, hm8⟩ ?_
      intro r hr
      obtain rfl : r = some (.int ml) := by rw [hml]; exact hr
      refine And.intro ⟨s, F, 0, m, rfl, rfl, hm, hm8⟩ ?_
      intro r hr
      obtain rfl : r = some (.int mn) := by rw [hmn]; exact hr
      exact loop (2 ^ n) 0 _ _ _ _ _ (by omega) nI_0.symm (by rw [p_fs, ← hn])
/-- the weight of a plan with these asleep -/
def p_wt (v m : Int32) : Nat → Int64
  | 0 => 1
  | k + 1 => if p_hb m (nI k) = 0 then p_wt v m k * (10 - v).toInt64 else p_wt v m k * v.toInt64
def c_X5_weightOf : sCtr := ((yX5_weightOf, cX5_weightOf, 6, (some .long)), (6, 2, 1, 21), true,
  w1fp,
  fun vs L => ∃ (x0 x1 x2 x3 x4 x5 : Nat) (y7 y8 y9 : Int32) (s : Nat → Int32) (F : Nat → Nat → Int32) (m v : Int32) (n : Nat), vs = [.ref 0, .int m, .int v] ∧ L = w1 x0 x1 x2 x3 x4 x5 y7 y8 y9 s F ∧ s 15 = nI n ∧ n ≤ 6,
  fun vs L r _ => r = some (.long (p_wt (vI vs 2) (vI vs 1) (oI L 1 15).toNatClampNeg)))
theorem sta_X5_weightOf : s_Sta c_X5_weightOf := ⟨⟨by decide +kernel, by decide +kernel, by decide +kernel⟩, List.mem_of_getElem? (i := 742) (by decide +kernel), List.mem_of_getElem? (i := 64) (by decide +kernel), ⟨List.mem_of_getElem? (i := 741) (by decide +kernel), List.mem_of_getElem? (i := 25) (by decide +kernel), Or.inl ⟨_, rfl, rfl⟩⟩⟩

def k_X5_weightOf : List sBk := [
  (0, false, [true, true, true, false, false, false], [oK 0 (.lconst 1) (.long 1), o0 1 (.lstore_n 3), oK 2 (.iconst 0) (.int 0), o0 3 (.istore 5), oN 5 .nop [1]]),
  (5, true, [true, true, true, true, false, true], [o0 5 (.iload 5), o0 7 (.aload_n 0), oN 8 (.getfield 49) [5, 6, 304], oN 11 (.getfield 100) [0, 15, 164], oN 14 (.if_icmp .ge 31) [4], o0 17 (.lload_n 3), o0 18 (.iload_n 1), o0 19 (.iload 5), oC 21 (.invokestatic 157) [573] c_X5_hasBit, oN 24 (.ifCond .eq 8) [2], o0 27 (.iload_n 2), o0 28 .i2l, oN 29 (.goto 8) [3]]),
  (32, false, [true, true, true, false, false, true], [oK 32 (.bipush 10) (.int 10), o0 34 (.iload_n 2), o0 35 .isub, o0 36 .i2l, oN 37 .nop [3]]),
  (37, false, [true, true, true, false, false, true], [o0 37 .lmul, o0 38 (.lstore_n 3), oK 39 (.iinc 5 1) (.int 1), oN 42 (.goto (-37)) [1]]),
  (45, false, [false, false, false, true, false, false], [o0 45 (.lload_n 3), o0 46 .lreturn])]
set_option maxRecDepth 100000 in
theorem ck_X5_weightOf : s_ck RX5 cX5_weightOf 6 1 21 k_X5_weightOf = true := by decide +kernel

set_option maxRecDepth 100000 in
set_option maxHeartbeats 1000000 in
theorem ok_X5_weightOf : s_Ok c_X5_weightOf := by
  refine s_ok_of k_X5_weightOf (by decide +kernel) sta_X5_weightOf ck_X5_weightOf (And.intro ok_X5_hasBit trivial) ?_
  rintro vs L ⟨x0, x1, x2, x3, x4, x5, y7, y8, y9, s, F, m, v, n, rfl, rfl, hn, hn8⟩
  refine ⟨rfl, fun G hG => ?_⟩
  have loop : ∀ (k i : Nat) (x : Int32) (a : Int64), i + k = n → x = nI i → a = p_wt v m i → G 1 [some (.ref 0), some (.int m), some (.int v), some (.long a), none, some (.int x)] [] (w1 x0 x1 x2 x3 x4 x5 y7 y8 y9 s F) := by
    intro k
    induction k with
    | zero =>
      intro i x a hi hx ha
      refine hG 1 _ _ _ (And.intro (fun h2 => ?_) (fun h2 => ?_))
      · have h2 : x < s 15 := h2
        rw [hx, hn, nI_ltI (by omega) (by omega)] at h2; omega
      · refine ⟨rfl, ?_, fun _ => rfl⟩
        show some (Value.long a) = some (Value.long (p_wt v m (s 15).toNatClampNeg))
        rw [hn, nI_clamp (by omega), ha, show i = n by omega]
    | succ k ih =>
      intro i x a hi hx ha
      refine hG 1 _ _ _ (And.intro (fun h2 => ?_) (fun h2 => ?_))
      · refine And.intro ⟨_, _, rfl⟩ ?_
        intro r hr
        obtain rfl : r = some (.int (p_hb m x)) := hr
        refine And.intro (fun h3 => ?_) (fun h3 => ?_)
        · exact ih (i + 1) _ _ (by omega) (by rw [hx, nI_1]) (by rw [p_wt, ← hx, if_pos h3, ha])
        · exact ih (i + 1) _ _ (by omega) (by rw [hx, nI_1]) (by rw [p_wt, ← hx, if_neg h3, ha])
      · have h2 : ¬ x < s 15 := h2
        rw [hx, hn, nI_ltI (by omega) (by omega)] at h2; omega
  exact hG 0 _ _ _ (loop n 0 _ _ (by omega) nI_0.symm rfl)
/-- one wish of the plan asked, the clerk asleep by m's bit; what holds and who lives -/
def p_aS (on nd cl fo wa pw : Nat → Int32) (n : Nat) (li ba : Int32) (d : Nat) (m : Int32) (i : Nat) (q : Int32 × Int32) : Int32 × Int32 :=
  if p_hb q.1 (pw i) = 0 then
    (if p_hb m (nI i) = 0 then (if p_re on nd cl n li ba (pw i) q.1 q.2 d = 0 then (q.1 ||| fo (pw i).toNatClampNeg, q.2 ||| wa (pw i).toNatClampNeg) else q) else (q.1 ||| fo (pw i).toNatClampNeg, q.2 ||| wa (pw i).toNatClampNeg))
  else q
def p_apR (on nd cl fo wa pw : Nat → Int32) (n : Nat) (li ba : Int32) (d : Nat) (h l m : Int32) : Nat → Int32 × Int32
  | 0 => (h, l)
  | k + 1 => p_aS on nd cl fo wa pw n li ba d m k (p_apR on nd cl fo wa pw n li ba d h l m k)
def p_ap (s : Nat → Int32) (F : Nat → Nat → Int32) (m : Int32) (k : Nat) : Int32 × Int32 := p_apR (F 3) (F 4) (F 5) (F 6) (F 7) (F 8) (s 1).toNatClampNeg (s 6) (s 4) (s 2).toNatClampNeg (s 5) (s 3) m k
def p_aB (s : Nat → Int32) (F : Nat → Nat → Int32) (m : Int32) (i : Nat) (q : Int32 × Int32) : Int32 × Int32 := p_aS (F 3) (F 4) (F 5) (F 6) (F 7) (F 8) (s 1).toNatClampNeg (s 6) (s 4) (s 2).toNatClampNeg m i q
def c_X5_aliveAfterPlan : sCtr := ((yX5_aliveAfterPlan, cX5_aliveAfterPlan, 6, (some .int)), (6, 1, 4, 96), true,
  w1fp,
  fun vs L => ∃ (x0 x1 x2 x3 x4 x5 : Nat) (y7 y8 y9 : Int32) (s : Nat → Int32) (F : Nat → Nat → Int32) (m : Int32) (n pl d : Nat), vs = [.ref 0, .int m] ∧ L = w1 x0 x1 x2 x3 x4 x5 y7 y8 y9 s F ∧ s 15 = nI pl ∧ pl ≤ 6 ∧ s 1 = nI n ∧ n ≤ 8 ∧ s 2 = nI d ∧ d ≤ 8 ∧ ∀ i, i < pl → ∃ j, j < n ∧ F 8 i = nI j,
  fun vs L r _ => r = some (.int (p_ap (oI L 1) (bG 1 L) (vI vs 1) (oI L 1 15).toNatClampNeg).2))
theorem sta_X5_aliveAfterPlan : s_Sta c_X5_aliveAfterPlan := ⟨⟨by decide +kernel, by decide +kernel, by decide +kernel⟩, List.mem_of_getElem? (i := 746) (by decide +kernel), List.mem_of_getElem? (i := 64) (by decide +kernel), ⟨List.mem_of_getElem? (i := 745) (by decide +kernel), List.mem_of_getElem? (i := 26) (by decide +kernel), Or.inl ⟨_, rfl, rfl⟩⟩⟩

def k_X5_aliveAfterPlan : List sBk := [
  (0, false, [true, true, false, false, false, false], [o0 0 (.aload_n 0), oN 1 (.getfield 49) [5, 6, 304], oN 4 (.getfield 94) [0, 5, 134], o0 7 (.istore_n 2), o0 8 (.aload_n 0), oN 9 (.getfield 49) [5, 6, 304], oN 12 (.getfield 88) [0, 3, 127], o0 15 (.istore_n 3), oK 16 (.iconst 0) (.int 0), o0 17 (.istore 4), oN 19 .nop [1]]),
  (19, true, [true, true, true, true, true, false], [o0 19 (.iload 4), o0 21 (.aload_n 0), oN 22 (.getfield 49) [5, 6, 304], oN 25 (.getfield 100) [0, 15, 164], oN 28 (.if_icmp .ge 89) [5], o0 31 (.aload_n 0), oN 32 (.getfield 49) [5, 6, 304], oN 35 (.getfield 128) [0, 14, 161], o0 38 (.iload 4), o0 40 .iaload, o0 41 (.istore 5), o0 43 (.iload_n 2), o0 44 (.iload 5), oC 46 (.invokestatic 157) [573] c_X5_hasBit, oN 49 (.ifCond .eq 6) [2], oN 52 (.goto 59) [4]]),
  (55, false, [true, true, true, true, true, true], [o0 55 (.iload_n 1), o0 56 (.iload 4), oC 58 (.invokestatic 157) [573] c_X5_hasBit, oN 61 (.ifCond .ne 24) [3], o0 64 (.aload_n 0), oN 65 (.getfield 49) [5, 6, 304], o0 68 (.iload 5), o0 70 (.iload_n 2), o0 71 (.iload_n 3), o0 72 (.aload_n 0), oN 73 (.getfield 49) [5, 6, 304], oN 76 (.getfield 85) [0, 2, 123], oC 79 (.invokevirtual 153) [565] c_X0_refusal, oN 82 (.ifCond .ne 29) [4], oN 85 .nop [3]]),
  (85, false, [true, true, true, true, true, true], [o0 85 (.iload_n 2), o0 86 (.aload_n 0), oN 87 (.getfield 49) [5, 6, 304], oN 90 (.getfield 122) [0, 12, 156], o0 93 (.iload 5), o0 95 .iaload, o0 96 .ior, o0 97 (.istore_n 2), o0 98 (.iload_n 3), o0 99 (.aload_n 0), oN 100 (.getfield 49) [5, 6, 304], oN 103 (.getfield 125) [0, 13, 159], o0 106 (.iload 5), o0 108 .iaload, o0 109 .ior, o0 110 (.istore_n 3), oN 111 .nop [4]]),
  (111, false, [true, true, true, true, true, false], [oK 111 (.iinc 4 1) (.int 1), oN 114 (.goto (-95)) [1]]),
  (117, false, [false, false, false, true, false, false], [o0 117 (.iload_n 3), o0 118 .ireturn])]
set_option maxRecDepth 100000 in
theorem ck_X5_aliveAfterPlan : s_ck RX5 cX5_aliveAfterPlan 6 4 96 k_X5_aliveAfterPlan = true := by decide +kernel

set_option maxRecDepth 100000 in
set_option maxHeartbeats 1000000 in
theorem ok_X5_aliveAfterPlan : s_Ok c_X5_aliveAfterPlan := by
  refine s_ok_of k_X5_aliveAfterPlan (by decide +kernel) sta_X5_aliveAfterPlan ck_X5_aliveAfterPlan (And.intro ok_X5_hasBit (And.intro ok_X5_hasBit (And.intro ok_X0_refusal trivial))) ?_
  rintro vs L ⟨x0, x1, x2, x3, x4, x5, y7, y8, y9, s, F, m, n, pl, d, rfl, rfl, hpl, hpl6, hn, hn8, hd, hd8, hF⟩
  refine ⟨rfl, fun G hG => ?_⟩
  have loop : ∀ (k i : Nat) (x a b : Int32), i + k = pl → x = nI i → (a, b) = p_ap s F m i → G 1 [some (.ref 0), some (.int m), some (.int a), some (.int b), some (.int x), none] [] (w1 x0 x1 x2 x3 x4 x5 y7 y8 y9 s F) := by
    intro k
    induction k with
    | zero =>
      intro i x a b hi hx ha
      refine hG 1 _ _ _ (And.intro (fun h2 => ?_) (fun h2 => ?_))
      · have h2 : x < s 15 := h2
        rw [hx, hpl, nI_ltI (by omega) (by omega)] at h2; omega
      · refine ⟨rfl, ?_, fun _ => rfl⟩
        show some (Value.int b) = some (Value.int (p_ap s F m (s 15).toNatClampNeg).2)
        rw [hpl, nI_clamp (by omega), ← show i = pl by omega, ← ha]
    | succ k ih =>
      intro i x a b hi hx ha
      have hc : x.toNatClampNeg = i := by rw [hx, nI_clamp (by omega)]
      have hi6 : vp_in x 6 := by rw [hx]; exact vp_in_nI (by omega) (by omega)
      obtain ⟨j, hj, hFj⟩ := hF i (by omega)
      have hw : vp_in (F 8 x.toNatClampNeg) 8 := by rw [hc, hFj]; exact vp_in_nI (by omega) (by omega)
      have next : ∀ b1 b2 : Int32, (b1, b2) = p_aB s F m i (a, b) → G 1 [some (.ref 0), some (.int m), some (.int b1), some (.int b2), some (.int (x + 1)), none] [] (w1 x0 x1 x2 x3 x4 x5 y7 y8 y9 s F) := fun b1 b2 hb => ih (i + 1) _ _ _ (by omega) (by rw [hx, nI_1]) (by rw [hb, ha]; rfl)
      refine hG 1 _ _ _ (And.intro (fun h2 => ?_) (fun h2 => ?_))
      · refine And.intro hi6 (And.intro ⟨_, _, rfl⟩ ?_)
        intro r hr
        obtain rfl : r = some (.int (p_hb a (F 8 x.toNatClampNeg))) := hr
        refine And.intro (fun h3 => ?_) (fun h3 => ?_)
        · have h3 : p_hb a (F 8 x.toNatClampNeg) = 0 := h3
          rw [hc] at h3
          refine And.intro ⟨_, _, rfl⟩ ?_
          intro r hr
          obtain rfl : r = some (.int (p_hb m x)) := hr
          refine And.intro (fun h4 => ?_) (fun h4 => ?_)
          · have h4 : p_hb m x = 0 := h4
            rw [hx] at h4
            refine And.intro ⟨s, F, _, _, _, _, n, d, rfl, rfl, hn, hn8, hd, hd8⟩ ?_
            intro r hr
            obtain rfl : r = some (.int (p_reB s F (F 8 x.toNatClampNeg) a b)) := hr
            refine And.intro (fun h5 => ?_) (fun h5 => ?_)
            · have h5 : p_reB s F (F 8 x.toNatClampNeg) a b = 0 := h5
              refine And.intro hw (And.intro hw ?_)
              refine next _ _ ?_
              rw [hc] at h5 ⊢
              rw [p_reB] at h5
              rw [p_aB, p_aS, if_pos h3, if_pos h4, if_pos h5]
            · have h5 : ¬ p_reB s F (F 8 x.toNatClampNeg) a b = 0 := h5
              refine next _ _ ?_
              rw [hc] at h5
              rw [p_reB] at h5
              rw [p_aB, p_aS, if_pos h3, if_pos h4, if_neg h5]
          · have h4 : ¬ p_hb m x = 0 := h4
            rw [hx] at h4
            refine And.intro hw (And.intro hw ?_)
            refine next _ _ ?_
            rw [hc, p_aB, p_aS, if_pos h3, if_neg h4]
        · have h3 : ¬ p_hb a (F 8 x.toNatClampNeg) = 0 := h3
          rw [hc] at h3
          exact next _ _ (by rw [p_aB, p_aS, if_neg h3])
      · have h2 : ¬ x < s 15 := h2
        rw [hx, hpl, nI_ltI (by omega) (by omega)] at h2; omega
  exact hG 0 _ _ _ (loop pl 0 _ _ _ (by omega) nI_0.symm rfl)
def p_gd : Nat → Int64 → Int64 → Int64
  | 0, b, _ => b
  | k + 1, b, t => if t = 0 then b else p_gd k t (b - b / t * t)
def vJ (vs : sS) (k : Nat) : Int64 := match s_nth vs k with
  | some (.long v) => v
  | _ => 0
def c_X5_greatestDivisor : sCtr := ((yX5_greatestDivisor, cX5_greatestDivisor, 11, (some .long)), (0, 2, 0, 0), true,
  fun _ _ => [],
  fun vs _ => ∃ a b : Int64, vs = [.long a, .long b],
  fun vs _ r _ => r = some (.long (p_gd 100 (vJ vs 0) (vJ vs 1))))
theorem sta_X5_greatestDivisor : s_Sta c_X5_greatestDivisor := ⟨⟨by decide +kernel, by decide +kernel, by decide +kernel⟩, List.mem_of_getElem? (i := 749) (by decide +kernel), List.mem_of_getElem? (i := 64) (by decide +kernel), List.mem_of_getElem? (i := 748) (by decide +kernel)⟩

def k_X5_greatestDivisor : List sBk := [
  (0, false, [true, false, true, false, false, false, false, false, false, false, false], [o0 0 (.lload_n 0), o0 1 (.lstore 4), o0 3 (.lload_n 2), o0 4 (.lstore 6), oK 6 (.iconst 0) (.int 0), o0 7 (.istore 8), oN 9 .nop [1]]),
  (9, true, [false, false, false, false, true, false, true, false, true, false, false], [o0 9 (.iload 8), oK 11 (.bipush 100) (.int 100), oN 13 (.if_icmp .ge 31) [2], o0 16 (.lload 6), oK 18 (.lconst 0) (.long 0), o0 19 .lcmp, oN 20 (.ifCond .eq 24) [2], o0 23 (.lload 4), o0 25 (.lload 6), o0 27 .lrem, o0 28 (.lstore 9), o0 30 (.lload 6), o0 32 (.lstore 4), o0 34 (.lload 9), o0 36 (.lstore 6), oK 38 (.iinc 8 1) (.int 1), oN 41 (.goto (-32)) [1]]),
  (44, false, [false, false, false, false, true, false, false, false, false, false, false], [o0 44 (.lload 4), o0 46 .lreturn])]
set_option maxRecDepth 100000 in
theorem ck_X5_greatestDivisor : s_ck RX5 cX5_greatestDivisor 11 0 0 k_X5_greatestDivisor = true := by decide +kernel

set_option maxRecDepth 100000 in
set_option maxHeartbeats 1000000 in
theorem ok_X5_greatestDivisor : s_Ok c_X5_greatestDivisor := by
  refine s_ok_of k_X5_greatestDivisor (by decide +kernel) sta_X5_greatestDivisor ck_X5_greatestDivisor trivial ?_
  rintro vs L ⟨a0, b0, rfl⟩
  refine ⟨rfl, fun G hG => ?_⟩
  have loop : ∀ (k i : Nat) (x : Int32) (a b : Int64), i + k = 100 → x = nI i → p_gd k a b = p_gd 100 a0 b0 → G 1 [none, none, none, none, some (.long a), none, some (.long b), none, some (.int x), none, none] [] L := by
    intro k
    induction k with
    | zero =>
      intro i x a b hi hx ha
      refine hG 1 _ _ _ (And.intro (fun h2 => ?_) (fun h2 => ?_))
      · rw [hx, show (100 : Int32) = nI 100 from rfl, nI_ltI (by omega) (by omega)] at h2; omega
      · refine ⟨rfl, ?_, fun _ => rfl⟩
        show some (Value.long a) = some (Value.long (p_gd 100 a0 b0))
        rw [← ha]; rfl
    | succ k ih =>
      intro i x a b hi hx ha
      refine hG 1 _ _ _ (And.intro (fun h2 => ?_) (fun h2 => ?_))
      · refine And.intro (fun h3 => ?_) (fun h3 => ?_)
        · have h3 : b = 0 := (lg_cmp_eq _ _).mp h3
          refine ⟨rfl, ?_, fun _ => rfl⟩
          show some (Value.long a) = some (Value.long (p_gd 100 a0 b0))
          rw [← ha, p_gd, if_pos h3]
        · have h3 : ¬ b = 0 := fun q => h3 ((lg_cmp_eq _ _).mpr q)
          refine And.intro h3 ?_
          exact ih (i + 1) _ _ _ (by omega) (by rw [hx, nI_1]) (by rw [← ha, p_gd, if_neg h3])
      · rw [hx, show (100 : Int32) = nI 100 from rfl, nI_ltI (by omega) (by omega)] at h2; omega
  exact hG 0 _ _ _ (loop 100 0 _ _ _ (by omega) nI_0.symm rfl)
def p_oS (w : Int64) (al p : Int32) (q : Int64 × Int64) : Int64 × Int64 := ((if 0 < w then (if p_hb al p = 0 then q.1 else q.1 + w) else q.1), q.2 + w)
def p_od (wt : Nat → Int64) (al : Nat → Int32) (p : Int32) : Nat → Int64 × Int64
  | 0 => (0, 0)
  | k + 1 => p_oS (wt k) (al k) p (p_od wt al p k)
def p_oW (s : Nat → Int32) (v : Int32) : Nat → Int64 := fun k => p_wt v (nI k) (s 15).toNatClampNeg
def p_oA (s : Nat → Int32) (F : Nat → Nat → Int32) : Nat → Int32 := fun k => (p_ap s F (nI k) (s 15).toNatClampNeg).2
def p_oq (s : Nat → Int32) (F : Nat → Nat → Int32) (v p : Int32) : Int64 × Int64 := p_od (p_oW s v) (p_oA s F) p (2 ^ (s 15).toNatClampNeg)
def r_odds (s : Nat → Int32) (F : Nat → Nat → Int32) (v p z : Int32) : Int64 := if v < 0 then -1 else if 10 < v then -1 else if p_in (s 0) p = 0 then -1 else if z < 0 then -1 else if 1 < z then -1 else
  if p_gd 100 (p_oq s F v p).2 (p_oq s F v p).1 = 0 then -1 else if z = 0 then (p_oq s F v p).1 / p_gd 100 (p_oq s F v p).2 (p_oq s F v p).1 else (p_oq s F v p).2 / p_gd 100 (p_oq s F v p).2 (p_oq s F v p).1
def c_X5_odds : sCtr := ((yX5_odds, cX5_odds, 11, (some .long)), (6, 3, 5, 121), true,
  w1fp,
  fun vs L => ∃ (x0 x1 x2 x3 x4 x5 : Nat) (y7 y8 y9 : Int32) (s : Nat → Int32) (F : Nat → Nat → Int32) (v p z : Int32) (n pl d : Nat), vs = [.ref 0, .int v, .int p, .int z] ∧ L = w1 x0 x1 x2 x3 x4 x5 y7 y8 y9 s F ∧ s 15 = nI pl ∧ pl ≤ 6 ∧ s 1 = nI n ∧ n ≤ 8 ∧ s 2 = nI d ∧ d ≤ 8 ∧ ∀ i, i < pl → ∃ j, j < n ∧ F 8 i = nI j,
  fun vs L r _ => r = some (.long (r_odds (oI L 1) (bG 1 L) (vI vs 1) (vI vs 2) (vI vs 3))))
theorem sta_X5_odds : s_Sta c_X5_odds := ⟨⟨by decide +kernel, by decide +kernel, by decide +kernel⟩, List.mem_of_getElem? (i := 737) (by decide +kernel), List.mem_of_getElem? (i := 64) (by decide +kernel), ⟨List.mem_of_getElem? (i := 735) (by decide +kernel), List.mem_of_getElem? (i := 736) (by decide +kernel), Or.inl ⟨_, rfl, rfl⟩⟩⟩

def k_X5_odds : List sBk := [
  (0, false, [true, true, true, true, false, false, false, false, false, false, false], [o0 0 (.iload_n 1), oN 1 (.ifCond .lt 29) [1], o0 4 (.iload_n 1), oK 5 (.bipush 10) (.int 10), oN 7 (.if_icmp .gt 23) [1], o0 10 (.aload_n 0), oN 11 (.getfield 49) [5, 6, 304], o0 14 (.iload_n 2), oC 15 (.invokevirtual 131) [510] c_X0_hasOne, oN 18 (.ifCond .eq 12) [1], o0 21 (.iload_n 3), oN 22 (.ifCond .lt 8) [1], o0 25 (.iload_n 3), oK 26 (.iconst 1) (.int 1), oN 27 (.if_icmp .le 7) [2], oN 30 .nop [1]]),
  (30, false, [false, false, false, false, false, false, false, false, false, false, false], [oV 30 (.ldc2_w 236) [738] (.long (-1)), o0 33 .lreturn]),
  (34, false, [true, true, true, true, false, false, false, false, false, false, false], [oK 34 (.lconst 0) (.long 0), o0 35 (.lstore 4), oK 37 (.lconst 0) (.long 0), o0 38 (.lstore 6), oK 40 (.iconst 0) (.int 0), o0 41 (.istore 8), oN 43 .nop [3]]),
  (43, true, [true, true, true, true, true, false, true, false, true, false, false], [o0 43 (.iload 8), oK 45 (.iconst 1) (.int 1), o0 46 (.aload_n 0), oN 47 (.getfield 49) [5, 6, 304], oN 50 (.getfield 100) [0, 15, 164], o0 53 .ishl, oN 54 (.if_icmp .ge 52) [5], o0 57 (.aload_n 0), o0 58 (.iload 8), o0 60 (.iload_n 1), oC 61 (.invokevirtual 238) [739] c_X5_weightOf, o0 64 (.lstore 9), o0 66 (.lload 6), o0 68 (.lload 9), o0 70 .ladd, o0 71 (.lstore 6), o0 73 (.lload 9), oK 75 (.lconst 0) (.long 0), o0 76 .lcmp, oN 77 (.ifCond .le 23) [4], o0 80 (.aload_n 0), o0 81 (.iload 8), oC 83 (.invokevirtual 242) [743] c_X5_aliveAfterPlan, o0 86 (.iload_n 2), oC 87 (.invokestatic 157) [573] c_X5_hasBit, oN 90 (.ifCond .eq 10) [4], o0 93 (.lload 4), o0 95 (.lload 9), o0 97 .ladd, o0 98 (.lstore 4), oN 100 .nop [4]]),
  (100, false, [true, true, true, true, true, false, true, false, true, false, false], [oK 100 (.iinc 8 1) (.int 1), oN 103 (.goto (-60)) [3]]),
  (106, false, [false, false, false, true, true, false, true, false, false, false, false], [o0 106 (.lload 6), o0 108 (.lload 4), oC 110 (.invokestatic 245) [747] c_X5_greatestDivisor, o0 113 (.lstore 8), o0 115 (.lload 8), oK 117 (.lconst 0) (.long 0), o0 118 .lcmp, oN 119 (.ifCond .ne 7) [6], oV 122 (.ldc2_w 236) [738] (.long (-1)), o0 125 .lreturn]),
  (126, false, [false, false, false, true, true, false, true, false, true, false, false], [o0 126 (.iload_n 3), oN 127 (.ifCond .ne 11) [7], o0 130 (.lload 4), o0 132 (.lload 8), o0 134 .ldiv, oN 135 (.goto 8) [8]]),
  (138, false, [false, false, false, false, false, false, true, false, true, false, false], [o0 138 (.lload 6), o0 140 (.lload 8), o0 142 .ldiv, oN 143 .nop [8]]),
  (143, false, [false, false, false, false, false, false, false, false, false, false, false], [o0 143 .lreturn])]
set_option maxRecDepth 100000 in
theorem ck_X5_odds : s_ck RX5 cX5_odds 11 5 121 k_X5_odds = true := by decide +kernel

set_option maxRecDepth 100000 in
set_option maxHeartbeats 1000000 in
theorem ok_X5_odds : s_Ok c_X5_odds := by
  refine s_ok_of k_X5_odds (by decide +kernel) sta_X5_odds ck_X5_odds (And.intro ok_X0_hasOne (And.intro ok_X5_weightOf (And.intro ok_X5_aliveAfterPlan (And.intro ok_X5_hasBit (And.intro ok_X5_greatestDivisor trivial))))) ?_
  rintro vs L ⟨x0, x1, x2, x3, x4, x5, y7, y8, y9, s, F, v, p, z, n, pl, d, rfl, rfl, hpl, hpl6, hn, hn8, hd, hd8, hF⟩
  refine ⟨rfl, fun G hG => ?_⟩
  have e : (s 15).toNatClampNeg = pl := by rw [hpl, nI_clamp (by omega)]
  have h2p : 2 ^ pl ≤ 256 := p_2le pl (by omega)
  have fin : ∀ a : Int64, a = r_odds s F v p z → s_PP (some .long) true c_X5_odds.2.2.2.2.2 [.ref 0, .int v, .int p, .int z] (w1 x0 x1 x2 x3 x4 x5 y7 y8 y9 s F) (some (.long a)) (w1 x0 x1 x2 x3 x4 x5 y7 y8 y9 s F) := fun a ha => ⟨rfl, by rw [ha]; rfl, fun _ => rfl⟩
  refine hG 0 _ _ _ (And.intro (fun h => ?_) (fun h => ?_))
  · exact fin _ (by rw [r_odds, if_pos h])
  refine And.intro (fun h2 => ?_) (fun h2 => ?_)
  · exact fin _ (by rw [r_odds, if_neg h, if_pos h2])
  refine And.intro ⟨_, _, _, rfl, rfl⟩ ?_
  intro r hr
  obtain rfl : r = some (.int (p_in (s 0) p)) := hr
  refine And.intro (fun h3 => ?_) (fun h3 => ?_)
  · exact fin _ (by rw [r_odds, if_neg h, if_neg h2, if_pos h3])
  refine And.intro (fun h4 => ?_) (fun h4 => ?_)
  · exact fin _ (by rw [r_odds, if_neg h, if_neg h2, if_neg h3, if_pos h4])
  refine And.intro (fun h5 => ?_) (fun h5 => ?_)
  · exact fin _ (by rw [r_odds, if_neg h, if_neg h2, if_neg h3, if_neg h4, if_pos h5])
  have h1 : ∀ r, r = r_odds s F v p z ↔ r = (if p_gd 100 (p_oq s F v p).2 (p_oq s F v p).1 = 0 then -1 else if z = 0 then (p_oq s F v p).1 / p_gd 100 (p_oq s F v p).2 (p_oq s F v p).1 else (p_oq s F v p).2 / p_gd 100 (p_oq s F v p).2 (p_oq s F v p).1) := fun r => by rw [r_odds, if_neg h, if_neg h2, if_neg h3, if_neg h4, if_neg h5]
  have loop : ∀ (k i : Nat) (x : Int32) (a b : Int64), i + k = 2 ^ pl → x = nI i → (a, b) = p_od (p_oW s v) (p_oA s F) p i → G 3 [some (.ref 0), some (.int v), some (.int p), some (.int z), some (.long a), none, some (.long b), none, some (.int x), none, none] [] (w1 x0 x1 x2 x3 x4 x5 y7 y8 y9 s F) := by
    intro k
    induction k with
    | zero =>
      intro i x a b hi hx ha
      have hq : (a, b) = p_oq s F v p := by rw [ha, p_oq, e, show i = 2 ^ pl by omega]
      have qa : a = (p_oq s F v p).1 := by rw [← hq]
      have qb : b = (p_oq s F v p).2 := by rw [← hq]
      refine hG 3 _ _ _ (And.intro (fun h6 => ?_) (fun h6 => ?_))
      · have h6 : x < (1 : Int32) <<< (s 15 &&& 31) := h6
        rw [hx, hpl, p_2n pl (by omega), nI_ltI (by omega) (by omega)] at h6; omega
      · refine And.intro ⟨_, _, rfl⟩ ?_
        intro r hr
        obtain ⟨gg, hgg⟩ : ∃ gg, gg = p_gd 100 b a := ⟨_, rfl⟩
        obtain rfl : r = some (.long gg) := by rw [hgg]; exact hr
        have hg2 : p_gd 100 (p_oq s F v p).2 (p_oq s F v p).1 = gg := by rw [hgg, qa, qb]
        refine And.intro (fun h7 => ?_) (fun h7 => ?_)
        · have h7 : gg = 0 := (lg_cmp_eq _ _).mp h7
          exact fin _ ((h1 _).mpr (by rw [hg2, if_pos h7]))
        · have h7 : ¬ gg = 0 := fun q => h7 ((lg_cmp_eq _ _).mpr q)
          refine And.intro (fun h8 => ?_) (fun h8 => ?_)
          · exact And.intro h7 (fin _ ((h1 _).mpr (by rw [hg2, if_neg h7, if_pos h8, qa])))
          · exact And.intro h7 (fin _ ((h1 _).mpr (by rw [hg2, if_neg h7, if_neg h8, qb])))
    | succ k ih =>
      intro i x a b hi hx ha
      have next : ∀ b1 b2 : Int64, (b1, b2) = p_oS (p_wt v x (s 15).toNatClampNeg) (p_ap s F x (s 15).toNatClampNeg).2 p (a, b) → G 3 [some (.ref 0), some (.int v), some (.int p), some (.int z), some (.long b1), none, some (.long b2), none, some (.int (x + 1)), none, none] [] (w1 x0 x1 x2 x3 x4 x5 y7 y8 y9 s F) := fun b1 b2 hb => ih (i + 1) _ _ _ (by omega) (by rw [hx, nI_1]) (by rw [hb, p_od, ← ha, p_oW, p_oA, ← hx])
      refine hG 3 _ _ _ (And.intro (fun h6 => ?_) (fun h6 => ?_))
      · refine And.intro ⟨_, _, _, _, _, _, _, _, _, s, F, x, v, pl, rfl, rfl, hpl, hpl6⟩ ?_
        intro r hr
        obtain ⟨wt, hwt⟩ : ∃ wt, wt = p_wt v x (s 15).toNatClampNeg := ⟨_, rfl⟩
        obtain rfl : r = some (.long wt) := by rw [hwt]; exact hr
        refine And.intro (fun h7 => ?_) (fun h7 => ?_)
        · have h7 : 0 < wt := (lg_cmp_gt _ _).mp h7
          refine And.intro ⟨_, _, _, _, _, _, _, _, _, s, F, x, n, pl, d, rfl, rfl, hpl, hpl6, hn, hn8, hd, hd8, hF⟩ ?_
          intro r hr
          obtain rfl : r = some (.int (p_ap s F x (s 15).toNatClampNeg).2) := hr
          refine And.intro ⟨_, _, rfl⟩ ?_
          intro r hr
          obtain rfl : r = some (.int (p_hb (p_ap s F x (s 15).toNatClampNeg).2 p)) := hr
          refine And.intro (fun h8 => ?_) (fun h8 => ?_)
          · exact next _ _ (by rw [p_oS, ← hwt, if_pos h7, if_pos h8])
          · exact next _ _ (by rw [p_oS, ← hwt, if_pos h7, if_neg h8])
        · have h7 : ¬ 0 < wt := fun q => h7 ((lg_cmp_gt _ _).mpr q)
          exact next _ _ (by rw [p_oS, ← hwt, if_neg h7])
      · have h6 : ¬ x < (1 : Int32) <<< (s 15 &&& 31) := h6
        rw [hx, hpl, p_2n pl (by omega), nI_ltI (by omega) (by omega)] at h6; omega
  exact loop (2 ^ pl) 0 _ _ _ (by omega) nI_0.symm rfl
end
section
/-! ===== WishClerk: by a seed, dates ===== -/
def p_nx (x : Int32) : Int32 := x * 1103515245 + 12345
/-- the wish that a seed names -/
def p_ww (x y : Int32) : Int32 := (p_ush x 16 &&& 32767) - (p_ush x 16 &&& 32767) / y * y
/-- seed, what holds, who lives, how many were refused -/
def p_wS (on nd cl fo wa : Nat → Int32) (n : Nat) (li ba : Int32) (d : Nat) (y : Int32) (q : Int32 × Int32 × Int32 × Int32) : Int32 × Int32 × Int32 × Int32 :=
  if p_hb q.2.1 (p_ww (p_nx q.1) y) = 0 then
    (if p_re on nd cl n li ba (p_ww (p_nx q.1) y) q.2.1 q.2.2.1 d = 0 then (p_nx q.1, q.2.1 ||| fo (p_ww (p_nx q.1) y).toNatClampNeg, q.2.2.1 ||| wa (p_ww (p_nx q.1) y).toNatClampNeg, q.2.2.2) else (p_nx q.1, q.2.1, q.2.2.1, q.2.2.2 + 1))
  else (p_nx q.1, q.2.1 &&& (p_ro fo ((1 : Int32) <<< (p_ww (p_nx q.1) y &&& 31)) q.2.1 n ^^^ (-1)), q.2.2.1, q.2.2.2)
def p_wR (on nd cl fo wa : Nat → Int32) (n : Nat) (li ba : Int32) (d : Nat) (y : Int32) (q0 : Int32 × Int32 × Int32 × Int32) : Nat → Int32 × Int32 × Int32 × Int32
  | 0 => q0
  | k + 1 => p_wS on nd cl fo wa n li ba d y (p_wR on nd cl fo wa n li ba d y q0 k)
def p_wq (s : Nat → Int32) (F : Nat → Nat → Int32) (x : Int32) (k : Nat) : Int32 × Int32 × Int32 × Int32 := p_wR (F 3) (F 4) (F 5) (F 6) (F 7) (s 1).toNatClampNeg (s 6) (s 4) (s 2).toNatClampNeg (s 1) (x, s 5, s 3, 0) k
def r_wild (s : Nat → Int32) (F : Nat → Nat → Int32) (x k z : Int32) : Int32 := if k < 1 then -1 else if 60 < k then -1 else if z < 0 then -1 else if 1 < z then -1 else if 0 < s 1 then (if z = 0 then (p_wq s F x k.toNatClampNeg).2.2.1 else (p_wq s F x k.toNatClampNeg).2.2.2) else -2
theorem p_ww_in (x : Int32) {n : Nat} (h0 : 0 < n) (hn : n ≤ 8) : ∃ j, j < n ∧ p_ww x (nI n) = nI j := by
  obtain ⟨j, hj, he⟩ := pk_andE (p_ush x 16) (m := 32767) 15 (by decide)
  refine ⟨j % n, Nat.mod_lt _ h0, ?_⟩
  rw [p_ww, he]
  exact pk_rem (by omega) h0 (by omega)
def c_X5_wild : sCtr := ((yX5_wild, cX5_wild, 10, (some .int)), (6, 3, 4, 96), true,
  w1fp,
  fun vs L => ∃ (x0 x1 x2 x3 x4 x5 : Nat) (y7 y8 y9 : Int32) (s : Nat → Int32) (F : Nat → Nat → Int32) (x k z : Int32) (n d : Nat), vs = [.ref 0, .int x, .int k, .int z] ∧ L = w1 x0 x1 x2 x3 x4 x5 y7 y8 y9 s F ∧ s 1 = nI n ∧ n ≤ 8 ∧ s 2 = nI d ∧ d ≤ 8,
  fun vs L r _ => r = some (.int (r_wild (oI L 1) (bG 1 L) (vI vs 1) (vI vs 2) (vI vs 3))))
theorem sta_X5_wild : s_Sta c_X5_wild := ⟨⟨by decide +kernel, by decide +kernel, by decide +kernel⟩, List.mem_of_getElem? (i := 753) (by decide +kernel), List.mem_of_getElem? (i := 64) (by decide +kernel), ⟨List.mem_of_getElem? (i := 751) (by decide +kernel), List.mem_of_getElem? (i := 752) (by decide +kernel), Or.inl ⟨_, rfl, rfl⟩⟩⟩

def k_X5_wild : List sBk := [
  (0, false, [true, true, true, true, false, false, false, false, false, false], [o0 0 (.iload_n 2), oK 1 (.iconst 1) (.int 1), oN 2 (.if_icmp .lt 18) [1], o0 5 (.iload_n 2), oK 6 (.bipush 60) (.int 60), oN 8 (.if_icmp .gt 12) [1], o0 11 (.iload_n 3), oN 12 (.ifCond .lt 8) [1], o0 15 (.iload_n 3), oK 16 (.iconst 1) (.int 1), oN 17 (.if_icmp .le 5) [2], oN 20 .nop [1]]),
  (20, false, [false, false, false, false, false, false, false, false, false, false], [oK 20 (.iconst (-1)) (.int (-1)), o0 21 .ireturn]),
  (22, false, [true, true, true, true, false, false, false, false, false, false], [o0 22 (.aload_n 0), oN 23 (.getfield 49) [5, 6, 304], oN 26 (.getfield 82) [0, 1, 121], oN 29 (.ifCond .gt 6) [3], oK 32 (.bipush (-2)) (.int (-2)), o0 34 .ireturn]),
  (35, false, [true, true, true, true, false, false, false, false, false, false], [o0 35 (.iload_n 1), o0 36 (.istore 4), o0 38 (.aload_n 0), oN 39 (.getfield 49) [5, 6, 304], oN 42 (.getfield 94) [0, 5, 134], o0 45 (.istore 5), o0 47 (.aload_n 0), oN 48 (.getfield 49) [5, 6, 304], oN 51 (.getfield 88) [0, 3, 127], o0 54 (.istore 6), oK 56 (.iconst 0) (.int 0), o0 57 (.istore 7), oK 59 (.iconst 0) (.int 0), o0 60 (.istore 8), oN 62 .nop [4]]),
  (62, true, [true, false, true, true, true, true, true, true, true, false], [o0 62 (.iload 8), o0 64 (.iload_n 2), oN 65 (.if_icmp .ge 131) [8], o0 68 (.iload 4), oV 70 (.ldc 249) [754] (.int 1103515245), o0 72 .imul, oK 73 (.sipush 12345) (.int 12345), o0 76 .iadd, o0 77 (.istore 4), o0 79 (.iload 4), oK 81 (.bipush 16) (.int 16), o0 83 .iushr, oK 84 (.sipush 32767) (.int 32767), o0 87 .iand, o0 88 (.aload_n 0), oN 89 (.getfield 49) [5, 6, 304], oN 92 (.getfield 82) [0, 1, 121], o0 95 .irem, o0 96 (.istore 9), o0 98 (.iload 5), o0 100 (.iload 9), oC 102 (.invokestatic 157) [573] c_X5_hasBit, oN 105 (.ifCond .eq 26) [5], o0 108 (.iload 5), o0 110 (.aload_n 0), oN 111 (.getfield 49) [5, 6, 304], oK 114 (.iconst 1) (.int 1), o0 115 (.iload 9), o0 117 .ishl, o0 118 (.iload 5), oC 120 (.invokevirtual 166) [584] c_X0_restingOn, oK 123 (.iconst (-1)) (.int (-1)), o0 124 .ixor, o0 125 .iand, o0 126 (.istore 5), oN 128 (.goto 62) [7]]),
  (131, false, [true, false, true, true, true, true, true, true, true, true], [o0 131 (.aload_n 0), oN 132 (.getfield 49) [5, 6, 304], o0 135 (.iload 9), o0 137 (.iload 5), o0 139 (.iload 6), o0 141 (.aload_n 0), oN 142 (.getfield 49) [5, 6, 304], oN 145 (.getfield 85) [0, 2, 123], oC 148 (.invokevirtual 153) [565] c_X0_refusal, oN 151 (.ifCond .eq 9) [6], oK 154 (.iinc 7 1) (.int 1), oN 157 (.goto 33) [7]]),
  (160, false, [true, false, true, true, true, true, true, true, true, true], [o0 160 (.iload 5), o0 162 (.aload_n 0), oN 163 (.getfield 49) [5, 6, 304], oN 166 (.getfield 122) [0, 12, 156], o0 169 (.iload 9), o0 171 .iaload, o0 172 .ior, o0 173 (.istore 5), o0 175 (.iload 6), o0 177 (.aload_n 0), oN 178 (.getfield 49) [5, 6, 304], oN 181 (.getfield 125) [0, 13, 159], o0 184 (.iload 9), o0 186 .iaload, o0 187 .ior, o0 188 (.istore 6), oN 190 .nop [7]]),
  (190, false, [true, false, true, true, true, true, true, true, true, false], [oK 190 (.iinc 8 1) (.int 1), oN 193 (.goto (-131)) [4]]),
  (196, false, [false, false, false, true, false, false, true, true, false, false], [o0 196 (.iload_n 3), oN 197 (.ifCond .ne 8) [9], o0 200 (.iload 6), oN 202 (.goto 5) [10]]),
  (205, false, [false, false, false, false, false, false, false, true, false, false], [o0 205 (.iload 7), oN 207 .nop [10]]),
  (207, false, [false, false, false, false, false, false, false, false, false, false], [o0 207 .ireturn])]
set_option maxRecDepth 100000 in
theorem ck_X5_wild : s_ck RX5 cX5_wild 10 4 96 k_X5_wild = true := by decide +kernel

set_option maxRecDepth 100000 in
set_option maxHeartbeats 1000000 in
theorem ok_X5_wild : s_Ok c_X5_wild := by
  refine s_ok_of k_X5_wild (by decide +kernel) sta_X5_wild ck_X5_wild (And.intro ok_X5_hasBit (And.intro ok_X0_restingOn (And.intro ok_X0_refusal trivial))) ?_
  rintro vs L ⟨x0, x1, x2, x3, x4, x5, y7, y8, y9, s, F, sd, kk, z, n, d, rfl, rfl, hn, hn8, hd, hd8⟩
  refine ⟨rfl, fun G hG => ?_⟩
  have fin : ∀ a : Int32, a = r_wild s F sd kk z → s_PP (some .int) true c_X5_wild.2.2.2.2.2 [.ref 0, .int sd, .int kk, .int z] (w1 x0 x1 x2 x3 x4 x5 y7 y8 y9 s F) (some (.int a)) (w1 x0 x1 x2 x3 x4 x5 y7 y8 y9 s F) := fun a ha => ⟨rfl, by rw [ha]; rfl, fun _ => rfl⟩
  refine hG 0 _ _ _ (And.intro (fun h => ?_) (fun h => ?_))
  · exact fin _ (by rw [r_wild, if_pos h])
  refine And.intro (fun h2 => ?_) (fun h2 => ?_)
  · exact fin _ (by rw [r_wild, if_neg h, if_pos h2])
  refine And.intro (fun h3 => ?_) (fun h3 => ?_)
  · exact fin _ (by rw [r_wild, if_neg h, if_neg h2, if_pos h3])
  refine And.intro (fun h4 => ?_) (fun h4 => ?_)
  · exact fin _ (by rw [r_wild, if_neg h, if_neg h2, if_neg h3, if_pos h4])
  refine And.intro (fun h5 => ?_) (fun h5 => ?_)
  · have h5 : 0 < s 1 := h5
    have hn0 : 0 < n := by
      rw [hn] at h5
      exact (nI_ltI (a := 0) (by omega) (by omega)).mp h5
    have hk0 : ¬ kk < 0 := fun q => h (by
      rw [Int32.lt_iff_toInt_lt] at q ⊢
      have e1 : (1 : Int32).toInt = 1 := by decide
      have e0 : (0 : Int32).toInt = 0 := by decide
      omega)
    obtain ⟨K, hK31, rfl⟩ := nI_of hk0
    have hK60 : K ≤ 60 := by
      rcases Nat.lt_or_ge 60 K with q | q
      · exact absurd ((nI_ltI (a := 60) (by omega) (by omega)).mpr q) h2
      · exact q
    have h1 : ∀ r, r = r_wild s F sd (nI K) z ↔ r = (if z = 0 then (p_wq s F sd K).2.2.1 else (p_wq s F sd K).2.2.2) := fun r => by rw [r_wild, if_neg h, if_neg h2, if_neg h3, if_neg h4, if_pos h5, nI_clamp hK31]
    have loop : ∀ (k i : Nat) (x a1 a2 a3 a4 : Int32), i + k = K → x = nI i → (a1, a2, a3, a4) = p_wq s F sd i → G 4 [some (.ref 0), none, some (.int (nI K)), some (.int z), some (.int a1), some (.int a2), some (.int a3), some (.int a4), some (.int x), none] [] (w1 x0 x1 x2 x3 x4 x5 y7 y8 y9 s F) := by
      intro k
      induction k with
      | zero =>
        intro i x a1 a2 a3 a4 hi hx ha
        have hq : (a1, a2, a3, a4) = p_wq s F sd K := by rw [ha, show i = K by omega]
        have q3 : a3 = (p_wq s F sd K).2.2.1 := by rw [← hq]
        have q4 : a4 = (p_wq s F sd K).2.2.2 := by rw [← hq]
        refine hG 4 _ _ _ (And.intro (fun h6 => ?_) (fun h6 => ?_))
        · rw [hx, nI_ltI (by omega) (by omega)] at h6; omega
        · refine And.intro (fun h7 => ?_) (fun h7 => ?_)
          · exact fin _ ((h1 _).mpr (by rw [if_pos h7, q3]))
          · exact fin _ ((h1 _).mpr (by rw [if_neg h7, q4]))
      | succ k ih =>
        intro i x a1 a2 a3 a4 hi hx ha
        have next : ∀ b1 b2 b3 b4 : Int32, (b1, b2, b3, b4) = p_wS (F 3) (F 4) (F 5) (F 6) (F 7) (s 1).toNatClampNeg (s 6) (s 4) (s 2).toNatClampNeg (s 1) (a1, a2, a3, a4) → G 4 [some (.ref 0), none, some (.int (nI K)), some (.int z), some (.int b1), some (.int b2), some (.int b3), some (.int b4), some (.int (x + 1)), none] [] (w1 x0 x1 x2 x3 x4 x5 y7 y8 y9 s F) := fun b1 b2 b3 b4 hb => ih (i + 1) _ _ _ _ _ (by omega) (by rw [hx, nI_1]) (by rw [hb, ha]; rfl)
        obtain ⟨j, hj, hwj⟩ := p_ww_in (p_nx a1) hn0 hn8
        rw [← hn] at hwj
        have hin : vp_in (p_ww (p_nx a1) (s 1)) 8 := by rw [hwj]; exact vp_in_nI (by omega) (by omega)
        refine hG 4 _ _ _ (And.intro (fun h6 => ?_) (fun h6 => ?_))
        · refine And.intro (fun q => ?_) (And.intro ⟨_, _, rfl⟩ ?_)
          · have q : s 1 = 0 := q
            rw [q] at h5; exact absurd h5 (by decide)
          intro r hr
          obtain rfl : r = some (.int (p_hb a2 (p_ww (p_nx a1) (s 1)))) := hr
          refine And.intro (fun h7 => ?_) (fun h7 => ?_)
          · have h7 : p_hb a2 (p_ww (p_nx a1) (s 1)) = 0 := h7
            refine And.intro ⟨s, F, _, _, _, _, n, d, rfl, rfl, hn, hn8, hd, hd8⟩ ?_
            intro r hr
            obtain rfl : r = some (.int (p_reB s F (p_ww (p_nx a1) (s 1)) a2 a3)) := hr
            refine And.intro (fun h8 => ?_) (fun h8 => ?_)
            · have h8 : p_reB s F (p_ww (p_nx a1) (s 1)) a2 a3 = 0 := h8
              rw [p_reB] at h8
              exact And.intro hin (And.intro hin (next _ _ _ _ (by rw [p_wS, if_pos h7, if_pos h8]; rfl)))
            · have h8 : ¬ p_reB s F (p_ww (p_nx a1) (s 1)) a2 a3 = 0 := h8
              rw [p_reB] at h8
              exact next _ _ _ _ (by rw [p_wS, if_pos h7, if_neg h8]; rfl)
          · have h7 : ¬ p_hb a2 (p_ww (p_nx a1) (s 1)) = 0 := h7
            refine And.intro ⟨s, F, _, _, n, rfl, rfl, hn, hn8⟩ ?_
            intro r hr
            obtain rfl : r = some (.int (p_ro (F 6) ((1 : Int32) <<< (p_ww (p_nx a1) (s 1) &&& 31)) a2 (s 1).toNatClampNeg)) := hr
            exact next _ _ _ _ (by rw [p_wS, if_neg h7]; rfl)
        · rw [hx, nI_ltI (by omega) (by omega)] at h6; omega
    exact loop K 0 _ _ _ _ _ (by omega) nI_0.symm rfl
  · have h5 : ¬ 0 < s 1 := h5
    exact fin _ (by rw [r_wild, if_neg h, if_neg h2, if_neg h3, if_neg h4, if_neg h5])
/-- the world of date(): the dates behind the book -/
def w2 (x0 x1 x2 x3 x4 : Nat) (y7 y8 y9 : Int32) (s : Nat → Int32) (F : Nat → Nat → Int32) (dt : Nat → Int32) : sH := .inr (.inr (5, [.ref x0, .ref x1, .ref x2, .ref x3, .ref x4, .ref 11, .ref 1, .int y7, .int y8, .int y9])) :: (bkK 1 s F ++ [.inl (0, 8, dt)])
def w2fp (vs : sS) (L : sH) : List Nat := match vs with
  | .ref b :: _ => b :: (bkP L (s_rf L b 6) ++ [s_rf L b 5])
  | _ => []
def p_la (dt : Nat → Int32) (g : Int32) : Nat → Int32
  | 0 => 0
  | k + 1 => if p_hb g (nI k) = 0 then p_la dt g k else (if p_la dt g k < dt k then dt k else p_la dt g k)
def c_X5_latest : sCtr := ((yX5_latest, cX5_latest, 4, (some .int)), (6, 1, 1, 21), true,
  w2fp,
  fun vs L => ∃ (x0 x1 x2 x3 x4 : Nat) (y7 y8 y9 : Int32) (s : Nat → Int32) (F : Nat → Nat → Int32) (dt : Nat → Int32) (g : Int32) (n : Nat), vs = [.ref 0, .int g] ∧ L = w2 x0 x1 x2 x3 x4 y7 y8 y9 s F dt ∧ s 1 = nI n ∧ n ≤ 8,
  fun vs L r _ => r = some (.int (p_la (bF L 11) (vI vs 1) (oI L 1 1).toNatClampNeg)))
theorem sta_X5_latest : s_Sta c_X5_latest := ⟨⟨by decide +kernel, by decide +kernel, by decide +kernel⟩, List.mem_of_getElem? (i := 710) (by decide +kernel), List.mem_of_getElem? (i := 64) (by decide +kernel), ⟨List.mem_of_getElem? (i := 709) (by decide +kernel), List.mem_of_getElem? (i := 24) (by decide +kernel), Or.inl ⟨_, rfl, rfl⟩⟩⟩

def k_X5_latest : List sBk := [
  (0, false, [true, true, false, false], [oK 0 (.iconst 0) (.int 0), o0 1 (.istore_n 2), oK 2 (.iconst 0) (.int 0), o0 3 (.istore_n 3), oN 4 .nop [1]]),
  (4, true, [true, true, true, true], [o0 4 (.iload_n 3), o0 5 (.aload_n 0), oN 6 (.getfield 49) [5, 6, 304], oN 9 (.getfield 82) [0, 1, 121], oN 12 (.if_icmp .ge 28) [3], o0 15 (.iload_n 1), o0 16 (.iload_n 3), oC 17 (.invokestatic 157) [573] c_X5_hasBit, oN 20 (.ifCond .eq 14) [2], o0 23 (.iload_n 2), o0 24 (.aload_n 0), oN 25 (.getfield 44) [5, 5, 303], o0 28 (.iload_n 3), o0 29 .iaload, oN 30 (.invokestatic 215) [711, 1], o0 33 (.istore_n 2), oN 34 .nop [2]]),
  (34, false, [true, true, true, true], [oK 34 (.iinc 3 1) (.int 1), oN 37 (.goto (-33)) [1]]),
  (40, false, [false, false, true, false], [o0 40 (.iload_n 2), o0 41 .ireturn])]
set_option maxRecDepth 100000 in
theorem ck_X5_latest : s_ck RX5 cX5_latest 4 1 21 k_X5_latest = true := by decide +kernel

set_option maxRecDepth 100000 in
set_option maxHeartbeats 1000000 in
theorem ok_X5_latest : s_Ok c_X5_latest := by
  refine s_ok_of k_X5_latest (by decide +kernel) sta_X5_latest ck_X5_latest (And.intro ok_X5_hasBit trivial) ?_
  rintro vs L ⟨x0, x1, x2, x3, x4, y7, y8, y9, s, F, dt, g, n, rfl, rfl, hn, hn8⟩
  refine ⟨rfl, fun G hG => ?_⟩
  have loop : ∀ (k i : Nat) (x a : Int32), i + k = n → x = nI i → a = p_la dt g i → G 1 [some (.ref 0), some (.int g), some (.int a), some (.int x)] [] (w2 x0 x1 x2 x3 x4 y7 y8 y9 s F dt) := by
    intro k
    induction k with
    | zero =>
      intro i x a hi hx ha
      refine hG 1 _ _ _ (And.intro (fun h2 => ?_) (fun h2 => ?_))
      · have h2 : x < s 1 := h2
        rw [hx, hn, nI_ltI (by omega) (by omega)] at h2; omega
      · refine ⟨rfl, ?_, fun _ => rfl⟩
        show some (Value.int a) = some (Value.int (p_la dt g (s 1).toNatClampNeg))
        rw [hn, nI_clamp (by omega), ha, show i = n by omega]
    | succ k ih =>
      intro i x a hi hx ha
      have hw : vp_in x 8 := by rw [hx]; exact vp_in_nI (by omega) (by omega)
      refine hG 1 _ _ _ (And.intro (fun h2 => ?_) (fun h2 => ?_))
      · refine And.intro ⟨_, _, rfl⟩ ?_
        intro r hr
        obtain rfl : r = some (.int (p_hb g x)) := hr
        refine And.intro (fun h3 => ?_) (fun h3 => ?_)
        · exact ih (i + 1) _ _ (by omega) (by rw [hx, nI_1]) (by rw [p_la, ← hx, if_pos h3, ha])
        · refine And.intro hw ?_
          exact ih (i + 1) _ _ (by omega) (by rw [hx, nI_1]) (by rw [p_la, ← hx, if_neg h3, ← ha, hx, nI_clamp (by omega)])
      · have h2 : ¬ x < s 1 := h2
        rw [hx, hn, nI_ltI (by omega) (by omega)] at h2; omega
  exact hG 0 _ _ _ (loop n 0 _ _ (by omega) nI_0.symm rfl)
/-- one turn over the dates, up to a wish -/
def p_dr (ye nd : Nat → Int32) (n : Nat) (fw : Int32) (dt : Nat → Int32) : Nat → Nat → Int32
  | 0 => dt
  | k + 1 => if p_hb fw (nI k) = 0 then p_dr ye nd n fw dt k else upd (p_dr ye nd n fw dt k) k (ye k + p_la (p_dr ye nd n fw dt k) (nd k) n)
def p_dt (ye nd : Nat → Int32) (n : Nat) (fw : Int32) (dt : Nat → Int32) : Nat → Nat → Int32
  | 0 => dt
  | t + 1 => p_dr ye nd n fw (p_dt ye nd n fw dt t) n
def r_date (s : Nat → Int32) (F : Nat → Nat → Int32) (dt : Nat → Int32) (w : Int32) : Int32 := if p_in (s 1) w = 0 then -1 else if p_rd (F 4) (F 6) (s 1).toNatClampNeg (F 6 w.toNatClampNeg) (s 1).toNatClampNeg = true then -4 else p_dt (F 1) (F 4) (s 1).toNatClampNeg (F 6 w.toNatClampNeg) dt (s 1).toNatClampNeg w.toNatClampNeg
def c_X5_date : sCtr := ((yX5_date, cX5_date, 4, (some .int)), (6, 1, 4, 88), false,
  w2fp,
  fun vs L => ∃ (x0 x1 x2 x3 x4 : Nat) (y7 y8 y9 : Int32) (s : Nat → Int32) (F : Nat → Nat → Int32) (dt : Nat → Int32) (w : Int32) (n : Nat), vs = [.ref 0, .int w] ∧ L = w2 x0 x1 x2 x3 x4 y7 y8 y9 s F dt ∧ s 1 = nI n ∧ n ≤ 8,
  fun vs L r L' => r = some (.int (r_date (oI L 1) (bG 1 L) (bF L 11) (vI vs 1))) ∧ ∃ dt', L' = s_hd L :: (bkK 1 (oI L 1) (bG 1 L) ++ [.inl (0, 8, dt')]))
theorem sta_X5_date : s_Sta c_X5_date := ⟨⟨by decide +kernel, by decide +kernel, by decide +kernel⟩, List.mem_of_getElem? (i := 701) (by decide +kernel), List.mem_of_getElem? (i := 64) (by decide +kernel), ⟨List.mem_of_getElem? (i := 699) (by decide +kernel), List.mem_of_getElem? (i := 700) (by decide +kernel), Or.inl ⟨_, rfl, rfl⟩⟩⟩

def k_X5_date : List sBk := [
  (0, false, [true, true, false, false], [o0 0 (.aload_n 0), oN 1 (.getfield 49) [5, 6, 304], o0 4 (.iload_n 1), oC 5 (.invokevirtual 103) [498] c_X0_hasWish, oN 8 (.ifCond .ne 5) [1], oK 11 (.iconst (-1)) (.int (-1)), o0 12 .ireturn]),
  (13, false, [true, true, false, false], [o0 13 (.aload_n 0), oN 14 (.getfield 49) [5, 6, 304], o0 17 (.aload_n 0), oN 18 (.getfield 49) [5, 6, 304], oN 21 (.getfield 122) [0, 12, 156], o0 24 (.iload_n 1), o0 25 .iaload, oC 26 (.invokevirtual 209) [702] c_X0_goesRound, oN 29 (.ifCond .eq 6) [2], oK 32 (.bipush (-4)) (.int (-4)), o0 34 .ireturn]),
  (35, false, [true, true, false, false], [oK 35 (.iconst 0) (.int 0), o0 36 (.istore_n 2), oN 37 .nop [3]]),
  (37, true, [true, true, true, false], [o0 37 (.iload_n 2), o0 38 (.aload_n 0), oN 39 (.getfield 49) [5, 6, 304], oN 42 (.getfield 82) [0, 1, 121], oN 45 (.if_icmp .ge 73) [7], oK 48 (.iconst 0) (.int 0), o0 49 (.istore_n 3), oN 50 .nop [4]]),
  (50, true, [true, true, true, true], [o0 50 (.iload_n 3), o0 51 (.aload_n 0), oN 52 (.getfield 49) [5, 6, 304], oN 55 (.getfield 82) [0, 1, 121], oN 58 (.if_icmp .ge 54) [6], o0 61 (.aload_n 0), oN 62 (.getfield 49) [5, 6, 304], oN 65 (.getfield 122) [0, 12, 156], o0 68 (.iload_n 1), o0 69 .iaload, o0 70 (.iload_n 3), oC 71 (.invokestatic 157) [573] c_X5_hasBit, oN 74 (.ifCond .eq 32) [5], o0 77 (.aload_n 0), oN 78 (.getfield 44) [5, 5, 303], o0 81 (.iload_n 3), o0 82 (.aload_n 0), oN 83 (.getfield 49) [5, 6, 304], oN 86 (.getfield 107) [0, 7, 139], o0 89 (.iload_n 3), o0 90 .iaload, o0 91 (.aload_n 0), o0 92 (.aload_n 0), oN 93 (.getfield 49) [5, 6, 304], oN 96 (.getfield 116) [0, 10, 149], o0 99 (.iload_n 3), o0 100 .iaload, oC 101 (.invokevirtual 212) [707] c_X5_latest, o0 104 .iadd, o0 105 .iastore, oN 106 .nop [5]]),
  (106, false, [true, true, true, true], [oK 106 (.iinc 3 1) (.int 1), oN 109 (.goto (-59)) [4]]),
  (112, false, [true, true, true, false], [oK 112 (.iinc 2 1) (.int 1), oN 115 (.goto (-78)) [3]]),
  (118, false, [true, true, false, false], [o0 118 (.aload_n 0), oN 119 (.getfield 44) [5, 5, 303], o0 122 (.iload_n 1), o0 123 .iaload, o0 124 .ireturn])]
set_option maxRecDepth 100000 in
theorem ck_X5_date : s_ck RX5 cX5_date 4 4 88 k_X5_date = true := by decide +kernel

set_option maxRecDepth 100000 in
set_option maxHeartbeats 1000000 in
theorem ok_X5_date : s_Ok c_X5_date := by
  refine s_ok_of k_X5_date (by decide +kernel) sta_X5_date ck_X5_date (And.intro ok_X0_hasWish (And.intro ok_X0_goesRound (And.intro ok_X5_hasBit (And.intro ok_X5_latest trivial)))) ?_
  rintro vs L ⟨x0, x1, x2, x3, x4, y7, y8, y9, s, F, dt, w, n, rfl, rfl, hn, hn8⟩
  refine ⟨rfl, fun G hG => ?_⟩
  have e : (s 1).toNatClampNeg = n := by rw [hn, nI_clamp (by omega)]
  have fin : ∀ (a : Int32) (d2 : Nat → Int32), a = r_date s F dt w → s_PP (some .int) false c_X5_date.2.2.2.2.2 [.ref 0, .int w] (w2 x0 x1 x2 x3 x4 y7 y8 y9 s F dt) (some (.int a)) (w2 x0 x1 x2 x3 x4 y7 y8 y9 s F d2) := fun a d2 ha => ⟨rfl, ⟨by rw [ha]; rfl, d2, rfl⟩, fun h => by cases h⟩
  refine hG 0 _ _ _ (And.intro ⟨_, _, _, _, rfl, rfl⟩ ?_)
  intro r hr
  obtain rfl : r = some (.int (p_in (s 1) w)) := hr
  refine And.intro (fun h => ?_) (fun h => ?_)
  · exact fin _ dt (by rw [r_date, if_pos h])
  have hwj := h
  rw [hn] at hwj
  obtain ⟨j, hj, hw⟩ := p_in_ne hn8 hwj
  have hin : vp_in w 8 := by rw [hw]; exact vp_in_nI (by omega) (by omega)
  refine And.intro hin (And.intro ⟨s, F, _, n, rfl, rfl, hn, hn8⟩ ?_)
  intro r hr
  obtain rfl : r = some (.int (if p_rd (F 4) (F 6) (s 1).toNatClampNeg (F 6 w.toNatClampNeg) (s 1).toNatClampNeg = true then 1 else 0)) := hr
  by_cases hrd : p_rd (F 4) (F 6) (s 1).toNatClampNeg (F 6 w.toNatClampNeg) (s 1).toNatClampNeg = true
  · refine And.intro (fun q => ?_) (fun _ => ?_)
    · rw [if_pos hrd] at q; exact absurd q (by decide)
    · exact fin _ dt (by rw [r_date, if_neg h, if_pos hrd])
  refine And.intro (fun _ => ?_) (fun q => ?_)
  rotate_left
  · rw [if_neg hrd] at q; exact absurd rfl q
  obtain ⟨fw, hfw⟩ : ∃ fw, fw = F 6 w.toNatClampNeg := ⟨_, rfl⟩
  have outer : ∀ (kt t : Nat) (xt : Int32) (d1 : Nat → Int32), t + kt = n → xt = nI t → d1 = p_dt (F 1) (F 4) n fw dt t → G 3 [some (.ref 0), some (.int w), some (.int xt), none] [] (w2 x0 x1 x2 x3 x4 y7 y8 y9 s F d1) := by
    intro kt
    induction kt with
    | zero =>
      intro t xt d1 ht hxt hd
      refine hG 3 _ _ _ (And.intro (fun h2 => ?_) (fun h2 => ?_))
      · have h2 : xt < s 1 := h2
        rw [hxt, hn, nI_ltI (by omega) (by omega)] at h2; omega
      · refine And.intro hin ?_
        exact fin _ d1 (by rw [r_date, if_neg h, if_neg hrd, e, ← hfw, hd, show t = n by omega])
    | succ kt iht =>
      intro t xt d1 ht hxt hd
      have inner : ∀ (k i : Nat) (x : Int32) (d2 : Nat → Int32), i + k = n → x = nI i → d2 = p_dr (F 1) (F 4) n fw d1 i → G 4 [some (.ref 0), some (.int w), some (.int xt), some (.int x)] [] (w2 x0 x1 x2 x3 x4 y7 y8 y9 s F d2) := by
        intro k
        induction k with
        | zero =>
          intro i x d2 hi hx hd2
          refine hG 4 _ _ _ (And.intro (fun h2 => ?_) (fun h2 => ?_))
          · have h2 : x < s 1 := h2
            rw [hx, hn, nI_ltI (by omega) (by omega)] at h2; omega
          · exact iht (t + 1) _ d2 (by omega) (by rw [hxt, nI_1]) (by rw [hd2, p_dt, ← hd, show i = n by omega])
        | succ k ih =>
          intro i x d2 hi hx hd2
          have hx8 : vp_in x 8 := by rw [hx]; exact vp_in_nI (by omega) (by omega)
          have hc : x.toNatClampNeg = i := by rw [hx, nI_clamp (by omega)]
          refine hG 4 _ _ _ (And.intro (fun h2 => ?_) (fun h2 => ?_))
          · refine And.intro hin (And.intro ⟨_, _, rfl⟩ ?_)
            intro r hr
            obtain rfl : r = some (.int (p_hb fw x)) := by rw [hfw]; exact hr
            refine And.intro (fun h3 => ?_) (fun h3 => ?_)
            · exact ih (i + 1) _ d2 (by omega) (by rw [hx, nI_1]) (by rw [p_dr, ← hx, if_pos h3, hd2])
            · refine And.intro hx8 (And.intro hx8 (And.intro ⟨_, _, _, _, _, _, _, _, s, F, d2, _, n, rfl, rfl, hn, hn8⟩ ?_))
              intro r hr
              obtain rfl : r = some (.int (p_la d2 (F 4 x.toNatClampNeg) (s 1).toNatClampNeg)) := hr
              refine And.intro hx8 ?_
              exact ih (i + 1) _ (upd d2 x.toNatClampNeg (F 1 x.toNatClampNeg + p_la d2 (F 4 x.toNatClampNeg) (s 1).toNatClampNeg)) (by omega) (by rw [hx, nI_1]) (by rw [p_dr, ← hx, if_neg h3, hc, e, hd2])
          · have h2 : ¬ x < s 1 := h2
            rw [hx, hn, nI_ltI (by omega) (by omega)] at h2; omega
      refine hG 3 _ _ _ (And.intro (fun h2 => ?_) (fun h2 => ?_))
      · exact inner n 0 _ d1 (by omega) nI_0.symm rfl
      · have h2 : ¬ xt < s 1 := h2
        rw [hxt, hn, nI_ltI (by omega) (by omega)] at h2; omega
  exact outer n 0 _ dt (by omega) nI_0.symm rfl
end
section
/-! ===== WishClerk: tape, sheets, images ===== -/
def w3 (x1 x2 x3 x4 x5 x6 : Nat) (y7 y8 y9 ln : Int32) (f : Nat → Int32) : sH := [.inr (.inr (5, [.ref 1, .ref x1, .ref x2, .ref x3, .ref x4, .ref x5, .ref x6, .int y7, .int y8, .int y9])), .inr (.inr (4, [.ref 2, .int ln])), .inl (1, 160, f)]
def w3fp (vs : sS) (L : sH) : List Nat := match vs with
  | .ref b :: _ => [b, s_rf L b 0, s_rf L (s_rf L b 0) 0]
  | _ => []
def r_feed (ln c : Int32) : Int32 := if c < 0 then -1 else if 127 < c then -1 else if ln < 160 then ln + 1 else -3
def q_feed (ln c : Int32) : Int32 := if c < 0 then ln else if 127 < c then ln else if ln < 160 then ln + 1 else ln
def q_feedF (ln c : Int32) (f : Nat → Int32) : Nat → Int32 := fun j => if c < 0 then f j else if 127 < c then f j else if ln < 160 then upd f ln.toNatClampNeg (vp_nar .byte c.toInt8.toInt32) j else f j
def c_X5_feed : sCtr := ((yX5_feed, cX5_feed, 2, (some .int)), (6, 1, 0, 0), false,
  w3fp,
  fun vs L => ∃ (x1 x2 x3 x4 x5 x6 : Nat) (y7 y8 y9 ln : Int32) (f : Nat → Int32) (c : Int32) (t : Nat), vs = [.ref 0, .int c] ∧ L = w3 x1 x2 x3 x4 x5 x6 y7 y8 y9 ln f ∧ ln = nI t ∧ t ≤ 160,
  fun vs L r L' => r = some (.int (r_feed (oI L 1 1) (vI vs 1))) ∧ L' = [s_hd L, .inr (.inr (4, [.ref 2, .int (q_feed (oI L 1 1) (vI vs 1))])), .inl (1, 160, q_feedF (oI L 1 1) (vI vs 1) (bF L 2))])
theorem sta_X5_feed : s_Sta c_X5_feed := ⟨⟨by decide +kernel, by decide +kernel, by decide +kernel⟩, List.mem_of_getElem? (i := 332) (by decide +kernel), List.mem_of_getElem? (i := 64) (by decide +kernel), ⟨List.mem_of_getElem? (i := 330) (by decide +kernel), List.mem_of_getElem? (i := 331) (by decide +kernel), Or.inl ⟨_, rfl, rfl⟩⟩⟩

def k_X5_feed : List sBk := [
  (0, false, [true, true], [o0 0 (.iload_n 1), oN 1 (.ifCond .lt 9) [1], o0 4 (.iload_n 1), oK 5 (.bipush 127) (.int 127), oN 7 (.if_icmp .le 5) [2], oN 10 .nop [1]]),
  (10, false, [false, false], [oK 10 (.iconst (-1)) (.int (-1)), o0 11 .ireturn]),
  (12, false, [true, true], [o0 12 (.aload_n 0), oN 13 (.getfield 12) [5, 0, 298], oN 16 (.getfield 54) [4, 1, 95], oK 19 (.sipush 160) (.int 160), oN 22 (.if_icmp .lt 6) [3], oK 25 (.bipush (-3)) (.int (-3)), o0 27 .ireturn]),
  (28, false, [true, true], [o0 28 (.aload_n 0), oN 29 (.getfield 12) [5, 0, 298], oN 32 (.getfield 58) [4, 0, 93], o0 35 (.aload_n 0), oN 36 (.getfield 12) [5, 0, 298], oN 39 (.getfield 54) [4, 1, 95], o0 42 (.iload_n 1), o0 43 .i2b, o0 44 .bastore, o0 45 (.aload_n 0), oN 46 (.getfield 12) [5, 0, 298], o0 49 .dup, oN 50 (.getfield 54) [4, 1, 95], oK 53 (.iconst 1) (.int 1), o0 54 .iadd, oN 55 (.putfield 54) [4, 1, 95], o0 58 (.aload_n 0), oN 59 (.getfield 12) [5, 0, 298], oN 62 (.getfield 54) [4, 1, 95], o0 65 .ireturn])]
set_option maxRecDepth 100000 in
theorem ck_X5_feed : s_ck RX5 cX5_feed 2 0 0 k_X5_feed = true := by decide +kernel

set_option maxRecDepth 100000 in
set_option maxHeartbeats 1000000 in
theorem ok_X5_feed : s_Ok c_X5_feed := by
  refine s_ok_of k_X5_feed (by decide +kernel) sta_X5_feed ck_X5_feed trivial ?_
  rintro vs L ⟨x1, x2, x3, x4, x5, x6, y7, y8, y9, ln, f, c, t, rfl, rfl, hl, ht⟩
  refine ⟨rfl, fun G hG => ?_⟩
  have fin : ∀ (a : Int32) (L2 : sH), a = r_feed ln c → L2 = w3 x1 x2 x3 x4 x5 x6 y7 y8 y9 (q_feed ln c) (q_feedF ln c f) → s_PP (some .int) false c_X5_feed.2.2.2.2.2 [.ref 0, .int c] (w3 x1 x2 x3 x4 x5 x6 y7 y8 y9 ln f) (some (.int a)) L2 := fun a L2 ha hL => ⟨rfl, ⟨by rw [ha]; rfl, by rw [hL]; rfl⟩, fun h => by cases h⟩
  refine hG 0 _ _ _ (And.intro (fun h => ?_) (fun h => ?_))
  · exact fin _ _ (by rw [r_feed, if_pos h]) (by rw [q_feed, if_pos h, show q_feedF ln c f = f by funext j; rw [q_feedF, if_pos h]])
  refine And.intro (fun h2 => ?_) (fun h2 => ?_)
  · exact fin _ _ (by rw [r_feed, if_neg h, if_pos h2]) (by rw [q_feed, if_neg h, if_pos h2, show q_feedF ln c f = f by funext j; rw [q_feedF, if_neg h, if_pos h2]])
  refine And.intro (fun h3 => ?_) (fun h3 => ?_)
  · refine And.intro ?_ ?_
    · rw [hl] at h3 ⊢
      exact vp_in_nI ((nI_ltI (b := 160) (by omega) (by omega)).mp h3) (by omega)
    · exact fin _ _ (by rw [r_feed, if_neg h, if_neg h2, if_pos h3]) (by rw [q_feed, if_neg h, if_neg h2, if_pos h3, show q_feedF ln c f = upd f ln.toNatClampNeg (vp_nar .byte c.toInt8.toInt32) by funext j; rw [q_feedF, if_neg h, if_neg h2, if_pos h3]]; rfl)
  · exact fin _ _ (by rw [r_feed, if_neg h, if_neg h2, if_neg h3]) (by rw [q_feed, if_neg h, if_neg h2, if_neg h3, show q_feedF ln c f = f by funext j; rw [q_feedF, if_neg h, if_neg h2, if_neg h3]])
def r_end (ln n : Int32) : Int32 := if n < 0 then -1 else if ln < n then -1 else ln
def q_end (ln n : Int32) : Int32 := if n < 0 then ln else if ln < n then ln else n
def c_X5_end : sCtr := ((yX5_end, cX5_end, 3, (some .int)), (6, 1, 0, 0), false,
  w3fp,
  fun vs L => ∃ (x1 x2 x3 x4 x5 x6 : Nat) (y7 y8 y9 ln : Int32) (f : Nat → Int32) (c : Int32), vs = [.ref 0, .int c] ∧ L = w3 x1 x2 x3 x4 x5 x6 y7 y8 y9 ln f,
  fun vs L r L' => r = some (.int (r_end (oI L 1 1) (vI vs 1))) ∧ L' = [s_hd L, .inr (.inr (4, [.ref 2, .int (q_end (oI L 1 1) (vI vs 1))])), .inl (1, 160, bF L 2)])
theorem sta_X5_end : s_Sta c_X5_end := ⟨⟨by decide +kernel, by decide +kernel, by decide +kernel⟩, List.mem_of_getElem? (i := 336) (by decide +kernel), List.mem_of_getElem? (i := 64) (by decide +kernel), ⟨List.mem_of_getElem? (i := 334) (by decide +kernel), List.mem_of_getElem? (i := 335) (by decide +kernel), Or.inl ⟨_, rfl, rfl⟩⟩⟩

def k_X5_end : List sBk := [
  (0, false, [true, true, false], [o0 0 (.iload_n 1), oN 1 (.ifCond .lt 14) [1], o0 4 (.iload_n 1), o0 5 (.aload_n 0), oN 6 (.getfield 12) [5, 0, 298], oN 9 (.getfield 54) [4, 1, 95], oN 12 (.if_icmp .le 5) [2], oN 15 .nop [1]]),
  (15, false, [false, false, false], [oK 15 (.iconst (-1)) (.int (-1)), o0 16 .ireturn]),
  (17, false, [true, true, false], [o0 17 (.aload_n 0), oN 18 (.getfield 12) [5, 0, 298], oN 21 (.getfield 54) [4, 1, 95], o0 24 (.istore_n 2), o0 25 (.aload_n 0), oN 26 (.getfield 12) [5, 0, 298], o0 29 (.iload_n 1), oN 30 (.putfield 54) [4, 1, 95], o0 33 (.iload_n 2), o0 34 .ireturn])]
set_option maxRecDepth 100000 in
theorem ck_X5_end : s_ck RX5 cX5_end 3 0 0 k_X5_end = true := by decide +kernel

set_option maxRecDepth 100000 in
set_option maxHeartbeats 1000000 in
theorem ok_X5_end : s_Ok c_X5_end := by
  refine s_ok_of k_X5_end (by decide +kernel) sta_X5_end ck_X5_end trivial ?_
  rintro vs L ⟨x1, x2, x3, x4, x5, x6, y7, y8, y9, ln, f, c, rfl, rfl⟩
  refine ⟨rfl, fun G hG => ?_⟩
  have fin : ∀ (a : Int32) (L2 : sH), a = r_end ln c → L2 = w3 x1 x2 x3 x4 x5 x6 y7 y8 y9 (q_end ln c) f → s_PP (some .int) false c_X5_end.2.2.2.2.2 [.ref 0, .int c] (w3 x1 x2 x3 x4 x5 x6 y7 y8 y9 ln f) (some (.int a)) L2 := fun a L2 ha hL => ⟨rfl, ⟨by rw [ha]; rfl, by rw [hL]; rfl⟩, fun h => by cases h⟩
  refine hG 0 _ _ _ (And.intro (fun h => ?_) (fun h => ?_))
  · exact fin _ _ (by rw [r_end, if_pos h]) (by rw [q_end, if_pos h])
  refine And.intro (fun h2 => ?_) (fun h2 => ?_)
  · exact fin _ _ (by rw [r_end, if_neg h, if_pos h2]) (by rw [q_end, if_neg h, if_pos h2])
  · exact fin _ _ (by rw [r_end, if_neg h, if_neg h2]) (by rw [q_end, if_neg h, if_neg h2]; rfl)
def w0fp (vs : sS) (_ : sH) : List Nat := match vs with
  | .ref b :: _ => [b]
  | _ => []
def c_X5_fault : sCtr := ((yX5_fault, cX5_fault, 1, (some .int)), (6, 0, 0, 0), true,
  w0fp,
  fun vs L => ∃ (x0 x1 x2 x3 x4 x5 x6 : Nat) (y7 y8 y9 : Int32), vs = [.ref 0] ∧ L = [.inr (.inr (5, [.ref x0, .ref x1, .ref x2, .ref x3, .ref x4, .ref x5, .ref x6, .int y7, .int y8, .int y9]))],
  fun _ L r _ => r = some (.int (oI L 0 8)))
theorem sta_X5_fault : s_Sta c_X5_fault := ⟨⟨by decide +kernel, by decide +kernel, by decide +kernel⟩, List.mem_of_getElem? (i := 489) (by decide +kernel), List.mem_of_getElem? (i := 64) (by decide +kernel), ⟨List.mem_of_getElem? (i := 487) (by decide +kernel), List.mem_of_getElem? (i := 488) (by decide +kernel), Or.inl ⟨_, rfl, rfl⟩⟩⟩

def k_X5_fault : List sBk := [
  (0, false, [true], [o0 0 (.aload_n 0), oN 1 (.getfield 69) [5, 8, 306], o0 4 .ireturn])]
set_option maxRecDepth 100000 in
theorem ck_X5_fault : s_ck RX5 cX5_fault 1 0 0 k_X5_fault = true := by decide +kernel

set_option maxRecDepth 100000 in
set_option maxHeartbeats 1000000 in
theorem ok_X5_fault : s_Ok c_X5_fault := by
  refine s_ok_of k_X5_fault (by decide +kernel) sta_X5_fault ck_X5_fault trivial ?_
  rintro vs L ⟨x0, x1, x2, x3, x4, x5, x6, y7, y8, y9, rfl, rfl⟩
  exact ⟨rfl, fun G hG => hG 0 _ _ _ ⟨rfl, rfl, fun _ => rfl⟩⟩
def c_X5_torn : sCtr := ((yX5_torn, cX5_torn, 1, (some .int)), (6, 0, 0, 0), true,
  w0fp,
  fun vs L => ∃ (x0 x1 x2 x3 x4 x5 x6 : Nat) (y7 y8 y9 : Int32), vs = [.ref 0] ∧ L = [.inr (.inr (5, [.ref x0, .ref x1, .ref x2, .ref x3, .ref x4, .ref x5, .ref x6, .int y7, .int y8, .int y9]))],
  fun _ L r _ => r = some (.int (oI L 0 9)))
theorem sta_X5_torn : s_Sta c_X5_torn := ⟨⟨by decide +kernel, by decide +kernel, by decide +kernel⟩, List.mem_of_getElem? (i := 802) (by decide +kernel), List.mem_of_getElem? (i := 64) (by decide +kernel), ⟨List.mem_of_getElem? (i := 800) (by decide +kernel), List.mem_of_getElem? (i := 801) (by decide +kernel), Or.inl ⟨_, rfl, rfl⟩⟩⟩

def k_X5_torn : List sBk := [
  (0, false, [true], [o0 0 (.aload_n 0), oN 1 (.getfield 273) [5, 9, 307], o0 4 .ireturn])]
set_option maxRecDepth 100000 in
theorem ck_X5_torn : s_ck RX5 cX5_torn 1 0 0 k_X5_torn = true := by decide +kernel

set_option maxRecDepth 100000 in
set_option maxHeartbeats 1000000 in
theorem ok_X5_torn : s_Ok c_X5_torn := by
  refine s_ok_of k_X5_torn (by decide +kernel) sta_X5_torn ck_X5_torn trivial ?_
  rintro vs L ⟨x0, x1, x2, x3, x4, x5, x6, y7, y8, y9, rfl, rfl⟩
  exact ⟨rfl, fun G hG => hG 0 _ _ _ ⟨rfl, rfl, fun _ => rfl⟩⟩
def c_X3_isNothing : sCtr := ((yX3_isNothing, cX3_isNothing, 1, (some .boolean)), (4, 0, 0, 0), true,
  w0fp,
  fun vs L => ∃ (x : Nat) (ln sz : Int32), vs = [.ref 0] ∧ L = [.inr (.inr (3, [.ref x, .int ln, .int sz]))],
  fun _ L r _ => r = some (.int (if oI L 0 1 = -1 then 1 else 0)))
theorem sta_X3_isNothing : s_Sta c_X3_isNothing := ⟨⟨by decide +kernel, by decide +kernel, by decide +kernel⟩, List.mem_of_getElem? (i := 789) (by decide +kernel), List.mem_of_getElem? (i := 69) (by decide +kernel), ⟨List.mem_of_getElem? (i := 787) (by decide +kernel), List.mem_of_getElem? (i := 788) (by decide +kernel), Or.inl ⟨_, rfl, rfl⟩⟩⟩

def k_X3_isNothing : List sBk := [
  (0, false, [true], [o0 0 (.aload_n 0), oN 1 (.getfield 15) [3, 1, 287], oK 4 (.iconst (-1)) (.int (-1)), oN 5 (.if_icmp .ne 7) [1], oK 8 (.iconst 1) (.int 1), oN 9 (.goto 4) [2]]),
  (12, false, [false], [oK 12 (.iconst 0) (.int 0), oN 13 .nop [2]]),
  (13, false, [false], [o0 13 .ireturn])]
set_option maxRecDepth 100000 in
theorem ck_X3_isNothing : s_ck RX3 cX3_isNothing 1 0 0 k_X3_isNothing = true := by decide +kernel

set_option maxRecDepth 100000 in
set_option maxHeartbeats 1000000 in
theorem ok_X3_isNothing : s_Ok c_X3_isNothing := by
  refine s_ok_of k_X3_isNothing (by decide +kernel) sta_X3_isNothing ck_X3_isNothing trivial ?_
  rintro vs L ⟨x, ln, sz, rfl, rfl⟩
  refine ⟨rfl, fun G hG => ?_⟩
  refine hG 0 _ _ _ (And.intro (fun h => ?_) (fun h => ?_))
  · refine And.intro (Or.inr rfl) ⟨rfl, ?_, fun _ => rfl⟩
    show some (Value.int 1) = some (Value.int (if ln = -1 then 1 else 0))
    rw [if_pos h]
  · refine And.intro (Or.inl rfl) ⟨rfl, ?_, fun _ => rfl⟩
    show some (Value.int 0) = some (Value.int (if ln = -1 then 1 else 0))
    rw [if_neg h]
/-- what the machine would find at a cell -/
def p_fa (ln sz as i : Int32) : Int32 := if ln = -1 then 1 else if as = ln then (if i < 0 then 2 else if i < sz then 0 else 2) else 3
def c_X3_faultAt : sCtr := ((yX3_faultAt, cX3_faultAt, 3, (some .int)), (4, 2, 1, 20), true,
  w0fp,
  fun vs L => ∃ (x : Nat) (ln sz as i : Int32), vs = [.ref 0, .int as, .int i] ∧ L = [.inr (.inr (3, [.ref x, .int ln, .int sz]))],
  fun vs L r _ => r = some (.int (p_fa (oI L 0 1) (oI L 0 2) (vI vs 1) (vI vs 2))))
theorem sta_X3_faultAt : s_Sta c_X3_faultAt := ⟨⟨by decide +kernel, by decide +kernel, by decide +kernel⟩, List.mem_of_getElem? (i := 785) (by decide +kernel), List.mem_of_getElem? (i := 69) (by decide +kernel), ⟨List.mem_of_getElem? (i := 783) (by decide +kernel), List.mem_of_getElem? (i := 784) (by decide +kernel), Or.inl ⟨_, rfl, rfl⟩⟩⟩

def k_X3_faultAt : List sBk := [
  (0, false, [true, true, true], [o0 0 (.aload_n 0), oC 1 (.invokevirtual 22) [786] c_X3_isNothing, oN 4 (.ifCond .eq 5) [1], oK 7 (.iconst 1) (.int 1), o0 8 .ireturn]),
  (9, false, [true, true, true], [o0 9 (.iload_n 1), o0 10 (.aload_n 0), oN 11 (.getfield 15) [3, 1, 287], oN 14 (.if_icmp .eq 5) [2], oK 17 (.iconst 3) (.int 3), o0 18 .ireturn]),
  (19, false, [true, false, true], [o0 19 (.iload_n 2), oN 20 (.ifCond .lt 11) [3], o0 23 (.iload_n 2), o0 24 (.aload_n 0), oN 25 (.getfield 19) [3, 2, 289], oN 28 (.if_icmp .lt 7) [4], oN 31 .nop [3]]),
  (31, false, [false, false, false], [oK 31 (.iconst 2) (.int 2), oN 32 (.goto 4) [5]]),
  (35, false, [false, false, false], [oK 35 (.iconst 0) (.int 0), oN 36 .nop [5]]),
  (36, false, [false, false, false], [o0 36 .ireturn])]
set_option maxRecDepth 100000 in
theorem ck_X3_faultAt : s_ck RX3 cX3_faultAt 3 1 20 k_X3_faultAt = true := by decide +kernel

set_option maxRecDepth 100000 in
set_option maxHeartbeats 1000000 in
theorem ok_X3_faultAt : s_Ok c_X3_faultAt := by
  refine s_ok_of k_X3_faultAt (by decide +kernel) sta_X3_faultAt ck_X3_faultAt (And.intro ok_X3_isNothing trivial) ?_
  rintro vs L ⟨x, ln, sz, as, i, rfl, rfl⟩
  refine ⟨rfl, fun G hG => ?_⟩
  have fin : ∀ a : Int32, a = p_fa ln sz as i → s_PP (some .int) true c_X3_faultAt.2.2.2.2.2 [.ref 0, .int as, .int i] [.inr (.inr (3, [.ref x, .int ln, .int sz]))] (some (.int a)) [.inr (.inr (3, [.ref x, .int ln, .int sz]))] := fun a ha => ⟨rfl, by rw [ha]; rfl, fun _ => rfl⟩
  refine hG 0 _ _ _ (And.intro ⟨_, _, _, rfl, rfl⟩ ?_)
  intro r hr
  obtain rfl : r = some (.int (if ln = -1 then 1 else 0)) := hr
  by_cases h : ln = -1
  · refine And.intro (fun q => ?_) (fun _ => ?_)
    · rw [if_pos h] at q; exact absurd q (by decide)
    · exact fin _ (by rw [p_fa, if_pos h])
  refine And.intro (fun _ => ?_) (fun q => ?_)
  rotate_left
  · rw [if_neg h] at q; exact absurd rfl q
  refine And.intro (fun h2 => ?_) (fun h2 => ?_)
  · refine And.intro (fun h3 => ?_) (fun h3 => ?_)
    · exact fin _ (by rw [p_fa, if_neg h, if_pos h2, if_pos h3])
    · refine And.intro (fun h4 => ?_) (fun h4 => ?_)
      · exact fin _ (by rw [p_fa, if_neg h, if_pos h2, if_neg h3, if_pos h4])
      · exact fin _ (by rw [p_fa, if_neg h, if_pos h2, if_neg h3, if_neg h4])
  · exact fin _ (by rw [p_fa, if_neg h, if_neg h2])
def s1fp (vs : sS) (L : sH) : List Nat := match vs with
  | .ref b :: _ => [b, s_rf L b 0]
  | _ => []
def c_X3_makeNew : sCtr := ((yX3_makeNew, cX3_makeNew, 4, none), (4, 2, 0, 0), false,
  s1fp,
  fun vs L => ∃ (ln sz la m : Int32) (f : Nat → Int32) (k : Nat), vs = [.ref 0, .int la, .int m] ∧ L = [.inr (.inr (3, [.ref 1, .int ln, .int sz])), .inl (0, 40, f)] ∧ m = nI k ∧ k ≤ 40,
  fun vs L r L' => r = none ∧ L' = [.inr (.inr (3, [.ref 1, .int (vI vs 1), .int (vI vs 2)])), .inl (0, 40, p_fi (fun _ => 0) (bF L 1) (vI vs 2).toNatClampNeg)])
theorem sta_X3_makeNew : s_Sta c_X3_makeNew := ⟨⟨by decide +kernel, by decide +kernel, by decide +kernel⟩, List.mem_of_getElem? (i := 777) (by decide +kernel), List.mem_of_getElem? (i := 69) (by decide +kernel), ⟨List.mem_of_getElem? (i := 775) (by decide +kernel), List.mem_of_getElem? (i := 776) (by decide +kernel), Or.inl ⟨_, rfl, rfl⟩⟩⟩

def k_X3_makeNew : List sBk := [
  (0, false, [true, true, true, false], [o0 0 (.aload_n 0), o0 1 (.iload_n 1), oN 2 (.putfield 15) [3, 1, 287], o0 5 (.aload_n 0), o0 6 (.iload_n 2), oN 7 (.putfield 19) [3, 2, 289], oK 10 (.iconst 0) (.int 0), o0 11 (.istore_n 3), oN 12 .nop [1]]),
  (12, true, [true, false, true, true], [o0 12 (.iload_n 3), o0 13 (.iload_n 2), oN 14 (.if_icmp .ge 16) [2], o0 17 (.aload_n 0), oN 18 (.getfield 9) [3, 0, 285], o0 21 (.iload_n 3), oK 22 (.iconst 0) (.int 0), o0 23 .iastore, oK 24 (.iinc 3 1) (.int 1), oN 27 (.goto (-15)) [1]]),
  (30, false, [false, false, false, false], [o0 30 .return_])]
set_option maxRecDepth 100000 in
theorem ck_X3_makeNew : s_ck RX3 cX3_makeNew 4 0 0 k_X3_makeNew = true := by decide +kernel

set_option maxRecDepth 100000 in
set_option maxHeartbeats 1000000 in
theorem ok_X3_makeNew : s_Ok c_X3_makeNew := by
  refine s_ok_of k_X3_makeNew (by decide +kernel) sta_X3_makeNew ck_X3_makeNew trivial ?_
  rintro vs L ⟨ln, sz, la, m, f, K, rfl, rfl, hm, hK⟩
  refine ⟨rfl, fun G hG => ?_⟩
  have loop : ∀ (k i : Nat) (x : Int32) (g : Nat → Int32), i + k = K → x = nI i → g = p_fi (fun _ => 0) f i → G 1 [some (.ref 0), none, some (.int m), some (.int x)] [] [.inr (.inr (3, [.ref 1, .int la, .int m])), .inl (0, 40, g)] := by
    intro k
    induction k with
    | zero =>
      intro i x g hi hx hg
      refine hG 1 _ _ _ (And.intro (fun h2 => ?_) (fun h2 => ?_))
      · rw [hx, hm, nI_ltI (by omega) (by omega)] at h2; omega
      · refine ⟨rfl, ⟨rfl, ?_⟩, fun h => by cases h⟩
        show _ = ([.inr (.inr (3, [.ref 1, .int la, .int m])), .inl (0, 40, p_fi (fun _ => 0) f m.toNatClampNeg)] : sH)
        rw [hm, nI_clamp (by omega), hg, show i = K by omega]
    | succ k ih =>
      intro i x g hi hx hg
      refine hG 1 _ _ _ (And.intro (fun h2 => ?_) (fun h2 => ?_))
      · refine And.intro (by rw [hx]; exact vp_in_nI (by omega) (by omega)) ?_
        exact ih (i + 1) _ (upd g x.toNatClampNeg 0) (by omega) (by rw [hx, nI_1]) (by rw [hx, nI_clamp (by omega), hg, ← p_fi_s])
      · rw [hx, hm, nI_ltI (by omega) (by omega)] at h2; omega
  exact hG 0 _ _ _ (loop K 0 _ f (by omega) nI_0.symm (p_fi_0 _ _).symm)
def p_lw (ln v : Int32) : Int32 := if ln = 0 then v.toInt8.toInt32 else if ln = 1 then v.toInt16.toInt32 else v
def c_X3_write : sCtr := ((yX3_write, cX3_write, 3, none), (4, 2, 0, 0), false,
  s1fp,
  fun vs L => ∃ (ln sz i v : Int32) (f : Nat → Int32), vs = [.ref 0, .int i, .int v] ∧ L = [.inr (.inr (3, [.ref 1, .int ln, .int sz])), .inl (0, 40, f)] ∧ vp_in i 40,
  fun vs L r L' => r = none ∧ L' = [s_hd L, .inl (0, 40, upd (bF L 1) (vI vs 1).toNatClampNeg (p_lw (oI L 0 1) (vI vs 2)))])
theorem sta_X3_write : s_Sta c_X3_write := ⟨⟨by decide +kernel, by decide +kernel, by decide +kernel⟩, List.mem_of_getElem? (i := 793) (by decide +kernel), List.mem_of_getElem? (i := 69) (by decide +kernel), ⟨List.mem_of_getElem? (i := 791) (by decide +kernel), List.mem_of_getElem? (i := 792) (by decide +kernel), Or.inl ⟨_, rfl, rfl⟩⟩⟩

def k_X3_write : List sBk := [
  (0, false, [true, true, true], [o0 0 (.aload_n 0), oN 1 (.getfield 15) [3, 1, 287], oN 4 (.lookupswitch 50 #[(0, 28), (1, 39)]) [3, 1, 2]]),
  (32, false, [true, true, true], [o0 32 (.aload_n 0), oN 33 (.getfield 9) [3, 0, 285], o0 36 (.iload_n 1), o0 37 (.iload_n 2), o0 38 .i2b, o0 39 .iastore, oN 40 (.goto 21) [4]]),
  (43, false, [true, true, true], [o0 43 (.aload_n 0), oN 44 (.getfield 9) [3, 0, 285], o0 47 (.iload_n 1), o0 48 (.iload_n 2), o0 49 .i2s, o0 50 .iastore, oN 51 (.goto 10) [4]]),
  (54, false, [true, true, true], [o0 54 (.aload_n 0), oN 55 (.getfield 9) [3, 0, 285], o0 58 (.iload_n 1), o0 59 (.iload_n 2), o0 60 .iastore, oN 61 .nop [4]]),
  (61, false, [false, false, false], [o0 61 .return_])]
set_option maxRecDepth 100000 in
theorem ck_X3_write : s_ck RX3 cX3_write 3 0 0 k_X3_write = true := by decide +kernel

set_option maxRecDepth 100000 in
set_option maxHeartbeats 1000000 in
theorem ok_X3_write : s_Ok c_X3_write := by
  refine s_ok_of k_X3_write (by decide +kernel) sta_X3_write ck_X3_write trivial ?_
  rintro vs L ⟨ln, sz, i, v, f, rfl, rfl, hi⟩
  refine ⟨rfl, fun G hG => ?_⟩
  have fin : ∀ (a : Int32), a = p_lw ln v → s_PP none false c_X3_write.2.2.2.2.2 [.ref 0, .int i, .int v] [.inr (.inr (3, [.ref 1, .int ln, .int sz])), .inl (0, 40, f)] none [.inr (.inr (3, [.ref 1, .int ln, .int sz])), .inl (0, 40, upd f i.toNatClampNeg a)] := fun a ha => ⟨rfl, ⟨rfl, by rw [ha]; rfl⟩, fun h => by cases h⟩
  refine hG 0 _ _ _ (And.intro (fun h => ?_) (fun h => ?_))
  · have h : ln = 0 := h
    exact And.intro hi (fin _ (by rw [p_lw, if_pos h]))
  · have h : ¬ ln = 0 := h
    refine And.intro (fun h2 => ?_) (fun h2 => ?_)
    · have h2 : ln = 1 := h2
      exact And.intro hi (fin _ (by rw [p_lw, if_neg h, if_pos h2]))
    · have h2 : ¬ ln = 1 := h2
      exact And.intro hi (fin _ (by rw [p_lw, if_neg h, if_neg h2]))
end
section
/-! ===== WishClerk: sheets, images, counts ===== -/
/-- four sheets from the cell k on -/
def shs (k : Nat) (ln sz : Nat → Int32) (cf : Nat → Nat → Int32) : sH := [.inr (.inr (3, [.ref (k + 1), .int (ln 0), .int (sz 0)])), .inl (0, 40, cf 0), .inr (.inr (3, [.ref (k + 3), .int (ln 1), .int (sz 1)])), .inl (0, 40, cf 1), .inr (.inr (3, [.ref (k + 5), .int (ln 2), .int (sz 2)])), .inl (0, 40, cf 2), .inr (.inr (3, [.ref (k + 7), .int (ln 3), .int (sz 3)])), .inl (0, 40, cf 3)]
def w4 (x0 x1 x2 x3 x5 x6 : Nat) (y7 y8 y9 : Int32) (ln sz : Nat → Int32) (cf : Nat → Nat → Int32) : sH := .inr (.inr (5, [.ref x0, .ref x1, .ref x2, .ref x3, .ref 1, .ref x5, .ref x6, .int y7, .int y8, .int y9])) :: .inr (.inl (4, [some 2, some 4, some 6, some 8])) :: shs 2 ln sz cf
def s_ra (L : sH) (a j : Nat) : Nat := match s_nth L a with
  | some (.inr (.inl (_, l))) => match s_nth l j with
    | some (some q) => q
    | _ => 0
  | _ => 0
def shP (L : sH) (a : Nat) : List Nat := [a, s_ra L a 0, s_rf L (s_ra L a 0) 0, s_ra L a 1, s_rf L (s_ra L a 1) 0, s_ra L a 2, s_rf L (s_ra L a 2) 0, s_ra L a 3, s_rf L (s_ra L a 3) 0]
def w4fp (vs : sS) (L : sH) : List Nat := match vs with
  | .ref b :: _ => b :: shP L (s_rf L b 4)
  | _ => []
/-- lane, size, cells of sheet j of the four that begin at the cell k -/
def shL (k : Nat) (L : sH) (j : Nat) : Int32 := oI L (k + 2 * j) 1
def shZ (k : Nat) (L : sH) (j : Nat) : Int32 := oI L (k + 2 * j) 2
def shF (k : Nat) (L : sH) (j : Nat) : Nat → Int32 := bF L (k + 2 * j + 1)
def r_sheet (k l n : Int32) : Int32 := if k < 0 then -1 else if k < 4 then (if l < 0 then -1 else if l < 3 then (if 40 < n then -1 else if n < 0 then -14 else 1) else -1) else -1
def q_shL (k l n : Int32) (ln : Nat → Int32) : Nat → Int32 := fun j => if r_sheet k l n = 1 then upd ln k.toNatClampNeg l j else ln j
def q_shZ (k l n : Int32) (sz : Nat → Int32) : Nat → Int32 := fun j => if r_sheet k l n = 1 then upd sz k.toNatClampNeg n j else sz j
def q_shF (k l n : Int32) (cf : Nat → Nat → Int32) : Nat → Nat → Int32 := fun j => if r_sheet k l n = 1 then va_up cf k.toNatClampNeg (p_fi (fun _ => 0) (cf k.toNatClampNeg) n.toNatClampNeg) j else cf j
theorem in4 {k : Int32} (h : ¬ k < 0) (h2 : k < 4) : k = nI 0 ∨ k = nI 1 ∨ k = nI 2 ∨ k = nI 3 := by
  obtain ⟨j, hj, rfl⟩ := nI_of h
  have := (nI_ltI (b := 4) hj (by omega)).mp h2
  rcases (show j = 0 ∨ j = 1 ∨ j = 2 ∨ j = 3 by omega) with rfl | rfl | rfl | rfl <;> simp
def c_X5_sheet : sCtr := ((yX5_sheet, cX5_sheet, 4, (some .int)), (6, 3, 1, 23), false,
  w4fp,
  fun vs L => ∃ (x0 x1 x2 x3 x5 x6 : Nat) (y7 y8 y9 : Int32) (ln sz : Nat → Int32) (cf : Nat → Nat → Int32) (k l n : Int32), vs = [.ref 0, .int k, .int l, .int n] ∧ L = w4 x0 x1 x2 x3 x5 x6 y7 y8 y9 ln sz cf,
  fun vs L r L' => r = some (.int (r_sheet (vI vs 1) (vI vs 2) (vI vs 3))) ∧ L' = s_hd L :: .inr (.inl (4, [some 2, some 4, some 6, some 8])) :: shs 2 (q_shL (vI vs 1) (vI vs 2) (vI vs 3) (shL 2 L)) (q_shZ (vI vs 1) (vI vs 2) (vI vs 3) (shZ 2 L)) (q_shF (vI vs 1) (vI vs 2) (vI vs 3) (shF 2 L)))
theorem sta_X5_sheet : s_Sta c_X5_sheet := ⟨⟨by decide +kernel, by decide +kernel, by decide +kernel⟩, List.mem_of_getElem? (i := 773) (by decide +kernel), List.mem_of_getElem? (i := 64) (by decide +kernel), ⟨List.mem_of_getElem? (i := 771) (by decide +kernel), List.mem_of_getElem? (i := 772) (by decide +kernel), Or.inl ⟨_, rfl, rfl⟩⟩⟩

def k_X5_sheet : List sBk := [
  (0, false, [true, true, true, true], [o0 0 (.iload_n 1), oN 1 (.ifCond .lt 23) [1], o0 4 (.iload_n 1), oK 5 (.iconst 4) (.int 4), oN 6 (.if_icmp .ge 18) [1], o0 9 (.iload_n 2), oN 10 (.ifCond .lt 14) [1], o0 13 (.iload_n 2), oK 14 (.iconst 3) (.int 3), oN 15 (.if_icmp .ge 9) [1], o0 18 (.iload_n 3), oK 19 (.bipush 40) (.int 40), oN 21 (.if_icmp .le 5) [2], oN 24 .nop [1]]),
  (24, false, [false, false, false, false], [oK 24 (.iconst (-1)) (.int (-1)), o0 25 .ireturn]),
  (26, false, [true, true, true, true], [o0 26 (.iload_n 3), oN 27 (.ifCond .ge 6) [3], oK 30 (.bipush (-14)) (.int (-14)), o0 32 .ireturn]),
  (33, false, [true, true, true, true], [o0 33 (.aload_n 0), oN 34 (.getfield 40) [5, 4, 302], o0 37 (.iload_n 1), o0 38 .aaload, o0 39 (.iload_n 2), o0 40 (.iload_n 3), oC 41 (.invokevirtual 254) [774] c_X3_makeNew, oK 44 (.iconst 1) (.int 1), o0 45 .ireturn])]
set_option maxRecDepth 100000 in
theorem ck_X5_sheet : s_ck RX5 cX5_sheet 4 1 23 k_X5_sheet = true := by decide +kernel

set_option maxRecDepth 100000 in
set_option maxHeartbeats 1000000 in
theorem ok_X5_sheet : s_Ok c_X5_sheet := by
  refine s_ok_of k_X5_sheet (by decide +kernel) sta_X5_sheet ck_X5_sheet (And.intro ok_X3_makeNew trivial) ?_
  rintro vs L ⟨x0, x1, x2, x3, x5, x6, y7, y8, y9, ln, sz, cf, k, l, n, rfl, rfl⟩
  refine ⟨rfl, fun G hG => ?_⟩
  have bad : ∀ a : Int32, a = r_sheet k l n → ¬ r_sheet k l n = 1 → s_PP (some .int) false c_X5_sheet.2.2.2.2.2 [.ref 0, .int k, .int l, .int n] (w4 x0 x1 x2 x3 x5 x6 y7 y8 y9 ln sz cf) (some (.int a)) (w4 x0 x1 x2 x3 x5 x6 y7 y8 y9 ln sz cf) := by
    intro a ha hb
    refine ⟨rfl, ⟨by rw [ha]; rfl, ?_⟩, fun h => by cases h⟩
    show w4 x0 x1 x2 x3 x5 x6 y7 y8 y9 ln sz cf = s_hd (w4 x0 x1 x2 x3 x5 x6 y7 y8 y9 ln sz cf) :: .inr (.inl (4, [some 2, some 4, some 6, some 8])) :: shs 2 (q_shL k l n (shL 2 (w4 x0 x1 x2 x3 x5 x6 y7 y8 y9 ln sz cf))) (q_shZ k l n (shZ 2 (w4 x0 x1 x2 x3 x5 x6 y7 y8 y9 ln sz cf))) (q_shF k l n (shF 2 (w4 x0 x1 x2 x3 x5 x6 y7 y8 y9 ln sz cf)))
    rw [show q_shL k l n (shL 2 (w4 x0 x1 x2 x3 x5 x6 y7 y8 y9 ln sz cf)) = shL 2 (w4 x0 x1 x2 x3 x5 x6 y7 y8 y9 ln sz cf) by funext j; rw [q_shL, if_neg hb], show q_shZ k l n (shZ 2 (w4 x0 x1 x2 x3 x5 x6 y7 y8 y9 ln sz cf)) = shZ 2 (w4 x0 x1 x2 x3 x5 x6 y7 y8 y9 ln sz cf) by funext j; rw [q_shZ, if_neg hb], show q_shF k l n (shF 2 (w4 x0 x1 x2 x3 x5 x6 y7 y8 y9 ln sz cf)) = shF 2 (w4 x0 x1 x2 x3 x5 x6 y7 y8 y9 ln sz cf) by funext j; rw [q_shF, if_neg hb]]
    rfl
  have nb : ∀ a : Int32, a = -1 ∨ a = -14 → ¬ a = 1 := by rintro a (rfl | rfl) <;> decide
  refine hG 0 _ _ _ (And.intro (fun h => ?_) (fun h => ?_))
  · have e : r_sheet k l n = -1 := by rw [r_sheet, if_pos h]
    exact bad _ e.symm (nb _ (Or.inl e))
  refine And.intro (fun h2 => ?_) (fun h2 => ?_)
  rotate_left
  · have e : r_sheet k l n = -1 := by rw [r_sheet, if_neg h, if_neg h2]
    exact bad _ e.symm (nb _ (Or.inl e))
  refine And.intro (fun h3 => ?_) (fun h3 => ?_)
  · have e : r_sheet k l n = -1 := by rw [r_sheet, if_neg h, if_pos h2, if_pos h3]
    exact bad _ e.symm (nb _ (Or.inl e))
  refine And.intro (fun h4 => ?_) (fun h4 => ?_)
  rotate_left
  · have e : r_sheet k l n = -1 := by rw [r_sheet, if_neg h, if_pos h2, if_neg h3, if_neg h4]
    exact bad _ e.symm (nb _ (Or.inl e))
  refine And.intro (fun h5 => ?_) (fun h5 => ?_)
  · have e : r_sheet k l n = -1 := by rw [r_sheet, if_neg h, if_pos h2, if_neg h3, if_pos h4, if_pos h5]
    exact bad _ e.symm (nb _ (Or.inl e))
  refine And.intro (fun h6 => ?_) (fun h6 => ?_)
  · have e : r_sheet k l n = -14 := by rw [r_sheet, if_neg h, if_pos h2, if_neg h3, if_pos h4, if_neg h5, if_pos h6]
    exact bad _ e.symm (nb _ (Or.inr e))
  have e : r_sheet k l n = 1 := by rw [r_sheet, if_neg h, if_pos h2, if_neg h3, if_pos h4, if_neg h5, if_neg h6]
  obtain ⟨N, hN31, hN⟩ := nI_of h6
  have hN40 : N ≤ 40 := by
    rcases Nat.lt_or_ge 40 N with q | q
    · exact absurd (by rw [hN]; exact (nI_ltI (a := 40) (by omega) hN31).mpr q) h5
    · exact q
  have fin : ∀ L2 : sH, L2 = s_hd (w4 x0 x1 x2 x3 x5 x6 y7 y8 y9 ln sz cf) :: .inr (.inl (4, [some 2, some 4, some 6, some 8])) :: shs 2 (upd (shL 2 (w4 x0 x1 x2 x3 x5 x6 y7 y8 y9 ln sz cf)) k.toNatClampNeg l) (upd (shZ 2 (w4 x0 x1 x2 x3 x5 x6 y7 y8 y9 ln sz cf)) k.toNatClampNeg n) (va_up (shF 2 (w4 x0 x1 x2 x3 x5 x6 y7 y8 y9 ln sz cf)) k.toNatClampNeg (p_fi (fun _ => 0) (shF 2 (w4 x0 x1 x2 x3 x5 x6 y7 y8 y9 ln sz cf) k.toNatClampNeg) n.toNatClampNeg)) → s_PP (some .int) false c_X5_sheet.2.2.2.2.2 [.ref 0, .int k, .int l, .int n] (w4 x0 x1 x2 x3 x5 x6 y7 y8 y9 ln sz cf) (some (.int 1)) L2 := by
    intro L2 hL
    refine ⟨rfl, ⟨?_, ?_⟩, fun h => by cases h⟩
    · show some (Value.int 1) = some (Value.int (r_sheet k l n))
      rw [e]
    · rw [hL]
      show _ = s_hd (w4 x0 x1 x2 x3 x5 x6 y7 y8 y9 ln sz cf) :: .inr (.inl (4, [some 2, some 4, some 6, some 8])) :: shs 2 (q_shL k l n (shL 2 (w4 x0 x1 x2 x3 x5 x6 y7 y8 y9 ln sz cf))) (q_shZ k l n (shZ 2 (w4 x0 x1 x2 x3 x5 x6 y7 y8 y9 ln sz cf))) (q_shF k l n (shF 2 (w4 x0 x1 x2 x3 x5 x6 y7 y8 y9 ln sz cf)))
      rw [show q_shL k l n (shL 2 (w4 x0 x1 x2 x3 x5 x6 y7 y8 y9 ln sz cf)) = upd (shL 2 (w4 x0 x1 x2 x3 x5 x6 y7 y8 y9 ln sz cf)) k.toNatClampNeg l by funext j; rw [q_shL, if_pos e], show q_shZ k l n (shZ 2 (w4 x0 x1 x2 x3 x5 x6 y7 y8 y9 ln sz cf)) = upd (shZ 2 (w4 x0 x1 x2 x3 x5 x6 y7 y8 y9 ln sz cf)) k.toNatClampNeg n by funext j; rw [q_shZ, if_pos e], show q_shF k l n (shF 2 (w4 x0 x1 x2 x3 x5 x6 y7 y8 y9 ln sz cf)) = va_up (shF 2 (w4 x0 x1 x2 x3 x5 x6 y7 y8 y9 ln sz cf)) k.toNatClampNeg (p_fi (fun _ => 0) (shF 2 (w4 x0 x1 x2 x3 x5 x6 y7 y8 y9 ln sz cf) k.toNatClampNeg) n.toNatClampNeg) by funext j; rw [q_shF, if_pos e]]
  rcases in4 h h2 with rfl | rfl | rfl | rfl
  all_goals
    refine And.intro (vp_in_nI (by decide) (by decide)) (And.intro ⟨_, _, _, _, _, N, rfl, rfl, hN, hN40⟩ ?_)
    rintro r L' ⟨rfl, rfl⟩
    exact fin _ rfl
def r_lay (ln sz : Nat → Int32) (k i : Int32) : Int32 := if k < 0 then -1 else if k < 4 then (if p_fa (ln k.toNatClampNeg) (sz k.toNatClampNeg) (ln k.toNatClampNeg) i = 0 then 1 else -10 - p_fa (ln k.toNatClampNeg) (sz k.toNatClampNeg) (ln k.toNatClampNeg) i) else -1
def q_lay (ln sz : Nat → Int32) (k i v : Int32) (cf : Nat → Nat → Int32) : Nat → Nat → Int32 := fun j => if k < 0 then cf j else if k < 4 then (if p_fa (ln k.toNatClampNeg) (sz k.toNatClampNeg) (ln k.toNatClampNeg) i = 0 then va_up cf k.toNatClampNeg (upd (cf k.toNatClampNeg) i.toNatClampNeg (p_lw (ln k.toNatClampNeg) v)) j else cf j) else cf j
theorem p_fa_0 {ln sz as i : Int32} {N : Nat} (hs : sz = nI N) (hN : N ≤ 40) (h : p_fa ln sz as i = 0) : vp_in i 40 ∧ ¬ i < 0 ∧ i < sz ∧ as = ln ∧ ¬ ln = -1 := by
  unfold p_fa at h
  by_cases h1 : ln = -1
  · rw [if_pos h1] at h; exact absurd h (by decide)
  rw [if_neg h1] at h
  by_cases h2 : as = ln
  · rw [if_pos h2] at h
    by_cases h3 : i < 0
    · rw [if_pos h3] at h; exact absurd h (by decide)
    rw [if_neg h3] at h
    by_cases h4 : i < sz
    · obtain ⟨j, hj, rfl⟩ := nI_of h3
      have h5 := h4
      rw [hs] at h5
      have := (nI_ltI hj (by omega)).mp h5
      exact ⟨vp_in_nI (by omega) (by omega), h3, h4, h2, h1⟩
    · rw [if_neg h4] at h; exact absurd h (by decide)
  · rw [if_neg h2] at h; exact absurd h (by decide)
def c_X5_lay : sCtr := ((yX5_lay, cX5_lay, 6, (some .int)), (6, 3, 2, 42), false,
  w4fp,
  fun vs L => ∃ (x0 x1 x2 x3 x5 x6 : Nat) (y7 y8 y9 : Int32) (ln sz : Nat → Int32) (cf : Nat → Nat → Int32) (k i v : Int32), vs = [.ref 0, .int k, .int i, .int v] ∧ L = w4 x0 x1 x2 x3 x5 x6 y7 y8 y9 ln sz cf ∧ ∀ j, j < 4 → ∃ N, sz j = nI N ∧ N ≤ 40,
  fun vs L r L' => r = some (.int (r_lay (shL 2 L) (shZ 2 L) (vI vs 1) (vI vs 2))) ∧ L' = s_hd L :: .inr (.inl (4, [some 2, some 4, some 6, some 8])) :: shs 2 (shL 2 L) (shZ 2 L) (q_lay (shL 2 L) (shZ 2 L) (vI vs 1) (vI vs 2) (vI vs 3) (shF 2 L)))
theorem sta_X5_lay : s_Sta c_X5_lay := ⟨⟨by decide +kernel, by decide +kernel, by decide +kernel⟩, List.mem_of_getElem? (i := 781) (by decide +kernel), List.mem_of_getElem? (i := 64) (by decide +kernel), ⟨List.mem_of_getElem? (i := 779) (by decide +kernel), List.mem_of_getElem? (i := 780) (by decide +kernel), Or.inl ⟨_, rfl, rfl⟩⟩⟩

def k_X5_lay : List sBk := [
  (0, false, [true, true, true, true, false, false], [o0 0 (.iload_n 1), oN 1 (.ifCond .lt 8) [1], o0 4 (.iload_n 1), oK 5 (.iconst 4) (.int 4), oN 6 (.if_icmp .lt 5) [2], oN 9 .nop [1]]),
  (9, false, [false, false, false, false, false, false], [oK 9 (.iconst (-1)) (.int (-1)), o0 10 .ireturn]),
  (11, false, [true, true, true, true, false, false], [o0 11 (.aload_n 0), oN 12 (.getfield 40) [5, 4, 302], o0 15 (.iload_n 1), o0 16 .aaload, o0 17 (.astore 4), o0 19 (.aload 4), o0 21 (.aload 4), oN 23 (.getfield 258) [3, 1, 288], o0 26 (.iload_n 2), oC 27 (.invokevirtual 261) [782] c_X3_faultAt, o0 30 (.istore 5), o0 32 (.iload 5), oN 34 (.ifCond .eq 9) [3], oK 37 (.bipush (-10)) (.int (-10)), o0 39 (.iload 5), o0 41 .isub, o0 42 .ireturn]),
  (43, false, [false, false, true, true, true, false], [o0 43 (.aload 4), o0 45 (.iload_n 2), o0 46 (.iload_n 3), oC 47 (.invokevirtual 264) [790] c_X3_write, oK 50 (.iconst 1) (.int 1), o0 51 .ireturn])]
set_option maxRecDepth 100000 in
theorem ck_X5_lay : s_ck RX5 cX5_lay 6 2 42 k_X5_lay = true := by decide +kernel

set_option maxRecDepth 100000 in
set_option maxHeartbeats 1000000 in
theorem ok_X5_lay : s_Ok c_X5_lay := by
  refine s_ok_of k_X5_lay (by decide +kernel) sta_X5_lay ck_X5_lay (And.intro ok_X3_faultAt (And.intro ok_X3_write trivial)) ?_
  rintro vs L ⟨x0, x1, x2, x3, x5, x6, y7, y8, y9, ln, sz, cf, k, i, v, rfl, rfl, hsz⟩
  refine ⟨rfl, fun G hG => ?_⟩
  have fin : ∀ (a : Int32) (L2 : sH), a = r_lay (shL 2 (w4 x0 x1 x2 x3 x5 x6 y7 y8 y9 ln sz cf)) (shZ 2 (w4 x0 x1 x2 x3 x5 x6 y7 y8 y9 ln sz cf)) k i → L2 = s_hd (w4 x0 x1 x2 x3 x5 x6 y7 y8 y9 ln sz cf) :: .inr (.inl (4, [some 2, some 4, some 6, some 8])) :: shs 2 (shL 2 (w4 x0 x1 x2 x3 x5 x6 y7 y8 y9 ln sz cf)) (shZ 2 (w4 x0 x1 x2 x3 x5 x6 y7 y8 y9 ln sz cf)) (q_lay (shL 2 (w4 x0 x1 x2 x3 x5 x6 y7 y8 y9 ln sz cf)) (shZ 2 (w4 x0 x1 x2 x3 x5 x6 y7 y8 y9 ln sz cf)) k i v (shF 2 (w4 x0 x1 x2 x3 x5 x6 y7 y8 y9 ln sz cf))) → s_PP (some .int) false c_X5_lay.2.2.2.2.2 [.ref 0, .int k, .int i, .int v] (w4 x0 x1 x2 x3 x5 x6 y7 y8 y9 ln sz cf) (some (.int a)) L2 := fun a L2 ha hL => ⟨rfl, ⟨by rw [ha]; rfl, hL⟩, fun h => by cases h⟩
  refine hG 0 _ _ _ (And.intro (fun h => ?_) (fun h => ?_))
  · exact fin _ _ (by rw [r_lay, if_pos h]) (by rw [show ∀ cf2, q_lay (shL 2 (w4 x0 x1 x2 x3 x5 x6 y7 y8 y9 ln sz cf)) (shZ 2 (w4 x0 x1 x2 x3 x5 x6 y7 y8 y9 ln sz cf)) k i v cf2 = cf2 from fun cf2 => by funext j; rw [q_lay, if_pos h]]; rfl)
  refine And.intro (fun h2 => ?_) (fun h2 => ?_)
  rotate_left
  · exact fin _ _ (by rw [r_lay, if_neg h, if_neg h2]) (by rw [show ∀ cf2, q_lay (shL 2 (w4 x0 x1 x2 x3 x5 x6 y7 y8 y9 ln sz cf)) (shZ 2 (w4 x0 x1 x2 x3 x5 x6 y7 y8 y9 ln sz cf)) k i v cf2 = cf2 from fun cf2 => by funext j; rw [q_lay, if_neg h, if_neg h2]]; rfl)
  have step : ∀ (K : Nat), K < 4 → k = nI K → ∀ fa : Int32, fa = p_fa (shL 2 (w4 x0 x1 x2 x3 x5 x6 y7 y8 y9 ln sz cf) K) (shZ 2 (w4 x0 x1 x2 x3 x5 x6 y7 y8 y9 ln sz cf) K) (shL 2 (w4 x0 x1 x2 x3 x5 x6 y7 y8 y9 ln sz cf) K) i → (fa = 0 → 1 = r_lay (shL 2 (w4 x0 x1 x2 x3 x5 x6 y7 y8 y9 ln sz cf)) (shZ 2 (w4 x0 x1 x2 x3 x5 x6 y7 y8 y9 ln sz cf)) k i ∧ ∀ cf2, q_lay (shL 2 (w4 x0 x1 x2 x3 x5 x6 y7 y8 y9 ln sz cf)) (shZ 2 (w4 x0 x1 x2 x3 x5 x6 y7 y8 y9 ln sz cf)) k i v cf2 = va_up cf2 K (upd (cf2 K) i.toNatClampNeg (p_lw (shL 2 (w4 x0 x1 x2 x3 x5 x6 y7 y8 y9 ln sz cf) K) v))) ∧ (¬ fa = 0 → -10 - fa = r_lay (shL 2 (w4 x0 x1 x2 x3 x5 x6 y7 y8 y9 ln sz cf)) (shZ 2 (w4 x0 x1 x2 x3 x5 x6 y7 y8 y9 ln sz cf)) k i ∧ ∀ cf2, q_lay (shL 2 (w4 x0 x1 x2 x3 x5 x6 y7 y8 y9 ln sz cf)) (shZ 2 (w4 x0 x1 x2 x3 x5 x6 y7 y8 y9 ln sz cf)) k i v cf2 = cf2) := by
    intro K hK hk fa hfa
    have hc : k.toNatClampNeg = K := by rw [hk, nI_clamp (by omega)]
    refine ⟨fun h0 => ⟨?_, fun cf2 => ?_⟩, fun h0 => ⟨?_, fun cf2 => ?_⟩⟩
    · rw [r_lay, if_neg h, if_pos h2, hc, ← hfa, if_pos h0]
    · funext j; rw [q_lay, if_neg h, if_pos h2, hc, ← hfa, if_pos h0]
    · rw [r_lay, if_neg h, if_pos h2, hc, ← hfa, if_neg h0]
    · funext j; rw [q_lay, if_neg h, if_pos h2, hc, ← hfa, if_neg h0]
  rcases in4 h h2 with rfl | rfl | rfl | rfl
  · refine And.intro (vp_in_nI (by decide) (by decide)) (And.intro ⟨_, _, _, _, _, rfl, rfl⟩ ?_)
    intro r hr
    obtain ⟨fa, hfa⟩ : ∃ fa, fa = p_fa (ln 0) (sz 0) (ln 0) i := ⟨_, rfl⟩
    obtain rfl : r = some (.int fa) := by rw [hfa]; exact hr
    obtain ⟨s1, s2⟩ := step 0 (by omega) rfl fa hfa
    refine And.intro (fun h3 => ?_) (fun h3 => ?_)
    · obtain ⟨N, hs, hN⟩ := hsz 0 (by omega)
      refine And.intro ⟨_, _, _, _, _, rfl, rfl, (p_fa_0 hs hN (hfa.symm.trans h3)).1⟩ ?_
      rintro r L' ⟨rfl, rfl⟩
      exact fin _ _ (s1 h3).1 (by rw [(s1 h3).2]; rfl)
    · exact fin _ _ (s2 h3).1 (by rw [(s2 h3).2]; rfl)
  · refine And.intro (vp_in_nI (by decide) (by decide)) (And.intro ⟨_, _, _, _, _, rfl, rfl⟩ ?_)
    intro r hr
    obtain ⟨fa, hfa⟩ : ∃ fa, fa = p_fa (ln 1) (sz 1) (ln 1) i := ⟨_, rfl⟩
    obtain rfl : r = some (.int fa) := by rw [hfa]; exact hr
    obtain ⟨s1, s2⟩ := step 1 (by omega) rfl fa hfa
    refine And.intro (fun h3 => ?_) (fun h3 => ?_)
    · obtain ⟨N, hs, hN⟩ := hsz 1 (by omega)
      refine And.intro ⟨_, _, _, _, _, rfl, rfl, (p_fa_0 hs hN (hfa.symm.trans h3)).1⟩ ?_
      rintro r L' ⟨rfl, rfl⟩
      exact fin _ _ (s1 h3).1 (by rw [(s1 h3).2]; rfl)
    · exact fin _ _ (s2 h3).1 (by rw [(s2 h3).2]; rfl)
  · refine And.intro (vp_in_nI (by decide) (by decide)) (And.intro ⟨_, _, _, _, _, rfl, rfl⟩ ?_)
    intro r hr
    obtain ⟨fa, hfa⟩ : ∃ fa, fa = p_fa (ln 2) (sz 2) (ln 2) i := ⟨_, rfl⟩
    obtain rfl : r = some (.int fa) := by rw [hfa]; exact hr
    obtain ⟨s1, s2⟩ := step 2 (by omega) rfl fa hfa
    refine And.intro (fun h3 => ?_) (fun h3 => ?_)
    · obtain ⟨N, hs, hN⟩ := hsz 2 (by omega)
      refine And.intro ⟨_, _, _, _, _, rfl, rfl, (p_fa_0 hs hN (hfa.symm.trans h3)).1⟩ ?_
      rintro r L' ⟨rfl, rfl⟩
      exact fin _ _ (s1 h3).1 (by rw [(s1 h3).2]; rfl)
    · exact fin _ _ (s2 h3).1 (by rw [(s2 h3).2]; rfl)
  · refine And.intro (vp_in_nI (by decide) (by decide)) (And.intro ⟨_, _, _, _, _, rfl, rfl⟩ ?_)
    intro r hr
    obtain ⟨fa, hfa⟩ : ∃ fa, fa = p_fa (ln 3) (sz 3) (ln 3) i := ⟨_, rfl⟩
    obtain rfl : r = some (.int fa) := by rw [hfa]; exact hr
    obtain ⟨s1, s2⟩ := step 3 (by omega) rfl fa hfa
    refine And.intro (fun h3 => ?_) (fun h3 => ?_)
    · obtain ⟨N, hs, hN⟩ := hsz 3 (by omega)
      refine And.intro ⟨_, _, _, _, _, rfl, rfl, (p_fa_0 hs hN (hfa.symm.trans h3)).1⟩ ?_
      rintro r L' ⟨rfl, rfl⟩
      exact fin _ _ (s1 h3).1 (by rw [(s1 h3).2]; rfl)
    · exact fin _ _ (s2 h3).1 (by rw [(s2 h3).2]; rfl)
end
section
/-! ===== WishClerk: read, images, counts ===== -/
def w5 (x0 x1 x2 x3 x5 : Nat) (y7 y8 y9 : Int32) (s : Nat → Int32) (F : Nat → Nat → Int32) (ln sz : Nat → Int32) (cf : Nat → Nat → Int32) : sH := .inr (.inr (5, [.ref x0, .ref x1, .ref x2, .ref x3, .ref 11, .ref x5, .ref 1, .int y7, .int y8, .int y9])) :: (bkK 1 s F ++ .inr (.inl (4, [some 12, some 14, some 16, some 18])) :: shs 12 ln sz cf)
def w5fp (vs : sS) (L : sH) : List Nat := match vs with
  | .ref b :: _ => b :: (bkP L (s_rf L b 6) ++ shP L (s_rf L b 4))
  | _ => []
/-- ask(), over what holds and who lives -/
def p_ak (on nd cl wa : Nat → Int32) (n : Nat) (li ba : Int32) (d : Nat) (y h l w : Int32) : Int32 := if p_in y w = 0 then -1 else if p_hb h w = 0 then (if p_re on nd cl n li ba w h l d = 0 then p_bc (wa w.toNatClampNeg &&& (l ^^^ (-1))) else -4) else -2
/-- answer, what holds, who lives, the fault (none: it stays) -/
def p_rR (on nd cl fo wa : Nat → Int32) (n : Nat) (li ba : Int32) (d : Nat) (y h0 l0 ln sz la f : Int32) (cf : Nat → Int32) : Nat → Nat → Int32 → Int32 → Int32 × Int32 × Int32 × Option Int32
  | 0, c, h, l => (nI c, h, l, some 0)
  | k + 1, c, h, l =>
    if p_fa ln sz la (f + nI c) = 0 then
      (if p_ak on nd cl wa n li ba d y h l (cf (f + nI c).toNatClampNeg) < 0 then (-20 - nI c, h0, l0, none)
       else p_rR on nd cl fo wa n li ba d y h0 l0 ln sz la f cf k (c + 1) (h ||| fo (cf (f + nI c).toNatClampNeg).toNatClampNeg) (l ||| wa (cf (f + nI c).toNatClampNeg).toNatClampNeg))
    else (nI c, h, l, some (p_fa ln sz la (f + nI c)))
def p_rq (s : Nat → Int32) (F : Nat → Nat → Int32) (ln sz la f : Int32) (cf : Nat → Int32) (k : Nat) : Int32 × Int32 × Int32 × Option Int32 := p_rR (F 3) (F 4) (F 5) (F 6) (F 7) (s 1).toNatClampNeg (s 6) (s 4) (s 2).toNatClampNeg (s 1) (s 5) (s 3) ln sz la f cf k 0 (s 5) (s 3)
def p_rok (k l n : Int32) : Prop := ¬ k < 0 ∧ k < 4 ∧ ¬ l < 0 ∧ l < 3 ∧ ¬ n < 0 ∧ ¬ 20 < n
theorem q_ask_ye {s : Nat → Int32} {F : Nat → Nat → Int32} {w : Int32} (h : ¬ r_ask s F w < 0) : q_ask s F w = upd (upd s 5 (s 5 ||| F 6 w.toNatClampNeg)) 3 (s 3 ||| F 7 w.toNatClampNeg) := by
  unfold r_ask at h
  by_cases h1 : p_in (s 1) w = 0
  · rw [if_pos h1] at h; exact absurd (by decide) h
  rw [if_neg h1] at h
  by_cases h2 : p_hb (s 5) w = 0
  · rw [if_pos h2] at h
    by_cases h3 : p_reB s F w (s 5) (s 3) = 0
    · funext j; rw [q_ask, if_neg h1, if_pos h2, if_pos h3]
    · rw [if_neg h3] at h; exact absurd (by decide) h
  · rw [if_neg h2] at h; exact absurd (by decide) h
theorem q_ask_no {s : Nat → Int32} {F : Nat → Nat → Int32} {w : Int32} : ∃ h l, q_ask s F w = upd (upd s 5 h) 3 l := by
  have e : s = upd (upd s 5 (s 5)) 3 (s 3) := by
    funext j
    unfold upd
    by_cases h3 : j = 3
    · simp [h3]
    · by_cases h5 : j = 5
      · simp [h5]
      · simp [h3, h5]
  by_cases h1 : p_in (s 1) w = 0
  · exact ⟨s 5, s 3, by rw [← e]; funext j; rw [q_ask, if_pos h1]⟩
  by_cases h2 : p_hb (s 5) w = 0
  · by_cases h3 : p_reB s F w (s 5) (s 3) = 0
    · exact ⟨_, _, by funext j; rw [q_ask, if_neg h1, if_pos h2, if_pos h3]⟩
    · exact ⟨s 5, s 3, by rw [← e]; funext j; rw [q_ask, if_neg h1, if_pos h2, if_neg h3]⟩
  · exact ⟨s 5, s 3, by rw [← e]; funext j; rw [q_ask, if_neg h1, if_neg h2]⟩
theorem upd_53 (s : Nat → Int32) (a b c d : Int32) : upd (upd (upd (upd s 5 a) 3 b) 5 c) 3 d = upd (upd s 5 c) 3 d := by
  funext j
  unfold upd
  by_cases h3 : j = 3
  · simp [h3]
  · by_cases h5 : j = 5
    · simp [h5]
    · simp [h3, h5]
theorem upd_53s (s : Nat → Int32) : upd (upd s 5 (s 5)) 3 (s 3) = s := by
  funext j
  unfold upd
  by_cases h3 : j = 3
  · simp [h3]
  · by_cases h5 : j = 5
    · simp [h5]
    · simp [h3, h5]
theorem s_pk_conv {fp0 fp : List Nat} {cs L L2 : sH} {k : sH → Prop} (h : s_put fp0 fp cs L = L2) (hk : k L2) : s_pk fp0 fp cs L k := by
  rw [s_pk_eq, h]
  exact hk
/-- the answer of read(), the fields behind it, the fault of the latest -/
def r_read (s : Nat → Int32) (F : Nat → Nat → Int32) (ln sz : Nat → Int32) (cf : Nat → Nat → Int32) (k l f n : Int32) : Int32 := if k < 0 then -1 else if k < 4 then (if l < 0 then -1 else if l < 3 then (if n < 0 then -1 else if 20 < n then -1 else (p_rq s F (ln k.toNatClampNeg) (sz k.toNatClampNeg) l f (cf k.toNatClampNeg) n.toNatClampNeg).1) else -1) else -1
def q_read (s : Nat → Int32) (F : Nat → Nat → Int32) (ln sz : Nat → Int32) (cf : Nat → Nat → Int32) (k l f n : Int32) : Nat → Int32 := fun j => if k < 0 then s j else if k < 4 then (if l < 0 then s j else if l < 3 then (if n < 0 then s j else if 20 < n then s j else upd (upd s 5 (p_rq s F (ln k.toNatClampNeg) (sz k.toNatClampNeg) l f (cf k.toNatClampNeg) n.toNatClampNeg).2.1) 3 (p_rq s F (ln k.toNatClampNeg) (sz k.toNatClampNeg) l f (cf k.toNatClampNeg) n.toNatClampNeg).2.2.1 j) else s j) else s j
def t_read (s : Nat → Int32) (F : Nat → Nat → Int32) (ln sz : Nat → Int32) (cf : Nat → Nat → Int32) (k l f n y9 : Int32) : Int32 := if k < 0 then y9 else if k < 4 then (if l < 0 then y9 else if l < 3 then (if n < 0 then y9 else if 20 < n then y9 else ((p_rq s F (ln k.toNatClampNeg) (sz k.toNatClampNeg) l f (cf k.toNatClampNeg) n.toNatClampNeg).2.2.2).getD y9) else y9) else y9
def s_r9 (c : sC) (v : Int32) : sC := match c with
  | .inr (.inr (a, fs)) => .inr (.inr (a, s_set fs 9 (.int v)))
  | x => x
def c_X5_read : sCtr := ((yX5_read, cX5_read, 11, (some .int)), (6, 4, 5, 118), false,
  w5fp,
  fun vs L => ∃ (x0 x1 x2 x3 x5 : Nat) (y7 y8 y9 : Int32) (s : Nat → Int32) (F : Nat → Nat → Int32) (ln sz : Nat → Int32) (cf : Nat → Nat → Int32) (k l f m : Int32) (n d : Nat), vs = [.ref 0, .int k, .int l, .int f, .int m] ∧ L = w5 x0 x1 x2 x3 x5 y7 y8 y9 s F ln sz cf ∧ s 1 = nI n ∧ n ≤ 8 ∧ s 2 = nI d ∧ d ≤ 8 ∧ ∀ j, j < 4 → ∃ N, sz j = nI N ∧ N ≤ 40,
  fun vs L r L' => r = some (.int (r_read (oI L 1) (bG 1 L) (shL 12 L) (shZ 12 L) (shF 12 L) (vI vs 1) (vI vs 2) (vI vs 3) (vI vs 4))) ∧ L' = s_r9 (s_hd L) (t_read (oI L 1) (bG 1 L) (shL 12 L) (shZ 12 L) (shF 12 L) (vI vs 1) (vI vs 2) (vI vs 3) (vI vs 4) (oI L 0 9)) :: (bkK 1 (q_read (oI L 1) (bG 1 L) (shL 12 L) (shZ 12 L) (shF 12 L) (vI vs 1) (vI vs 2) (vI vs 3) (vI vs 4)) (bG 1 L) ++ .inr (.inl (4, [some 12, some 14, some 16, some 18])) :: shs 12 (shL 12 L) (shZ 12 L) (shF 12 L)))
theorem sta_X5_read : s_Sta c_X5_read := ⟨⟨by decide +kernel, by decide +kernel, by decide +kernel⟩, List.mem_of_getElem? (i := 797) (by decide +kernel), List.mem_of_getElem? (i := 64) (by decide +kernel), ⟨List.mem_of_getElem? (i := 795) (by decide +kernel), List.mem_of_getElem? (i := 796) (by decide +kernel), Or.inl ⟨_, rfl, rfl⟩⟩⟩

def k_X5_read : List sBk := [
  (0, false, [true, true, true, true, true, false, false, false, false, false, false], [o0 0 (.iload_n 1), oN 1 (.ifCond .lt 29) [1], o0 4 (.iload_n 1), oK 5 (.iconst 4) (.int 4), oN 6 (.if_icmp .ge 24) [1], o0 9 (.iload_n 2), oN 10 (.ifCond .lt 20) [1], o0 13 (.iload_n 2), oK 14 (.iconst 3) (.int 3), oN 15 (.if_icmp .ge 15) [1], o0 18 (.iload 4), oN 20 (.ifCond .lt 10) [1], o0 23 (.iload 4), oK 25 (.bipush 20) (.int 20), oN 27 (.if_icmp .le 5) [2], oN 30 .nop [1]]),
  (30, false, [false, false, false, false, false, false, false, false, false, false, false], [oK 30 (.iconst (-1)) (.int (-1)), o0 31 .ireturn]),
  (32, false, [true, true, true, true, true, false, false, false, false, false, false], [o0 32 (.aload_n 0), oN 33 (.getfield 40) [5, 4, 302], o0 36 (.iload_n 1), o0 37 .aaload, o0 38 (.astore 5), o0 40 (.aload_n 0), oN 41 (.getfield 49) [5, 6, 304], oN 44 (.getfield 94) [0, 5, 134], o0 47 (.istore 6), o0 49 (.aload_n 0), oN 50 (.getfield 49) [5, 6, 304], oN 53 (.getfield 88) [0, 3, 127], o0 56 (.istore 7), oK 58 (.iconst 0) (.int 0), o0 59 (.istore 8), oK 61 (.iconst 0) (.int 0), o0 62 (.istore 9), oN 64 .nop [3]]),
  (64, true, [true, false, true, true, true, true, true, true, true, true, false], [o0 64 (.iload 8), o0 66 (.iload 4), oN 68 (.if_icmp .ge 72) [6], o0 71 (.iload_n 3), o0 72 (.iload 8), o0 74 .iadd, o0 75 (.istore 10), o0 77 (.aload 5), o0 79 (.iload_n 2), o0 80 (.iload 10), oC 82 (.invokevirtual 261) [782] c_X3_faultAt, o0 85 (.istore 9), o0 87 (.iload 9), oN 89 (.ifCond .eq 6) [4], oN 92 (.goto 48) [6]]),
  (95, false, [true, false, true, true, true, true, true, true, true, true, true], [o0 95 (.aload_n 0), o0 96 (.aload 5), oN 98 (.getfield 267) [3, 0, 286], o0 101 (.iload 10), o0 103 .iaload, oC 104 (.invokevirtual 270) [798] c_X5_ask, oN 107 (.ifCond .ge 27) [5], o0 110 (.aload_n 0), oN 111 (.getfield 49) [5, 6, 304], o0 114 (.iload 6), oN 116 (.putfield 94) [0, 5, 134], o0 119 (.aload_n 0), oN 120 (.getfield 49) [5, 6, 304], o0 123 (.iload 7), oN 125 (.putfield 88) [0, 3, 127], oK 128 (.bipush (-20)) (.int (-20)), o0 130 (.iload 8), o0 132 .isub, o0 133 .ireturn]),
  (134, false, [true, false, true, true, true, true, true, true, true, true, false], [oK 134 (.iinc 8 1) (.int 1), oN 137 (.goto (-73)) [3]]),
  (140, false, [true, false, false, false, false, false, false, false, true, true, false], [o0 140 (.aload_n 0), o0 141 (.iload 9), oN 143 (.putfield 273) [5, 9, 307], o0 146 (.iload 8), o0 148 .ireturn])]
set_option maxRecDepth 100000 in
theorem ck_X5_read : s_ck RX5 cX5_read 11 5 118 k_X5_read = true := by decide +kernel

set_option maxRecDepth 100000 in
set_option maxHeartbeats 1000000 in
theorem ok_X5_read : s_Ok c_X5_read := by
  refine s_ok_of k_X5_read (by decide +kernel) sta_X5_read ck_X5_read (And.intro ok_X3_faultAt (And.intro ok_X5_ask trivial)) ?_
  rintro vs L ⟨x0, x1, x2, x3, x5, y7, y8, y9, s, F, ln, sz, cf, k, l, f, m, n, d, rfl, rfl, hn, hn8, hd, hd8, hsz⟩
  refine ⟨rfl, fun G hG => ?_⟩
  obtain ⟨W0, hW0⟩ : ∃ W0, W0 = w5 x0 x1 x2 x3 x5 y7 y8 y9 s F ln sz cf := ⟨_, rfl⟩
  have fin : ∀ (a t : Int32) (s2 : Nat → Int32), a = r_read (oI W0 1) (bG 1 W0) (shL 12 W0) (shZ 12 W0) (shF 12 W0) k l f m → t = t_read (oI W0 1) (bG 1 W0) (shL 12 W0) (shZ 12 W0) (shF 12 W0) k l f m y9 → bkK 1 s2 F = bkK 1 (q_read (oI W0 1) (bG 1 W0) (shL 12 W0) (shZ 12 W0) (shF 12 W0) k l f m) F → s_PP (some .int) false c_X5_read.2.2.2.2.2 [.ref 0, .int k, .int l, .int f, .int m] (w5 x0 x1 x2 x3 x5 y7 y8 y9 s F ln sz cf) (some (.int a)) (w5 x0 x1 x2 x3 x5 y7 y8 t s2 F ln sz cf) := by
    intro a t s2 ha ht hs
    subst hW0
    refine ⟨rfl, ⟨by rw [ha]; rfl, ?_⟩, fun h => by cases h⟩
    have e : w5 x0 x1 x2 x3 x5 y7 y8 t s2 F ln sz cf = .inr (.inr (5, [.ref x0, .ref x1, .ref x2, .ref x3, .ref 11, .ref x5, .ref 1, .int y7, .int y8, .int t])) :: (bkK 1 s2 F ++ .inr (.inl (4, [some 12, some 14, some 16, some 18])) :: shs 12 ln sz cf) := rfl
    rw [e, hs, ht]
    rfl
  have same : bkK 1 s F = bkK 1 (oI W0 1) F := by subst hW0; rfl
  have bad : (∀ (q : Int32), r_read (oI W0 1) (bG 1 W0) (shL 12 W0) (shZ 12 W0) (shF 12 W0) k l f m = -1) → t_read (oI W0 1) (bG 1 W0) (shL 12 W0) (shZ 12 W0) (shF 12 W0) k l f m y9 = y9 → q_read (oI W0 1) (bG 1 W0) (shL 12 W0) (shZ 12 W0) (shF 12 W0) k l f m = oI W0 1 → s_PP (some .int) false c_X5_read.2.2.2.2.2 [.ref 0, .int k, .int l, .int f, .int m] (w5 x0 x1 x2 x3 x5 y7 y8 y9 s F ln sz cf) (some (.int (-1))) (w5 x0 x1 x2 x3 x5 y7 y8 y9 s F ln sz cf) := fun h1 h2 h3 => fin _ _ s (h1 0).symm h2.symm (by rw [h3, same])
  refine hG 0 _ _ _ (And.intro (fun h => ?_) (fun h => ?_))
  · exact bad (fun _ => by rw [r_read, if_pos h]) (by rw [t_read, if_pos h]) (by funext j; rw [q_read, if_pos h])
  refine And.intro (fun h2 => ?_) (fun h2 => ?_)
  rotate_left
  · exact bad (fun _ => by rw [r_read, if_neg h, if_neg h2]) (by rw [t_read, if_neg h, if_neg h2]) (by funext j; rw [q_read, if_neg h, if_neg h2])
  refine And.intro (fun h3 => ?_) (fun h3 => ?_)
  · exact bad (fun _ => by rw [r_read, if_neg h, if_pos h2, if_pos h3]) (by rw [t_read, if_neg h, if_pos h2, if_pos h3]) (by funext j; rw [q_read, if_neg h, if_pos h2, if_pos h3])
  refine And.intro (fun h4 => ?_) (fun h4 => ?_)
  rotate_left
  · exact bad (fun _ => by rw [r_read, if_neg h, if_pos h2, if_neg h3, if_neg h4]) (by rw [t_read, if_neg h, if_pos h2, if_neg h3, if_neg h4]) (by funext j; rw [q_read, if_neg h, if_pos h2, if_neg h3, if_neg h4])
  refine And.intro (fun h5 => ?_) (fun h5 => ?_)
  · exact bad (fun _ => by rw [r_read, if_neg h, if_pos h2, if_neg h3, if_pos h4, if_pos h5]) (by rw [t_read, if_neg h, if_pos h2, if_neg h3, if_pos h4, if_pos h5]) (by funext j; rw [q_read, if_neg h, if_pos h2, if_neg h3, if_pos h4, if_pos h5])
  refine And.intro (fun h6 => ?_) (fun h6 => ?_)
  · exact bad (fun _ => by rw [r_read, if_neg h, if_pos h2, if_neg h3, if_pos h4, if_neg h5, if_pos h6]) (by rw [t_read, if_neg h, if_pos h2, if_neg h3, if_pos h4, if_neg h5, if_pos h6]) (by funext j; rw [q_read, if_neg h, if_pos h2, if_neg h3, if_pos h4, if_neg h5, if_pos h6])
  obtain ⟨M, hM31, rfl⟩ := nI_of h5
  have hM20 : M ≤ 20 := by
    rcases Nat.lt_or_ge 20 M with q | q
    · exact absurd ((nI_ltI (a := 20) (by omega) hM31).mpr q) h6
    · exact q
  have fin2 : ∀ (K : Nat) (P : Int32 × Int32 × Int32 × Option Int32) (a t : Int32) (s2 : Nat → Int32), k.toNatClampNeg = K → P = p_rq (oI W0 1) (bG 1 W0) (shL 12 W0 K) (shZ 12 W0 K) l f (shF 12 W0 K) M → a = P.1 → t = P.2.2.2.getD y9 → s2 = upd (upd s 5 P.2.1) 3 P.2.2.1 → s_PP (some .int) false c_X5_read.2.2.2.2.2 [.ref 0, .int k, .int l, .int f, .int (nI M)] (w5 x0 x1 x2 x3 x5 y7 y8 y9 s F ln sz cf) (some (.int a)) (w5 x0 x1 x2 x3 x5 y7 y8 t s2 F ln sz cf) := by
    intro K P a t s2 hK hP ha ht hs
    refine fin a t s2 ?_ ?_ ?_
    · rw [r_read, if_neg h, if_pos h2, if_neg h3, if_pos h4, if_neg h5, if_neg h6, hK, nI_clamp hM31, ← hP, ha]
    · rw [t_read, if_neg h, if_pos h2, if_neg h3, if_pos h4, if_neg h5, if_neg h6, hK, nI_clamp hM31, ← hP, ht]
    · have e : q_read (oI W0 1) (bG 1 W0) (shL 12 W0) (shZ 12 W0) (shF 12 W0) k l f (nI M) = upd (upd (oI W0 1) 5 P.2.1) 3 P.2.2.1 := by
        funext j; rw [q_read, if_neg h, if_pos h2, if_neg h3, if_pos h4, if_neg h5, if_neg h6, hK, nI_clamp hM31, ← hP]
      rw [e, hs]
      subst hW0
      rfl
  subst hW0
  rcases in4 h h2 with rfl | rfl | rfl | rfl
  · refine And.intro (vp_in_nI (by decide) (by decide)) ?_
    obtain ⟨N, hsN, hN⟩ := hsz 0 (by omega)
    have loop : ∀ (r c : Nat) (x fo h9 l9 : Int32), c + r = M → x = nI c → fo = 0 → p_rR (F 3) (F 4) (F 5) (F 6) (F 7) (s 1).toNatClampNeg (s 6) (s 4) (s 2).toNatClampNeg (s 1) (s 5) (s 3) (ln 0) (sz 0) l f (cf 0) r c h9 l9 = p_rq s F (ln 0) (sz 0) l f (cf 0) M → G 3 [some (.ref 0), none, some (.int l), some (.int f), some (.int (nI M)), some (.ref 12), some (.int (s 5)), some (.int (s 3)), some (.int x), some (.int fo), none] [] (w5 x0 x1 x2 x3 x5 y7 y8 y9 (upd (upd s 5 h9) 3 l9) F ln sz cf) := by
      intro r
      induction r with
      | zero =>
        intro c x fo h9 l9 hc hx hfo hP
        refine hG 3 _ _ _ (And.intro (fun q => ?_) (fun q => ?_))
        · rw [hx, nI_ltI (by omega) (by omega)] at q; omega
        · exact fin2 0 _ _ _ _ (by decide) hP (by rw [hx]; rfl) (by rw [hfo]; rfl) rfl
      | succ r ih =>
        intro c x fo h9 l9 hc hx hfo hP
        refine hG 3 _ _ _ (And.intro (fun q => ?_) (fun q => ?_))
        · refine And.intro ⟨_, _, _, _, _, rfl, rfl⟩ ?_
          intro rr hr
          obtain ⟨fa, hfa⟩ : ∃ fa, fa = p_fa (ln 0) (sz 0) l (f + x) := ⟨_, rfl⟩
          obtain rfl : rr = some (.int fa) := by rw [hfa]; exact hr
          rw [hx] at hfa
          refine And.intro (fun h7 => ?_) (fun h7 => ?_)
          · have hf0 : p_fa (ln 0) (sz 0) l (f + nI c) = 0 := hfa.symm.trans h7
            have hin := (p_fa_0 hsN hN hf0).1
            rw [← hx] at hin
            refine And.intro hin (And.intro ⟨_, _, _, _, _, _, _, _, _, upd (upd s 5 h9) 3 l9, F, _, n, d, rfl, rfl, hn, hn8, hd, hd8⟩ ?_)
            rintro rr L' ⟨hr1, hr2⟩
            obtain ⟨ak, hak⟩ : ∃ ak, ak = r_ask (upd (upd s 5 h9) 3 l9) F (cf 0 (f + x).toNatClampNeg) := ⟨_, rfl⟩
            obtain rfl : rr = some (.int ak) := by rw [hak]; exact hr1
            obtain ⟨s3, hs3⟩ : ∃ s3, s3 = q_ask (upd (upd s 5 h9) 3 l9) F (cf 0 (f + x).toNatClampNeg) := ⟨_, rfl⟩
            obtain rfl : L' = .inr (.inr (5, [.ref (s_rho [0, 1, 2, 3, 4, 5, 6, 7, 8, 9, 10] x0), .ref (s_rho [0, 1, 2, 3, 4, 5, 6, 7, 8, 9, 10] x1), .ref (s_rho [0, 1, 2, 3, 4, 5, 6, 7, 8, 9, 10] x2), .ref (s_rho [0, 1, 2, 3, 4, 5, 6, 7, 8, 9, 10] x3), .ref 1011, .ref (s_rho [0, 1, 2, 3, 4, 5, 6, 7, 8, 9, 10] x5), .ref 1, .int y7, .int y8, .int y9])) :: bkK 1 s3 F := by rw [hs3]; exact hr2
            have hak2 : ak = p_ak (F 3) (F 4) (F 5) (F 7) (s 1).toNatClampNeg (s 6) (s 4) (s 2).toNatClampNeg (s 1) h9 l9 (cf 0 (f + nI c).toNatClampNeg) := by rw [hak, hx]; rfl
            have ue := s_un_rho [0, 1, 2, 3, 4, 5, 6, 7, 8, 9, 10] (by decide)
            refine s_pk_conv (L2 := w5 x0 x1 x2 x3 x5 y7 y8 y9 s3 F ln sz cf) ?_ ?_
            · show (.inr (.inr (5, [.ref (s_un [0, 1, 2, 3, 4, 5, 6, 7, 8, 9, 10] (s_rho [0, 1, 2, 3, 4, 5, 6, 7, 8, 9, 10] x0)), .ref (s_un [0, 1, 2, 3, 4, 5, 6, 7, 8, 9, 10] (s_rho [0, 1, 2, 3, 4, 5, 6, 7, 8, 9, 10] x1)), .ref (s_un [0, 1, 2, 3, 4, 5, 6, 7, 8, 9, 10] (s_rho [0, 1, 2, 3, 4, 5, 6, 7, 8, 9, 10] x2)), .ref (s_un [0, 1, 2, 3, 4, 5, 6, 7, 8, 9, 10] (s_rho [0, 1, 2, 3, 4, 5, 6, 7, 8, 9, 10] x3)), .ref 11, .ref (s_un [0, 1, 2, 3, 4, 5, 6, 7, 8, 9, 10] (s_rho [0, 1, 2, 3, 4, 5, 6, 7, 8, 9, 10] x5)), .ref 1, .int y7, .int y8, .int y9])) :: (bkK 1 s3 F ++ .inr (.inl (4, [some 12, some 14, some 16, some 18])) :: shs 12 ln sz cf) : sH) = _
              rw [ue x0, ue x1, ue x2, ue x3, ue x5]
              rfl
            refine And.intro (fun h8 => ?_) (fun h8 => ?_)
            · obtain ⟨hh, ll, hq⟩ := q_ask_no (s := upd (upd s 5 h9) 3 l9) (F := F) (w := cf 0 (f + x).toNatClampNeg)
              rw [← hs3, upd_53] at hq
              have h8 : ak < 0 := h8
              refine fin2 0 _ _ _ (upd (upd s3 5 (s 5)) 3 (s 3)) (by decide) hP ?_ ?_ ?_
              · rw [p_rR, if_pos hf0, ← hak2, if_pos h8, hx]
              · rw [p_rR, if_pos hf0, ← hak2, if_pos h8]; rfl
              · rw [p_rR, if_pos hf0, ← hak2, if_pos h8, hq, upd_53]
            · have h8 : ¬ ak < 0 := h8
              have hq := q_ask_ye (s := upd (upd s 5 h9) 3 l9) (F := F) (w := cf 0 (f + x).toNatClampNeg) (by rw [← hak]; exact h8)
              rw [← hs3] at hq
              have hq2 : s3 = upd (upd s 5 (h9 ||| F 6 (cf 0 (f + nI c).toNatClampNeg).toNatClampNeg)) 3 (l9 ||| F 7 (cf 0 (f + nI c).toNatClampNeg).toNatClampNeg) := by
                rw [hq, upd_53, hx]; rfl
              rw [hq2]
              refine ih (c + 1) _ _ _ _ (by omega) (by rw [hx, nI_1]) h7 ?_
              rw [← hP, p_rR, if_pos hf0, ← hak2, if_neg h8]
          · have hf0 : ¬ p_fa (ln 0) (sz 0) l (f + nI c) = 0 := fun z => h7 (hfa.trans z)
            refine fin2 0 _ _ _ _ (by decide) hP ?_ ?_ ?_
            · rw [p_rR, if_neg hf0, hx]
            · rw [p_rR, if_neg hf0, hfa]; rfl
            · rw [p_rR, if_neg hf0]
        · rw [hx, nI_ltI (by omega) (by omega)] at q; omega
    have e0 := upd_53s s
    have := loop M 0 (nI 0) 0 (s 5) (s 3) (by omega) rfl rfl rfl
    rw [e0] at this
    exact this
  · refine And.intro (vp_in_nI (by decide) (by decide)) ?_
    obtain ⟨N, hsN, hN⟩ := hsz 1 (by omega)
    have loop : ∀ (r c : Nat) (x fo h9 l9 : Int32), c + r = M → x = nI c → fo = 0 → p_rR (F 3) (F 4) (F 5) (F 6) (F 7) (s 1).toNatClampNeg (s 6) (s 4) (s 2).toNatClampNeg (s 1) (s 5) (s 3) (ln 1) (sz 1) l f (cf 1) r c h9 l9 = p_rq s F (ln 1) (sz 1) l f (cf 1) M → G 3 [some (.ref 0), none, some (.int l), some (.int f), some (.int (nI M)), some (.ref 14), some (.int (s 5)), some (.int (s 3)), some (.int x), some (.int fo), none] [] (w5 x0 x1 x2 x3 x5 y7 y8 y9 (upd (upd s 5 h9) 3 l9) F ln sz cf) := by
      intro r
      induction r with
      | zero =>
        intro c x fo h9 l9 hc hx hfo hP
        refine hG 3 _ _ _ (And.intro (fun q => ?_) (fun q => ?_))
        · rw [hx, nI_ltI (by omega) (by omega)] at q; omega
        · exact fin2 1 _ _ _ _ (by decide) hP (by rw [hx]; rfl) (by rw [hfo]; rfl) rfl
      | succ r ih =>
        intro c x fo h9 l9 hc hx hfo hP
        refine hG 3 _ _ _ (And.intro (fun q => ?_) (fun q => ?_))
        · refine And.intro ⟨_, _, _, _, _, rfl, rfl⟩ ?_
          intro rr hr
          obtain ⟨fa, hfa⟩ : ∃ fa, fa = p_fa (ln 1) (sz 1) l (f + x) := ⟨_, rfl⟩
          obtain rfl : rr = some (.int fa) := by rw [hfa]; exact hr
          rw [hx] at hfa
          refine And.intro (fun h7 => ?_) (fun h7 => ?_)
          · have hf0 : p_fa (ln 1) (sz 1) l (f + nI c) = 0 := hfa.symm.trans h7
            have hin := (p_fa_0 hsN hN hf0).1
            rw [← hx] at hin
            refine And.intro hin (And.intro ⟨_, _, _, _, _, _, _, _, _, upd (upd s 5 h9) 3 l9, F, _, n, d, rfl, rfl, hn, hn8, hd, hd8⟩ ?_)
            rintro rr L' ⟨hr1, hr2⟩
            obtain ⟨ak, hak⟩ : ∃ ak, ak = r_ask (upd (upd s 5 h9) 3 l9) F (cf 1 (f + x).toNatClampNeg) := ⟨_, rfl⟩
            obtain rfl : rr = some (.int ak) := by rw [hak]; exact hr1
            obtain ⟨s3, hs3⟩ : ∃ s3, s3 = q_ask (upd (upd s 5 h9) 3 l9) F (cf 1 (f + x).toNatClampNeg) := ⟨_, rfl⟩
            obtain rfl : L' = .inr (.inr (5, [.ref (s_rho [0, 1, 2, 3, 4, 5, 6, 7, 8, 9, 10] x0), .ref (s_rho [0, 1, 2, 3, 4, 5, 6, 7, 8, 9, 10] x1), .ref (s_rho [0, 1, 2, 3, 4, 5, 6, 7, 8, 9, 10] x2), .ref (s_rho [0, 1, 2, 3, 4, 5, 6, 7, 8, 9, 10] x3), .ref 1011, .ref (s_rho [0, 1, 2, 3, 4, 5, 6, 7, 8, 9, 10] x5), .ref 1, .int y7, .int y8, .int y9])) :: bkK 1 s3 F := by rw [hs3]; exact hr2
            have hak2 : ak = p_ak (F 3) (F 4) (F 5) (F 7) (s 1).toNatClampNeg (s 6) (s 4) (s 2).toNatClampNeg (s 1) h9 l9 (cf 1 (f + nI c).toNatClampNeg) := by rw [hak, hx]; rfl
            have ue := s_un_rho [0, 1, 2, 3, 4, 5, 6, 7, 8, 9, 10] (by decide)
            refine s_pk_conv (L2 := w5 x0 x1 x2 x3 x5 y7 y8 y9 s3 F ln sz cf) ?_ ?_
            · show (.inr (.inr (5, [.ref (s_un [0, 1, 2, 3, 4, 5, 6, 7, 8, 9, 10] (s_rho [0, 1, 2, 3, 4, 5, 6, 7, 8, 9, 10] x0)), .ref (s_un [0, 1, 2, 3, 4, 5, 6, 7, 8, 9, 10] (s_rho [0, 1, 2, 3, 4, 5, 6, 7, 8, 9, 10] x1)), .ref (s_un [0, 1, 2, 3, 4, 5, 6, 7, 8, 9, 10] (s_rho [0, 1, 2, 3, 4, 5, 6, 7, 8, 9, 10] x2)), .ref (s_un [0, 1, 2, 3, 4, 5, 6, 7, 8, 9, 10] (s_rho [0, 1, 2, 3, 4, 5, 6, 7, 8, 9, 10] x3)), .ref 11, .ref (s_un [0, 1, 2, 3, 4, 5, 6, 7, 8, 9, 10] (s_rho [0, 1, 2, 3, 4, 5, 6, 7, 8, 9, 10] x5)), .ref 1, .int y7, .int y8, .int y9])) :: (bkK 1 s3 F ++ .inr (.inl (4, [some 12, some 14, some 16, some 18])) :: shs 12 ln sz cf) : sH) = _
              rw [ue x0, ue x1, ue x2, ue x3, ue x5]
              rfl
            refine And.intro (fun h8 => ?_) (fun h8 => ?_)
            · obtain ⟨hh, ll, hq⟩ := q_ask_no (s := upd (upd s 5 h9) 3 l9) (F := F) (w := cf 1 (f + x).toNatClampNeg)
              rw [← hs3, upd_53] at hq
              have h8 : ak < 0 := h8
              refine fin2 1 _ _ _ (upd (upd s3 5 (s 5)) 3 (s 3)) (by decide) hP ?_ ?_ ?_
              · rw [p_rR, if_pos hf0, ← hak2, if_pos h8, hx]
              · rw [p_rR, if_pos hf0, ← hak2, if_pos h8]; rfl
              · rw [p_rR, if_pos hf0, ← hak2, if_pos h8, hq, upd_53]
            · have h8 : ¬ ak < 0 := h8
              have hq := q_ask_ye (s := upd (upd s 5 h9) 3 l9) (F := F) (w := cf 1 (f + x).toNatClampNeg) (by rw [← hak]; exact h8)
              rw [← hs3] at hq
              have hq2 : s3 = upd (upd s 5 (h9 ||| F 6 (cf 1 (f + nI c).toNatClampNeg).toNatClampNeg)) 3 (l9 ||| F 7 (cf 1 (f + nI c).toNatClampNeg).toNatClampNeg) := by
                rw [hq, upd_53, hx]; rfl
              rw [hq2]
              refine ih (c + 1) _ _ _ _ (by omega) (by rw [hx, nI_1]) h7 ?_
              rw [← hP, p_rR, if_pos hf0, ← hak2, if_neg h8]
          · have hf0 : ¬ p_fa (ln 1) (sz 1) l (f + nI c) = 0 := fun z => h7 (hfa.trans z)
            refine fin2 1 _ _ _ _ (by decide) hP ?_ ?_ ?_
            · rw [p_rR, if_neg hf0, hx]
            · rw [p_rR, if_neg hf0, hfa]; rfl
            · rw [p_rR, if_neg hf0]
        · rw [hx, nI_ltI (by omega) (by omega)] at q; omega
    have e0 := upd_53s s
    have := loop M 0 (nI 0) 0 (s 5) (s 3) (by omega) rfl rfl rfl
    rw [e0] at this
    exact this
  · refine And.intro (vp_in_nI (by decide) (by decide)) ?_
    obtain ⟨N, hsN, hN⟩ := hsz 2 (by omega)
    have loop : ∀ (r c : Nat) (x fo h9 l9 : Int32), c + r = M → x = nI c → fo = 0 → p_rR (F 3) (F 4) (F 5) (F 6) (F 7) (s 1).toNatClampNeg (s 6) (s 4) (s 2).toNatClampNeg (s 1) (s 5) (s 3) (ln 2) (sz 2) l f (cf 2) r c h9 l9 = p_rq s F (ln 2) (sz 2) l f (cf 2) M → G 3 [some (.ref 0), none, some (.int l), some (.int f), some (.int (nI M)), some (.ref 16), some (.int (s 5)), some (.int (s 3)), some (.int x), some (.int fo), none] [] (w5 x0 x1 x2 x3 x5 y7 y8 y9 (upd (upd s 5 h9) 3 l9) F ln sz cf) := by
      intro r
      induction r with
      | zero =>
        intro c x fo h9 l9 hc hx hfo hP
        refine hG 3 _ _ _ (And.intro (fun q => ?_) (fun q => ?_))
        · rw [hx, nI_ltI (by omega) (by omega)] at q; omega
        · exact fin2 2 _ _ _ _ (by decide) hP (by rw [hx]; rfl) (by rw [hfo]; rfl) rfl
      | succ r ih =>
        intro c x fo h9 l9 hc hx hfo hP
        refine hG 3 _ _ _ (And.intro (fun q => ?_) (fun q => ?_))
        · refine And.intro ⟨_, _, _, _, _, rfl, rfl⟩ ?_
          intro rr hr
          obtain ⟨fa, hfa⟩ : ∃ fa, fa = p_fa (ln 2) (sz 2) l (f + x) := ⟨_, rfl⟩
          obtain rfl : rr = some (.int fa) := by rw [hfa]; exact hr
          rw [hx] at hfa
          refine And.intro (fun h7 => ?_) (fun h7 => ?_)
          · have hf0 : p_fa (ln 2) (sz 2) l (f + nI c) = 0 := hfa.symm.trans h7
            have hin := (p_fa_0 hsN hN hf0).1
            rw [← hx] at hin
            refine And.intro hin (And.intro ⟨_, _, _, _, _, _, _, _, _, upd (upd s 5 h9) 3 l9, F, _, n, d, rfl, rfl, hn, hn8, hd, hd8⟩ ?_)
            rintro rr L' ⟨hr1, hr2⟩
            obtain ⟨ak, hak⟩ : ∃ ak, ak = r_ask (upd (upd s 5 h9) 3 l9) F (cf 2 (f + x).toNatClampNeg) := ⟨_, rfl⟩
            obtain rfl : rr = some (.int ak) := by rw [hak]; exact hr1
            obtain ⟨s3, hs3⟩ : ∃ s3, s3 = q_ask (upd (upd s 5 h9) 3 l9) F (cf 2 (f + x).toNatClampNeg) := ⟨_, rfl⟩
            obtain rfl : L' = .inr (.inr (5, [.ref (s_rho [0, 1, 2, 3, 4, 5, 6, 7, 8, 9, 10] x0), .ref (s_rho [0, 1, 2, 3, 4, 5, 6, 7, 8, 9, 10] x1), .ref (s_rho [0, 1, 2, 3, 4, 5, 6, 7, 8, 9, 10] x2), .ref (s_rho [0, 1, 2, 3, 4, 5, 6, 7, 8, 9, 10] x3), .ref 1011, .ref (s_rho [0, 1, 2, 3, 4, 5, 6, 7, 8, 9, 10] x5), .ref 1, .int y7, .int y8, .int y9])) :: bkK 1 s3 F := by rw [hs3]; exact hr2
            have hak2 : ak = p_ak (F 3) (F 4) (F 5) (F 7) (s 1).toNatClampNeg (s 6) (s 4) (s 2).toNatClampNeg (s 1) h9 l9 (cf 2 (f + nI c).toNatClampNeg) := by rw [hak, hx]; rfl
            have ue := s_un_rho [0, 1, 2, 3, 4, 5, 6, 7, 8, 9, 10] (by decide)
            refine s_pk_conv (L2 := w5 x0 x1 x2 x3 x5 y7 y8 y9 s3 F ln sz cf) ?_ ?_
            · show (.inr (.inr (5, [.ref (s_un [0, 1, 2, 3, 4, 5, 6, 7, 8, 9, 10] (s_rho [0, 1, 2, 3, 4, 5, 6, 7, 8, 9, 10] x0)), .ref (s_un [0, 1, 2, 3, 4, 5, 6, 7, 8, 9, 10] (s_rho [0, 1, 2, 3, 4, 5, 6, 7, 8, 9, 10] x1)), .ref (s_un [0, 1, 2, 3, 4, 5, 6, 7, 8, 9, 10] (s_rho [0, 1, 2, 3, 4, 5, 6, 7, 8, 9, 10] x2)), .ref (s_un [0, 1, 2, 3, 4, 5, 6, 7, 8, 9, 10] (s_rho [0, 1, 2, 3, 4, 5, 6, 7, 8, 9, 10] x3)), .ref 11, .ref (s_un [0, 1, 2, 3, 4, 5, 6, 7, 8, 9, 10] (s_rho [0, 1, 2, 3, 4, 5, 6, 7, 8, 9, 10] x5)), .ref 1, .int y7, .int y8, .int y9])) :: (bkK 1 s3 F ++ .inr (.inl (4, [some 12, some 14, some 16, some 18])) :: shs 12 ln sz cf) : sH) = _
              rw [ue x0, ue x1, ue x2, ue x3, ue x5]
              rfl
            refine And.intro (fun h8 => ?_) (fun h8 => ?_)
            · obtain ⟨hh, ll, hq⟩ := q_ask_no (s := upd (upd s 5 h9) 3 l9) (F := F) (w := cf 2 (f + x).toNatClampNeg)
              rw [← hs3, upd_53] at hq
              have h8 : ak < 0 := h8
              refine fin2 2 _ _ _ (upd (upd s3 5 (s 5)) 3 (s 3)) (by decide) hP ?_ ?_ ?_
              · rw [p_rR, if_pos hf0, ← hak2, if_pos h8, hx]
              · rw [p_rR, if_pos hf0, ← hak2, if_pos h8]; rfl
              · rw [p_rR, if_pos hf0, ← hak2, if_pos h8, hq, upd_53]
            · have h8 : ¬ ak < 0 := h8
              have hq := q_ask_ye (s := upd (upd s 5 h9) 3 l9) (F := F) (w := cf 2 (f + x).toNatClampNeg) (by rw [← hak]; exact h8)
              rw [← hs3] at hq
              have hq2 : s3 = upd (upd s 5 (h9 ||| F 6 (cf 2 (f + nI c).toNatClampNeg).toNatClampNeg)) 3 (l9 ||| F 7 (cf 2 (f + nI c).toNatClampNeg).toNatClampNeg) := by
                rw [hq, upd_53, hx]; rfl
              rw [hq2]
              refine ih (c + 1) _ _ _ _ (by omega) (by rw [hx, nI_1]) h7 ?_
              rw [← hP, p_rR, if_pos hf0, ← hak2, if_neg h8]
          · have hf0 : ¬ p_fa (ln 2) (sz 2) l (f + nI c) = 0 := fun z => h7 (hfa.trans z)
            refine fin2 2 _ _ _ _ (by decide) hP ?_ ?_ ?_
            · rw [p_rR, if_neg hf0, hx]
            · rw [p_rR, if_neg hf0, hfa]; rfl
            · rw [p_rR, if_neg hf0]
        · rw [hx, nI_ltI (by omega) (by omega)] at q; omega
    have e0 := upd_53s s
    have := loop M 0 (nI 0) 0 (s 5) (s 3) (by omega) rfl rfl rfl
    rw [e0] at this
    exact this
  · refine And.intro (vp_in_nI (by decide) (by decide)) ?_
    obtain ⟨N, hsN, hN⟩ := hsz 3 (by omega)
    have loop : ∀ (r c : Nat) (x fo h9 l9 : Int32), c + r = M → x = nI c → fo = 0 → p_rR (F 3) (F 4) (F 5) (F 6) (F 7) (s 1).toNatClampNeg (s 6) (s 4) (s 2).toNatClampNeg (s 1) (s 5) (s 3) (ln 3) (sz 3) l f (cf 3) r c h9 l9 = p_rq s F (ln 3) (sz 3) l f (cf 3) M → G 3 [some (.ref 0), none, some (.int l), some (.int f), some (.int (nI M)), some (.ref 18), some (.int (s 5)), some (.int (s 3)), some (.int x), some (.int fo), none] [] (w5 x0 x1 x2 x3 x5 y7 y8 y9 (upd (upd s 5 h9) 3 l9) F ln sz cf) := by
      intro r
      induction r with
      | zero =>
        intro c x fo h9 l9 hc hx hfo hP
        refine hG 3 _ _ _ (And.intro (fun q => ?_) (fun q => ?_))
        · rw [hx, nI_ltI (by omega) (by omega)] at q; omega
        · exact fin2 3 _ _ _ _ (by decide) hP (by rw [hx]; rfl) (by rw [hfo]; rfl) rfl
      | succ r ih =>
        intro c x fo h9 l9 hc hx hfo hP
        refine hG 3 _ _ _ (And.intro (fun q => ?_) (fun q => ?_))
        · refine And.intro ⟨_, _, _, _, _, rfl, rfl⟩ ?_
          intro rr hr
          obtain ⟨fa, hfa⟩ : ∃ fa, fa = p_fa (ln 3) (sz 3) l (f + x) := ⟨_, rfl⟩
          obtain rfl : rr = some (.int fa) := by rw [hfa]; exact hr
          rw [hx] at hfa
          refine And.intro (fun h7 => ?_) (fun h7 => ?_)
          · have hf0 : p_fa (ln 3) (sz 3) l (f + nI c) = 0 := hfa.symm.trans h7
            have hin := (p_fa_0 hsN hN hf0).1
            rw [← hx] at hin
            refine And.intro hin (And.intro ⟨_, _, _, _, _, _, _, _, _, upd (upd s 5 h9) 3 l9, F, _, n, d, rfl, rfl, hn, hn8, hd, hd8⟩ ?_)
            rintro rr L' ⟨hr1, hr2⟩
            obtain ⟨ak, hak⟩ : ∃ ak, ak = r_ask (upd (upd s 5 h9) 3 l9) F (cf 3 (f + x).toNatClampNeg) := ⟨_, rfl⟩
            obtain rfl : rr = some (.int ak) := by rw [hak]; exact hr1
            obtain ⟨s3, hs3⟩ : ∃ s3, s3 = q_ask (upd (upd s 5 h9) 3 l9) F (cf 3 (f + x).toNatClampNeg) := ⟨_, rfl⟩
            obtain rfl : L' = .inr (.inr (5, [.ref (s_rho [0, 1, 2, 3, 4, 5, 6, 7, 8, 9, 10] x0), .ref (s_rho [0, 1, 2, 3, 4, 5, 6, 7, 8, 9, 10] x1), .ref (s_rho [0, 1, 2, 3, 4, 5, 6, 7, 8, 9, 10] x2), .ref (s_rho [0, 1, 2, 3, 4, 5, 6, 7, 8, 9, 10] x3), .ref 1011, .ref (s_rho [0, 1, 2, 3, 4, 5, 6, 7, 8, 9, 10] x5), .ref 1, .int y7, .int y8, .int y9])) :: bkK 1 s3 F := by rw [hs3]; exact hr2
            have hak2 : ak = p_ak (F 3) (F 4) (F 5) (F 7) (s 1).toNatClampNeg (s 6) (s 4) (s 2).toNatClampNeg (s 1) h9 l9 (cf 3 (f + nI c).toNatClampNeg) := by rw [hak, hx]; rfl
            have ue := s_un_rho [0, 1, 2, 3, 4, 5, 6, 7, 8, 9, 10] (by decide)
            refine s_pk_conv (L2 := w5 x0 x1 x2 x3 x5 y7 y8 y9 s3 F ln sz cf) ?_ ?_
            · show (.inr (.inr (5, [.ref (s_un [0, 1, 2, 3, 4, 5, 6, 7, 8, 9, 10] (s_rho [0, 1, 2, 3, 4, 5, 6, 7, 8, 9, 10] x0)), .ref (s_un [0, 1, 2, 3, 4, 5, 6, 7, 8, 9, 10] (s_rho [0, 1, 2, 3, 4, 5, 6, 7, 8, 9, 10] x1)), .ref (s_un [0, 1, 2, 3, 4, 5, 6, 7, 8, 9, 10] (s_rho [0, 1, 2, 3, 4, 5, 6, 7, 8, 9, 10] x2)), .ref (s_un [0, 1, 2, 3, 4, 5, 6, 7, 8, 9, 10] (s_rho [0, 1, 2, 3, 4, 5, 6, 7, 8, 9, 10] x3)), .ref 11, .ref (s_un [0, 1, 2, 3, 4, 5, 6, 7, 8, 9, 10] (s_rho [0, 1, 2, 3, 4, 5, 6, 7, 8, 9, 10] x5)), .ref 1, .int y7, .int y8, .int y9])) :: (bkK 1 s3 F ++ .inr (.inl (4, [some 12, some 14, some 16, some 18])) :: shs 12 ln sz cf) : sH) = _
              rw [ue x0, ue x1, ue x2, ue x3, ue x5]
              rfl
            refine And.intro (fun h8 => ?_) (fun h8 => ?_)
            · obtain ⟨hh, ll, hq⟩ := q_ask_no (s := upd (upd s 5 h9) 3 l9) (F := F) (w := cf 3 (f + x).toNatClampNeg)
              rw [← hs3, upd_53] at hq
              have h8 : ak < 0 := h8
              refine fin2 3 _ _ _ (upd (upd s3 5 (s 5)) 3 (s 3)) (by decide) hP ?_ ?_ ?_
              · rw [p_rR, if_pos hf0, ← hak2, if_pos h8, hx]
              · rw [p_rR, if_pos hf0, ← hak2, if_pos h8]; rfl
              · rw [p_rR, if_pos hf0, ← hak2, if_pos h8, hq, upd_53]
            · have h8 : ¬ ak < 0 := h8
              have hq := q_ask_ye (s := upd (upd s 5 h9) 3 l9) (F := F) (w := cf 3 (f + x).toNatClampNeg) (by rw [← hak]; exact h8)
              rw [← hs3] at hq
              have hq2 : s3 = upd (upd s 5 (h9 ||| F 6 (cf 3 (f + nI c).toNatClampNeg).toNatClampNeg)) 3 (l9 ||| F 7 (cf 3 (f + nI c).toNatClampNeg).toNatClampNeg) := by
                rw [hq, upd_53, hx]; rfl
              rw [hq2]
              refine ih (c + 1) _ _ _ _ (by omega) (by rw [hx, nI_1]) h7 ?_
              rw [← hP, p_rR, if_pos hf0, ← hak2, if_neg h8]
          · have hf0 : ¬ p_fa (ln 3) (sz 3) l (f + nI c) = 0 := fun z => h7 (hfa.trans z)
            refine fin2 3 _ _ _ _ (by decide) hP ?_ ?_ ?_
            · rw [p_rR, if_neg hf0, hx]
            · rw [p_rR, if_neg hf0, hfa]; rfl
            · rw [p_rR, if_neg hf0]
        · rw [hx, nI_ltI (by omega) (by omega)] at q; omega
    have e0 := upd_53s s
    have := loop M 0 (nI 0) 0 (s 5) (s 3) (by omega) rfl rfl rfl
    rw [e0] at this
    exact this
end
section
/-! ===== WishClerk: counts, images ===== -/
def w6 (x1 x2 x3 x5 xb xc a1 a2 a3 : Nat) (y7 y8 y9 tl l0 z0 : Int32) (s : Nat → Int32) (F : Nat → Nat → Int32) : sH := .inr (.inr (5, [.ref 11, .ref x1, .ref x2, .ref x3, .ref 12, .ref x5, .ref 1, .int y7, .int y8, .int y9])) :: (bkK 1 s F ++ [.inr (.inr (4, [.ref xb, .int tl])), .inr (.inl (4, [some 13, some a1, some a2, some a3])), .inr (.inr (3, [.ref xc, .int l0, .int z0]))])
def w6fp (vs : sS) (L : sH) : List Nat := match vs with
  | .ref b :: _ => b :: (bkP L (s_rf L b 6) ++ [s_rf L b 0, s_rf L b 4, s_ra L (s_rf L b 4) 0])
  | _ => []
def r_count (s : Nat → Int32) (y7 tl l0 z0 x : Int32) : Int32 := if x = 0 then p_bc (s 3) else if x = 1 then p_bc (s 5) else if x = 2 then s 18 else if x = 3 then p_bc y7 else if x = 4 then tl else if x = 5 then (if l0 = -1 then -4 else z0) else if x = 6 then p_bc (s 6) else if x = 7 then p_bc (s 4) else -1
def c_X5_count : sCtr := ((yX5_count, cX5_count, 2, (some .int)), (6, 1, 1, 20), true,
  w6fp,
  fun vs L => ∃ (x1 x2 x3 x5 xb xc a1 a2 a3 : Nat) (y7 y8 y9 tl l0 z0 : Int32) (s : Nat → Int32) (F : Nat → Nat → Int32) (x : Int32), vs = [.ref 0, .int x] ∧ L = w6 x1 x2 x3 x5 xb xc a1 a2 a3 y7 y8 y9 tl l0 z0 s F,
  fun vs L r _ => r = some (.int (r_count (oI L 1) (oI L 0 7) (oI L 11 1) (oI L 13 1) (oI L 13 2) (vI vs 1))))
theorem sta_X5_count : s_Sta c_X5_count := ⟨⟨by decide +kernel, by decide +kernel, by decide +kernel⟩, List.mem_of_getElem? (i := 806) (by decide +kernel), List.mem_of_getElem? (i := 64) (by decide +kernel), ⟨List.mem_of_getElem? (i := 804) (by decide +kernel), List.mem_of_getElem? (i := 805) (by decide +kernel), Or.inl ⟨_, rfl, rfl⟩⟩⟩

def k_X5_count : List sBk := [
  (0, false, [true, true], [o0 0 (.iload_n 1), oN 1 (.tableswitch 142 0 7 #[47, 58, 69, 77, 85, 93, 120, 131]) [11, 1, 2, 3, 4, 5, 6, 9, 10]]),
  (48, false, [true, false], [o0 48 (.aload_n 0), oN 49 (.getfield 49) [5, 6, 304], oN 52 (.getfield 88) [0, 3, 127], oC 55 (.invokestatic 160) [574] c_J6_bitCount_0f7a4, o0 58 .ireturn]),
  (59, false, [true, false], [o0 59 (.aload_n 0), oN 60 (.getfield 49) [5, 6, 304], oN 63 (.getfield 94) [0, 5, 134], oC 66 (.invokestatic 160) [574] c_J6_bitCount_0f7a4, o0 69 .ireturn]),
  (70, false, [true, false], [o0 70 (.aload_n 0), oN 71 (.getfield 49) [5, 6, 304], oN 74 (.getfield 220) [0, 18, 171], o0 77 .ireturn]),
  (78, false, [true, false], [o0 78 (.aload_n 0), oN 79 (.getfield 76) [5, 7, 305], oC 82 (.invokestatic 160) [574] c_J6_bitCount_0f7a4, o0 85 .ireturn]),
  (86, false, [true, false], [o0 86 (.aload_n 0), oN 87 (.getfield 12) [5, 0, 298], oN 90 (.getfield 54) [4, 1, 95], o0 93 .ireturn]),
  (94, false, [true, false], [o0 94 (.aload_n 0), oN 95 (.getfield 40) [5, 4, 302], oK 98 (.iconst 0) (.int 0), o0 99 .aaload, oC 100 (.invokevirtual 276) [807] c_X3_isNothing, oN 103 (.ifCond .eq 8) [7], oK 106 (.bipush (-4)) (.int (-4)), oN 108 (.goto 12) [8]]),
  (111, false, [true, false], [o0 111 (.aload_n 0), oN 112 (.getfield 40) [5, 4, 302], oK 115 (.iconst 0) (.int 0), o0 116 .aaload, oN 117 (.getfield 280) [3, 2, 290], oN 120 .nop [8]]),
  (120, false, [false, false], [o0 120 .ireturn]),
  (121, false, [true, false], [o0 121 (.aload_n 0), oN 122 (.getfield 49) [5, 6, 304], oN 125 (.getfield 97) [0, 6, 136], oC 128 (.invokestatic 160) [574] c_J6_bitCount_0f7a4, o0 131 .ireturn]),
  (132, false, [true, false], [o0 132 (.aload_n 0), oN 133 (.getfield 49) [5, 6, 304], oN 136 (.getfield 91) [0, 4, 130], oC 139 (.invokestatic 160) [574] c_J6_bitCount_0f7a4, o0 142 .ireturn]),
  (143, false, [false, false], [oK 143 (.iconst (-1)) (.int (-1)), o0 144 .ireturn])]
set_option maxRecDepth 100000 in
theorem ck_X5_count : s_ck RX5 cX5_count 2 1 20 k_X5_count = true := by decide +kernel

set_option maxRecDepth 100000 in
set_option maxHeartbeats 1000000 in
theorem ok_X5_count : s_Ok c_X5_count := by
  refine s_ok_of k_X5_count (by decide +kernel) sta_X5_count ck_X5_count (And.intro ok_J6_bitCount_0f7a4 (And.intro ok_J6_bitCount_0f7a4 (And.intro ok_J6_bitCount_0f7a4 (And.intro ok_X3_isNothing (And.intro ok_J6_bitCount_0f7a4 (And.intro ok_J6_bitCount_0f7a4 trivial)))))) ?_
  rintro vs L ⟨x1, x2, x3, x5, xb, xc, a1, a2, a3, y7, y8, y9, tl, l0, z0, s, F, x, rfl, rfl⟩
  refine ⟨rfl, fun G hG => ?_⟩
  have fin : ∀ a : Int32, a = r_count s y7 tl l0 z0 x → s_PP (some .int) true c_X5_count.2.2.2.2.2 [.ref 0, .int x] (w6 x1 x2 x3 x5 xb xc a1 a2 a3 y7 y8 y9 tl l0 z0 s F) (some (.int a)) (w6 x1 x2 x3 x5 xb xc a1 a2 a3 y7 y8 y9 tl l0 z0 s F) := fun a ha => ⟨rfl, by rw [ha]; rfl, fun _ => rfl⟩
  have bc : ∀ (v : Int32) (r : Option Value), r = some (.int (p_bc v)) → p_bc v = r_count s y7 tl l0 z0 x → r = some (.int (r_count s y7 tl l0 z0 x)) := fun v r h1 h2 => by rw [h1, h2]
  refine hG 0 _ _ _ (And.intro ?_ ?_)
  · refine And.intro ?_ (And.intro ?_ (And.intro ?_ (And.intro ?_ (And.intro ?_ (And.intro ?_ (And.intro ?_ (And.intro ?_ trivial)))))))
    · intro h; obtain rfl := h
      refine And.intro ⟨_, rfl⟩ ?_
      intro r hr
      obtain rfl : r = some (.int (p_bc (s 3))) := hr
      exact fin _ rfl
    · intro h; obtain rfl := h
      refine And.intro ⟨_, rfl⟩ ?_
      intro r hr
      obtain rfl : r = some (.int (p_bc (s 5))) := hr
      exact fin _ rfl
    · intro h; obtain rfl := h
      exact fin _ rfl
    · intro h; obtain rfl := h
      refine And.intro ⟨_, rfl⟩ ?_
      intro r hr
      obtain rfl : r = some (.int (p_bc y7)) := hr
      exact fin _ rfl
    · intro h; obtain rfl := h
      exact fin _ rfl
    · intro h; obtain rfl := h
      refine And.intro (vp_in_nI (n := 0) (N := 4) (by decide) (by decide)) (And.intro ⟨_, _, _, rfl, rfl⟩ ?_)
      intro r hr
      obtain rfl : r = some (.int (if l0 = -1 then 1 else 0)) := hr
      by_cases h : l0 = -1
      · refine And.intro (fun q => ?_) (fun _ => ?_)
        · rw [if_pos h] at q; exact absurd q (by decide)
        · exact fin _ (by show -4 = (if l0 = -1 then -4 else z0); rw [if_pos h])
      · refine And.intro (fun _ => ?_) (fun q => ?_)
        · exact And.intro (vp_in_nI (n := 0) (N := 4) (by decide) (by decide)) (fin _ (by show z0 = (if l0 = -1 then -4 else z0); rw [if_neg h]))
        · rw [if_neg h] at q; exact absurd rfl q
    · intro h; obtain rfl := h
      refine And.intro ⟨_, rfl⟩ ?_
      intro r hr
      obtain rfl : r = some (.int (p_bc (s 6))) := hr
      exact fin _ rfl
    · intro h; obtain rfl := h
      refine And.intro ⟨_, rfl⟩ ?_
      intro r hr
      obtain rfl : r = some (.int (p_bc (s 4))) := hr
      exact fin _ rfl
  · intro h
    have t := fun k hk => tab_out h k hk
    exact fin _ (by rw [r_count, if_neg (t 0 (by decide)), if_neg (t 1 (by decide)), if_neg (t 2 (by decide)), if_neg (t 3 (by decide)), if_neg (t 4 (by decide)), if_neg (t 5 (by decide)), if_neg (t 6 (by decide)), if_neg (t 7 (by decide))])
def w7 (x0 x1 x2 x4 x5 : Nat) (y7 y8 y9 : Int32) (s s0 s1 : Nat → Int32) (F F0 F1 : Nat → Nat → Int32) : sH := .inr (.inr (5, [.ref x0, .ref x1, .ref x2, .ref 11, .ref x4, .ref x5, .ref 1, .int y7, .int y8, .int y9])) :: (bkK 1 s F ++ .inr (.inl (3, [some 12, some 22])) :: (bkK 12 s0 F0 ++ bkK 22 s1 F1))
def w7fp (vs : sS) (L : sH) : List Nat := match vs with
  | .ref b :: _ => b :: (bkP L (s_rf L b 6) ++ s_rf L b 3 :: (bkP L (s_ra L (s_rf L b 3) 0) ++ bkP L (s_ra L (s_rf L b 3) 1)))
  | _ => []
def r_keep (y7 k : Int32) : Int32 := if k < 0 then -1 else if k < 2 then (y7 >>> (k &&& 31)) &&& 1 else -1
def q_kept (y7 k : Int32) : Int32 := if k < 0 then y7 else if k < 2 then y7 ||| ((1 : Int32) <<< (k &&& 31)) else y7
/-- image i behind keep(k) -/
def q_keepS (k i : Int32) (s s0 : Nat → Int32) : Nat → Int32 := fun j => if k = i then s j else s0 j
def q_keepF (k i : Int32) (F F0 : Nat → Nat → Int32) : Nat → Nat → Int32 := fun j => if k = i then p_cpB F0 F j else F0 j
def s_r7 (c : sC) (v : Int32) : sC := match c with
  | .inr (.inr (a, fs)) => .inr (.inr (a, s_set fs 7 (.int v)))
  | x => x
def c_X5_keep : sCtr := ((yX5_keep, cX5_keep, 3, (some .int)), (6, 1, 2, 65), false,
  w7fp,
  fun vs L => ∃ (x0 x1 x2 x4 x5 : Nat) (y7 y8 y9 : Int32) (s s0 s1 : Nat → Int32) (F F0 F1 : Nat → Nat → Int32) (k : Int32), vs = [.ref 0, .int k] ∧ L = w7 x0 x1 x2 x4 x5 y7 y8 y9 s s0 s1 F F0 F1,
  fun vs L r L' => r = some (.int (r_keep (oI L 0 7) (vI vs 1))) ∧ L' = s_r7 (s_hd L) (q_kept (oI L 0 7) (vI vs 1)) :: (bkK 1 (oI L 1) (bG 1 L) ++ .inr (.inl (3, [some 12, some 22])) :: (bkK 12 (q_keepS (vI vs 1) 0 (oI L 1) (oI L 12)) (q_keepF (vI vs 1) 0 (bG 1 L) (bG 12 L)) ++ bkK 22 (q_keepS (vI vs 1) 1 (oI L 1) (oI L 22)) (q_keepF (vI vs 1) 1 (bG 1 L) (bG 22 L)))))
theorem sta_X5_keep : s_Sta c_X5_keep := ⟨⟨by decide +kernel, by decide +kernel, by decide +kernel⟩, List.mem_of_getElem? (i := 758) (by decide +kernel), List.mem_of_getElem? (i := 64) (by decide +kernel), ⟨List.mem_of_getElem? (i := 756) (by decide +kernel), List.mem_of_getElem? (i := 757) (by decide +kernel), Or.inl ⟨_, rfl, rfl⟩⟩⟩

def k_X5_keep : List sBk := [
  (0, false, [true, true, false], [o0 0 (.iload_n 1), oN 1 (.ifCond .lt 8) [1], o0 4 (.iload_n 1), oK 5 (.iconst 2) (.int 2), oN 6 (.if_icmp .lt 5) [2], oN 9 .nop [1]]),
  (9, false, [false, false, false], [oK 9 (.iconst (-1)) (.int (-1)), o0 10 .ireturn]),
  (11, false, [true, true, false], [o0 11 (.aload_n 0), oN 12 (.getfield 76) [5, 7, 305], o0 15 (.iload_n 1), oC 16 (.invokestatic 134) [514] c_X5_bitOf, o0 19 (.istore_n 2), o0 20 (.aload_n 0), oN 21 (.getfield 34) [5, 3, 301], o0 24 (.iload_n 1), o0 25 .aaload, o0 26 (.aload_n 0), oN 27 (.getfield 49) [5, 6, 304], oC 30 (.invokevirtual 250) [759] c_X0_copyFrom, o0 33 (.aload_n 0), o0 34 .dup, oN 35 (.getfield 76) [5, 7, 305], oK 38 (.iconst 1) (.int 1), o0 39 (.iload_n 1), o0 40 .ishl, o0 41 .ior, oN 42 (.putfield 76) [5, 7, 305], o0 45 (.iload_n 2), o0 46 .ireturn])]
set_option maxRecDepth 100000 in
theorem ck_X5_keep : s_ck RX5 cX5_keep 3 2 65 k_X5_keep = true := by decide +kernel

set_option maxRecDepth 100000 in
set_option maxHeartbeats 1000000 in
theorem ok_X5_keep : s_Ok c_X5_keep := by
  refine s_ok_of k_X5_keep (by decide +kernel) sta_X5_keep ck_X5_keep (And.intro ok_X5_bitOf (And.intro ok_X0_copyFrom trivial)) ?_
  rintro vs L ⟨x0, x1, x2, x4, x5, y7, y8, y9, s, s0, s1, F, F0, F1, k, rfl, rfl⟩
  refine ⟨rfl, fun G hG => ?_⟩
  have fin : ∀ (a : Int32) (L2 : sH), a = r_keep y7 k → L2 = w7 x0 x1 x2 x4 x5 (q_kept y7 k) y8 y9 s (q_keepS k 0 s s0) (q_keepS k 1 s s1) F (q_keepF k 0 F F0) (q_keepF k 1 F F1) → s_PP (some .int) false c_X5_keep.2.2.2.2.2 [.ref 0, .int k] (w7 x0 x1 x2 x4 x5 y7 y8 y9 s s0 s1 F F0 F1) (some (.int a)) L2 := fun a L2 ha hL => ⟨rfl, ⟨by rw [ha]; rfl, by rw [hL]; rfl⟩, fun h => by cases h⟩
  have no : ∀ i : Int32, ¬ k = i → (∀ s s0, q_keepS k i s s0 = s0) ∧ ∀ F F0, q_keepF k i F F0 = F0 := fun i hi => ⟨fun s s0 => by funext j; rw [q_keepS, if_neg hi], fun F F0 => by funext j; rw [q_keepF, if_neg hi]⟩
  refine hG 0 _ _ _ (And.intro (fun h => ?_) (fun h => ?_))
  · have k0 : ¬ k = 0 := by rintro rfl; exact absurd h (by decide)
    have k1 : ¬ k = 1 := by rintro rfl; exact absurd h (by decide)
    exact fin _ _ (by rw [r_keep, if_pos h]) (by rw [q_kept, if_pos h, (no 0 k0).1, (no 0 k0).2, (no 1 k1).1, (no 1 k1).2])
  refine And.intro (fun h2 => ?_) (fun h2 => ?_)
  rotate_left
  · have k0 : ¬ k = 0 := by rintro rfl; exact absurd (by decide) h2
    have k1 : ¬ k = 1 := by rintro rfl; exact absurd (by decide) h2
    exact fin _ _ (by rw [r_keep, if_neg h, if_neg h2]) (by rw [q_kept, if_neg h, if_neg h2, (no 0 k0).1, (no 0 k0).2, (no 1 k1).1, (no 1 k1).2])
  refine And.intro ⟨_, _, rfl⟩ ?_
  intro r hr
  obtain rfl : r = some (.int ((y7 >>> (k &&& 31)) &&& 1)) := hr
  have h01 : k = 0 ∨ k = 1 := by
    obtain ⟨j, hj, rfl⟩ := nI_of h
    have := (nI_ltI (b := 2) hj (by omega)).mp h2
    rcases (show j = 0 ∨ j = 1 by omega) with rfl | rfl
    · exact Or.inl rfl
    · exact Or.inr rfl
  rcases h01 with rfl | rfl
  · refine And.intro (vp_in_nI (n := 0) (N := 2) (by decide) (by decide)) (And.intro ⟨s0, s, F0, F, rfl, rfl⟩ ?_)
    rintro r L' ⟨rfl, hL⟩
    obtain rfl : L' = bkW s (p_cpB F0 F) ++ bkV s F := hL
    refine fin _ _ (by rw [r_keep, if_neg h, if_pos h2]) ?_
    rw [q_kept, if_neg h, if_pos h2, (no 1 (by decide)).1, (no 1 (by decide)).2]
    rfl
  · refine And.intro (vp_in_nI (n := 1) (N := 2) (by decide) (by decide)) (And.intro ⟨s1, s, F1, F, rfl, rfl⟩ ?_)
    rintro r L' ⟨rfl, hL⟩
    obtain rfl : L' = bkW s (p_cpB F1 F) ++ bkV s F := hL
    refine fin _ _ (by rw [r_keep, if_neg h, if_pos h2]) ?_
    rw [q_kept, if_neg h, if_pos h2, (no 0 (by decide)).1, (no 0 (by decide)).2]
    rfl
def r_back (y7 k : Int32) (s0 s1 : Nat → Int32) : Int32 := if k < 0 then -1 else if k < 2 then (if p_hb y7 k = 0 then -2 else if k = 0 then s0 5 else s1 5) else -1
def q_backS (y7 k : Int32) (s s0 s1 : Nat → Int32) : Nat → Int32 := fun j => if k < 0 then s j else if k < 2 then (if p_hb y7 k = 0 then s j else if k = 0 then s0 j else s1 j) else s j
def q_backF (y7 k : Int32) (F F0 F1 : Nat → Nat → Int32) : Nat → Nat → Int32 := fun j => if k < 0 then F j else if k < 2 then (if p_hb y7 k = 0 then F j else if k = 0 then p_cpB F F0 j else p_cpB F F1 j) else F j
def c_X5_back : sCtr := ((yX5_back, cX5_back, 2, (some .int)), (6, 1, 2, 65), false,
  w7fp,
  fun vs L => ∃ (x0 x1 x2 x4 x5 : Nat) (y7 y8 y9 : Int32) (s s0 s1 : Nat → Int32) (F F0 F1 : Nat → Nat → Int32) (k : Int32), vs = [.ref 0, .int k] ∧ L = w7 x0 x1 x2 x4 x5 y7 y8 y9 s s0 s1 F F0 F1,
  fun vs L r L' => r = some (.int (r_back (oI L 0 7) (vI vs 1) (oI L 12) (oI L 22))) ∧ L' = s_hd L :: (bkK 1 (q_backS (oI L 0 7) (vI vs 1) (oI L 1) (oI L 12) (oI L 22)) (q_backF (oI L 0 7) (vI vs 1) (bG 1 L) (bG 12 L) (bG 22 L)) ++ .inr (.inl (3, [some 12, some 22])) :: (bkK 12 (oI L 12) (bG 12 L) ++ bkK 22 (oI L 22) (bG 22 L))))
theorem sta_X5_back : s_Sta c_X5_back := ⟨⟨by decide +kernel, by decide +kernel, by decide +kernel⟩, List.mem_of_getElem? (i := 769) (by decide +kernel), List.mem_of_getElem? (i := 64) (by decide +kernel), ⟨List.mem_of_getElem? (i := 767) (by decide +kernel), List.mem_of_getElem? (i := 768) (by decide +kernel), Or.inl ⟨_, rfl, rfl⟩⟩⟩

def k_X5_back : List sBk := [
  (0, false, [true, true], [o0 0 (.iload_n 1), oN 1 (.ifCond .lt 8) [1], o0 4 (.iload_n 1), oK 5 (.iconst 2) (.int 2), oN 6 (.if_icmp .lt 5) [2], oN 9 .nop [1]]),
  (9, false, [false, false], [oK 9 (.iconst (-1)) (.int (-1)), o0 10 .ireturn]),
  (11, false, [true, true], [o0 11 (.aload_n 0), oN 12 (.getfield 76) [5, 7, 305], o0 15 (.iload_n 1), oC 16 (.invokestatic 157) [573] c_X5_hasBit, oN 19 (.ifCond .ne 6) [3], oK 22 (.bipush (-2)) (.int (-2)), o0 24 .ireturn]),
  (25, false, [true, true], [o0 25 (.aload_n 0), oN 26 (.getfield 49) [5, 6, 304], o0 29 (.aload_n 0), oN 30 (.getfield 34) [5, 3, 301], o0 33 (.iload_n 1), o0 34 .aaload, oC 35 (.invokevirtual 250) [759] c_X0_copyFrom, o0 38 (.aload_n 0), oN 39 (.getfield 49) [5, 6, 304], oN 42 (.getfield 94) [0, 5, 134], o0 45 .ireturn])]
set_option maxRecDepth 100000 in
theorem ck_X5_back : s_ck RX5 cX5_back 2 2 65 k_X5_back = true := by decide +kernel

set_option maxRecDepth 100000 in
set_option maxHeartbeats 1000000 in
theorem ok_X5_back : s_Ok c_X5_back := by
  refine s_ok_of k_X5_back (by decide +kernel) sta_X5_back ck_X5_back (And.intro ok_X5_hasBit (And.intro ok_X0_copyFrom trivial)) ?_
  rintro vs L ⟨x0, x1, x2, x4, x5, y7, y8, y9, s, s0, s1, F, F0, F1, k, rfl, rfl⟩
  refine ⟨rfl, fun G hG => ?_⟩
  have fin : ∀ (a : Int32) (L2 : sH), a = r_back y7 k s0 s1 → L2 = w7 x0 x1 x2 x4 x5 y7 y8 y9 (q_backS y7 k s s0 s1) s0 s1 (q_backF y7 k F F0 F1) F0 F1 → s_PP (some .int) false c_X5_back.2.2.2.2.2 [.ref 0, .int k] (w7 x0 x1 x2 x4 x5 y7 y8 y9 s s0 s1 F F0 F1) (some (.int a)) L2 := fun a L2 ha hL => ⟨rfl, ⟨by rw [ha]; rfl, by rw [hL]; rfl⟩, fun h => by cases h⟩
  refine hG 0 _ _ _ (And.intro (fun h => ?_) (fun h => ?_))
  · exact fin _ _ (by rw [r_back, if_pos h]) (by rw [show q_backS y7 k s s0 s1 = s by funext j; rw [q_backS, if_pos h], show q_backF y7 k F F0 F1 = F by funext j; rw [q_backF, if_pos h]])
  refine And.intro (fun h2 => ?_) (fun h2 => ?_)
  rotate_left
  · exact fin _ _ (by rw [r_back, if_neg h, if_neg h2]) (by rw [show q_backS y7 k s s0 s1 = s by funext j; rw [q_backS, if_neg h, if_neg h2], show q_backF y7 k F F0 F1 = F by funext j; rw [q_backF, if_neg h, if_neg h2]])
  refine And.intro ⟨_, _, rfl⟩ ?_
  intro r hr
  obtain rfl : r = some (.int (p_hb y7 k)) := hr
  refine And.intro (fun h3 => ?_) (fun h3 => ?_)
  · exact fin _ _ (by rw [r_back, if_neg h, if_pos h2, if_pos h3]) (by rw [show q_backS y7 k s s0 s1 = s by funext j; rw [q_backS, if_neg h, if_pos h2, if_pos h3], show q_backF y7 k F F0 F1 = F by funext j; rw [q_backF, if_neg h, if_pos h2, if_pos h3]])
  have h01 : k = 0 ∨ k = 1 := by
    obtain ⟨j, hj, rfl⟩ := nI_of h
    have := (nI_ltI (b := 2) hj (by omega)).mp h2
    rcases (show j = 0 ∨ j = 1 by omega) with rfl | rfl
    · exact Or.inl rfl
    · exact Or.inr rfl
  rcases h01 with rfl | rfl
  · refine And.intro (vp_in_nI (n := 0) (N := 2) (by decide) (by decide)) (And.intro ⟨s, s0, F, F0, rfl, rfl⟩ ?_)
    rintro r L' ⟨rfl, hL⟩
    obtain rfl : L' = bkW s0 (p_cpB F F0) ++ bkV s0 F0 := hL
    refine fin _ _ (by rw [r_back, if_neg h, if_pos h2, if_neg h3]; rfl) ?_
    rw [show q_backS y7 0 s s0 s1 = s0 by funext j; rw [q_backS, if_neg h, if_pos h2, if_neg h3, if_pos rfl], show q_backF y7 0 F F0 F1 = p_cpB F F0 by funext j; rw [q_backF, if_neg h, if_pos h2, if_neg h3, if_pos rfl]]
    rfl
  · refine And.intro (vp_in_nI (n := 1) (N := 2) (by decide) (by decide)) (And.intro ⟨s, s1, F, F1, rfl, rfl⟩ ?_)
    rintro r L' ⟨rfl, hL⟩
    obtain rfl : L' = bkW s1 (p_cpB F F1) ++ bkV s1 F1 := hL
    refine fin _ _ (by rw [r_back, if_neg h, if_pos h2, if_neg h3]; rfl) ?_
    rw [show q_backS y7 1 s s0 s1 = s1 by funext j; rw [q_backS, if_neg h, if_pos h2, if_neg h3, if_neg (by decide)], show q_backF y7 1 F F0 F1 = p_cpB F F1 by funext j; rw [q_backF, if_neg h, if_pos h2, if_neg h3, if_neg (by decide)]]
    rfl
end
section
/-! ===== WishClerkModel: its world, bits, what follows, refusal ===== -/
def mdO (s : Nat → Int32) : sC := .inr (.inr (6, [.ref 1, .ref 2, .int (s 2), .int (s 3), .ref 3, .ref 4, .ref 5, .int (s 7), .int (s 8), .ref 6, .ref 7, .int (s 11), .int (s 12), .int (s 13), .ref 8, .int (s 15), .int (s 16), .int (s 17), .int (s 18), .int (s 19), .int (s 20), .int (s 21), .ref 9, .ref 10, .ref 11, .ref 12, .ref 13, .ref 14, .ref 15, .ref 16, .int (s 30)]))
/-- itself; st, isKept, years, prices, draft, dYears, dPrices, tape, cost, before, by, line, dates, lanes, sizes, cells -/
def mdW (s : Nat → Int32) (A : Nat → Nat → Int32) : sH := [mdO s, .inl (0, 159, A 1), .inl (2, 2, A 2), .inl (0, 8, A 3), .inl (0, 8, A 4), .inl (0, 53, A 5), .inl (0, 8, A 6), .inl (0, 8, A 7), .inl (0, 160, A 8), .inl (0, 256, A 9), .inl (0, 256, A 10), .inl (0, 256, A 11), .inl (0, 256, A 12), .inl (0, 8, A 13), .inl (0, 4, A 14), .inl (0, 4, A 15), .inl (0, 160, A 16)]
def mdP (L : sH) (b : Nat) : List Nat := [b, s_rf L b 0, s_rf L b 1, s_rf L b 4, s_rf L b 5, s_rf L b 6, s_rf L b 9, s_rf L b 10, s_rf L b 14, s_rf L b 22, s_rf L b 23, s_rf L b 24, s_rf L b 25, s_rf L b 26, s_rf L b 27, s_rf L b 28, s_rf L b 29]
def mdfp (vs : sS) (L : sH) : List Nat := match vs with
  | .ref b :: _ => mdP L b
  | _ => []
def p_in64 (v lo hi : Int64) : Int32 := if v < lo then 0 else if hi < v then 0 else 1
def c_X6_in : sCtr := ((yX6_in, cX6_in, 6, (some .boolean)), (0, 3, 0, 0), true,
  fun _ _ => [],
  fun vs _ => ∃ v lo hi : Int64, vs = [.long v, .long lo, .long hi],
  fun vs _ r _ => r = some (.int (p_in64 (vJ vs 0) (vJ vs 1) (vJ vs 2))))
theorem sta_X6_in : s_Sta c_X6_in := ⟨⟨by decide +kernel, by decide +kernel, by decide +kernel⟩, List.mem_of_getElem? (i := 923) (by decide +kernel), List.mem_of_getElem? (i := 70) (by decide +kernel), List.mem_of_getElem? (i := 922) (by decide +kernel)⟩

def k_X6_in : List sBk := [
  (0, false, [true, false, true, false, true, false], [o0 0 (.lload_n 0), o0 1 (.lload_n 2), o0 2 .lcmp, oN 3 (.ifCond .lt 14) [1], o0 6 (.lload_n 0), o0 7 (.lload 4), o0 9 .lcmp, oN 10 (.ifCond .gt 7) [1], oK 13 (.iconst 1) (.int 1), oN 14 (.goto 4) [2]]),
  (17, false, [false, false, false, false, false, false], [oK 17 (.iconst 0) (.int 0), oN 18 .nop [2]]),
  (18, false, [false, false, false, false, false, false], [o0 18 .ireturn])]
set_option maxRecDepth 100000 in
theorem ck_X6_in : s_ck RX6 cX6_in 6 0 0 k_X6_in = true := by decide +kernel

set_option maxRecDepth 100000 in
set_option maxHeartbeats 1000000 in
theorem ok_X6_in : s_Ok c_X6_in := by
  refine s_ok_of k_X6_in (by decide +kernel) sta_X6_in ck_X6_in trivial ?_
  rintro vs L ⟨v, lo, hi, rfl⟩
  refine ⟨rfl, fun G hG => ?_⟩
  have fin : ∀ a : Int32, a = 0 ∨ a = 1 → a = p_in64 v lo hi → (a = 0 ∨ a = 1) ∧ s_PP (some .boolean) true c_X6_in.2.2.2.2.2 [.long v, .long lo, .long hi] L (some (.int a)) L := fun a h01 ha => ⟨h01, rfl, by rw [ha]; rfl, fun _ => rfl⟩
  refine hG 0 _ _ _ (And.intro (fun h => ?_) (fun h => ?_))
  · have h : v < lo := (lg_cmp_lt _ _).mp h
    exact fin 0 (Or.inl rfl) (by rw [p_in64, if_pos h])
  · have h : ¬ v < lo := fun q => h ((lg_cmp_lt _ _).mpr q)
    refine And.intro (fun h2 => ?_) (fun h2 => ?_)
    · have h2 : hi < v := (lg_cmp_gt _ _).mp h2
      exact fin 0 (Or.inl rfl) (by rw [p_in64, if_neg h, if_pos h2])
    · have h2 : ¬ hi < v := fun q => h2 ((lg_cmp_gt _ _).mpr q)
      exact fin 1 (Or.inr rfl) (by rw [p_in64, if_neg h, if_neg h2])
def c_X6_flag : sCtr := ((yX6_flag, cX6_flag, 1, (some .int)), (0, 1, 0, 0), true,
  fun _ _ => [],
  fun vs _ => ∃ x : Int32, vs = [.int x],
  fun vs _ r _ => r = some (.int (if vI vs 0 = 0 then 0 else 1)))
theorem sta_X6_flag : s_Sta c_X6_flag := ⟨⟨by decide +kernel, by decide +kernel, by decide +kernel⟩, List.mem_of_getElem? (i := 978) (by decide +kernel), List.mem_of_getElem? (i := 70) (by decide +kernel), List.mem_of_getElem? (i := 977) (by decide +kernel)⟩

def k_X6_flag : List sBk := [
  (0, false, [true], [o0 0 (.iload_n 0), oN 1 (.ifCond .eq 7) [1], oK 4 (.iconst 1) (.int 1), oN 5 (.goto 4) [2]]),
  (8, false, [false], [oK 8 (.iconst 0) (.int 0), oN 9 .nop [2]]),
  (9, false, [false], [o0 9 .ireturn])]
set_option maxRecDepth 100000 in
theorem ck_X6_flag : s_ck RX6 cX6_flag 1 0 0 k_X6_flag = true := by decide +kernel

set_option maxRecDepth 100000 in
set_option maxHeartbeats 1000000 in
theorem ok_X6_flag : s_Ok c_X6_flag := by
  refine s_ok_of k_X6_flag (by decide +kernel) sta_X6_flag ck_X6_flag trivial ?_
  rintro vs L ⟨x, rfl⟩
  refine ⟨rfl, fun G hG => ?_⟩
  refine hG 0 _ _ _ (And.intro (fun h => ?_) (fun h => ?_))
  · refine ⟨rfl, ?_, fun _ => rfl⟩
    show some (Value.int 0) = some (Value.int (if x = 0 then 0 else 1))
    rw [if_pos h]
  · refine ⟨rfl, ?_, fun _ => rfl⟩
    show some (Value.int 1) = some (Value.int (if x = 0 then 0 else 1))
    rw [if_neg h]
theorem p_and1 (y : Int32) : y &&& 1 = 0 ∨ y &&& 1 = 1 := by
  obtain ⟨j, hj, he⟩ := pk_andE y (m := 1) 1 (by decide)
  rcases (show j = 0 ∨ j = 1 by omega) with rfl | rfl
  · exact Or.inl he
  · exact Or.inr he
theorem p_hb_0 {x i : Int32} : p_hb x i = 0 ↔ ¬ (x >>> (i &&& 31)) &&& 1 = 1 := by
  unfold p_hb
  rcases p_and1 (x >>> (i &&& 31)) with h | h
  · rw [h]; decide
  · rw [h]; decide
theorem p_hb_v (x i : Int32) : (x >>> (i &&& 31)) &&& 1 = p_hb x i := by
  unfold p_hb
  rcases p_and1 (x >>> (i &&& 31)) with h | h <;> rw [h] <;> decide
theorem p_or0 (x : Int32) : x ||| 0 = x := by simp
theorem p_andm1 (x : Int32) : x &&& (0 ^^^ (-1)) = x := by simp
def c_X6_allOf : sCtr := ((yX6_allOf, cX6_allOf, 5, (some .int)), (7, 2, 0, 0), true,
  mdfp,
  fun vs L => ∃ (s : Nat → Int32) (A : Nat → Nat → Int32) (R : Nat) (g : Int32) (n : Nat), vs = [.ref 0, .int (nI R), .int g] ∧ L = mdW s A ∧ s 3 = nI n ∧ n ≤ 8 ∧ R ≤ 18,
  fun vs L r _ => r = some (.int (p_ga (fun i => bF L 1 ((vI vs 1).toNatClampNeg + i)) (oI L 0 3).toNatClampNeg (vI vs 2))))
theorem sta_X6_allOf : s_Sta c_X6_allOf := ⟨⟨by decide +kernel, by decide +kernel, by decide +kernel⟩, List.mem_of_getElem? (i := 1026) (by decide +kernel), List.mem_of_getElem? (i := 70) (by decide +kernel), ⟨List.mem_of_getElem? (i := 1025) (by decide +kernel), List.mem_of_getElem? (i := 47) (by decide +kernel), Or.inl ⟨_, rfl, rfl⟩⟩⟩

def k_X6_allOf : List sBk := [
  (0, false, [true, true, true, false, false], [oK 0 (.iconst 0) (.int 0), o0 1 (.istore_n 3), oK 2 (.iconst 0) (.int 0), o0 3 (.istore 4), oN 5 .nop [1]]),
  (5, true, [true, true, true, true, true], [o0 5 (.iload 4), o0 7 (.aload_n 0), oN 8 (.getfield 85) [6, 3, 825], oN 11 (.if_icmp .ge 35) [4], o0 14 (.iload_n 3), o0 15 (.iload_n 2), o0 16 (.iload 4), o0 18 .ishr, oK 19 (.iconst 1) (.int 1), o0 20 .iand, oK 21 (.iconst 1) (.int 1), oN 22 (.if_icmp .ne 15) [2], o0 25 (.aload_n 0), oN 26 (.getfield 7) [6, 0, 822], o0 29 (.iload_n 1), o0 30 (.iload 4), o0 32 .iadd, o0 33 .iaload, oN 34 (.goto 4) [3]]),
  (37, false, [true, true, true, false, true], [oK 37 (.iconst 0) (.int 0), oN 38 .nop [3]]),
  (38, false, [true, true, true, false, true], [o0 38 .ior, o0 39 (.istore_n 3), oK 40 (.iinc 4 1) (.int 1), oN 43 (.goto (-38)) [1]]),
  (46, false, [false, false, false, true, false], [o0 46 (.iload_n 3), o0 47 .ireturn])]
set_option maxRecDepth 100000 in
theorem ck_X6_allOf : s_ck RX6 cX6_allOf 5 0 0 k_X6_allOf = true := by decide +kernel

set_option maxRecDepth 100000 in
set_option maxHeartbeats 1000000 in
theorem ok_X6_allOf : s_Ok c_X6_allOf := by
  refine s_ok_of k_X6_allOf (by decide +kernel) sta_X6_allOf ck_X6_allOf trivial ?_
  rintro vs L ⟨s, A, R, g, n, rfl, rfl, hn, hn8, hR⟩
  refine ⟨rfl, fun G hG => ?_⟩
  have loop : ∀ (k i : Nat) (x a : Int32), i + k = n → x = nI i → a = p_ga (fun i => A 1 (R + i)) i g → G 1 [some (.ref 0), some (.int (nI R)), some (.int g), some (.int a), some (.int x)] [] (mdW s A) := by
    intro k
    induction k with
    | zero =>
      intro i x a hi hx ha
      refine hG 1 _ _ _ (And.intro (fun h => ?_) (fun h => ?_))
      · have h : x < s 3 := h
        rw [hx, hn, nI_ltI (by omega) (by omega)] at h; omega
      · refine ⟨rfl, ?_, fun _ => rfl⟩
        show some (Value.int a) = some (Value.int (p_ga (fun i => A 1 ((nI R).toNatClampNeg + i)) (s 3).toNatClampNeg g))
        rw [ha, hn, nI_clamp (by omega), nI_clamp (by omega), show i = n by omega]
    | succ k ih =>
      intro i x a hi hx ha
      refine hG 1 _ _ _ (And.intro (fun h => ?_) (fun h => ?_))
      · refine And.intro (fun h2 => ?_) (fun h2 => ?_)
        · have h3 : ¬ p_hb g x = 0 := fun q => p_hb_0.mp q h2
          have e : nI R + x = nI (R + i) := by rw [hx, nI_add]
          refine And.intro ?_ ?_
          · show vp_in (nI R + x) 159
            rw [e]; exact vp_in_nI (by omega) (by omega)
          · refine ih (i + 1) _ _ (by omega) (by rw [hx, nI_1]) ?_
            rw [p_ga, ← hx, if_neg h3, ← ha, e, nI_clamp (by omega)]
        · have h3 : p_hb g x = 0 := p_hb_0.mpr h2
          exact ih (i + 1) _ _ (by omega) (by rw [hx, nI_1]) (by rw [p_ga, ← hx, if_pos h3, ← ha, p_or0])
      · have h : ¬ x < s 3 := h
        rw [hx, hn, nI_ltI (by omega) (by omega)] at h; omega
  exact hG 0 _ _ _ (loop n 0 _ _ (by omega) nI_0.symm rfl)
/-- ones, what is needed, what clashes, out of st -/
def mOn (A : Nat → Nat → Int32) : Nat → Int32 := fun i => A 1 (2 + i)
def mNd (A : Nat → Nat → Int32) : Nat → Int32 := fun i => A 1 (10 + i)
def mCl (A : Nat → Nat → Int32) : Nat → Int32 := fun i => A 1 (18 + i)
def p_fw (nd : Nat → Int32) (n : Nat) (g : Int32) : Int32 := p_it nd n 0 g 8
def c_X6_follow : sCtr := ((yX6_follow, cX6_follow, 4, (some .int)), (7, 1, 1, 24), true,
  mdfp,
  fun vs L => ∃ (s : Nat → Int32) (A : Nat → Nat → Int32) (g : Int32) (n : Nat), vs = [.ref 0, .int g] ∧ L = mdW s A ∧ s 3 = nI n ∧ n ≤ 8,
  fun vs L r _ => r = some (.int (p_fw (mNd (bF L)) (oI L 0 3).toNatClampNeg (vI vs 1))))
theorem sta_X6_follow : s_Sta c_X6_follow := ⟨⟨by decide +kernel, by decide +kernel, by decide +kernel⟩, List.mem_of_getElem? (i := 1022) (by decide +kernel), List.mem_of_getElem? (i := 70) (by decide +kernel), ⟨List.mem_of_getElem? (i := 1021) (by decide +kernel), List.mem_of_getElem? (i := 46) (by decide +kernel), Or.inl ⟨_, rfl, rfl⟩⟩⟩

def k_X6_follow : List sBk := [
  (0, false, [true, true, false, false], [o0 0 (.iload_n 1), o0 1 (.istore_n 2), oK 2 (.iconst 0) (.int 0), o0 3 (.istore_n 3), oN 4 .nop [1]]),
  (4, true, [true, false, true, true], [o0 4 (.iload_n 3), oK 5 (.bipush 8) (.int 8), oN 7 (.if_icmp .ge 19) [2], o0 10 (.iload_n 2), o0 11 (.aload_n 0), oK 12 (.bipush 10) (.int 10), o0 14 (.iload_n 2), oC 15 (.invokevirtual 182) [1023] c_X6_allOf, o0 18 .ior, o0 19 (.istore_n 2), oK 20 (.iinc 3 1) (.int 1), oN 23 (.goto (-19)) [1]]),
  (26, false, [false, false, true, false], [o0 26 (.iload_n 2), o0 27 .ireturn])]
set_option maxRecDepth 100000 in
theorem ck_X6_follow : s_ck RX6 cX6_follow 4 1 24 k_X6_follow = true := by decide +kernel

set_option maxRecDepth 100000 in
set_option maxHeartbeats 1000000 in
theorem ok_X6_follow : s_Ok c_X6_follow := by
  refine s_ok_of k_X6_follow (by decide +kernel) sta_X6_follow ck_X6_follow (And.intro ok_X6_allOf trivial) ?_
  rintro vs L ⟨s, A, g, n, rfl, rfl, hn, hn8⟩
  refine ⟨rfl, fun G hG => ?_⟩
  have e : (s 3).toNatClampNeg = n := by rw [hn, nI_clamp (by omega)]
  have loop : ∀ (k i : Nat) (x a : Int32), i + k = 8 → x = nI i → a = p_it (mNd A) n 0 g i → G 1 [some (.ref 0), none, some (.int a), some (.int x)] [] (mdW s A) := by
    intro k
    induction k with
    | zero =>
      intro i x a hi hx ha
      refine hG 1 _ _ _ (And.intro (fun h => ?_) (fun h => ?_))
      · rw [hx, show (8 : Int32) = nI 8 from rfl, nI_ltI (by omega) (by omega)] at h; omega
      · refine ⟨rfl, ?_, fun _ => rfl⟩
        show some (Value.int a) = some (Value.int (p_fw (mNd A) (s 3).toNatClampNeg g))
        rw [ha, e, p_fw, show i = 8 by omega]
    | succ k ih =>
      intro i x a hi hx ha
      refine hG 1 _ _ _ (And.intro (fun h => ?_) (fun h => ?_))
      · refine And.intro ⟨s, A, 10, a, n, rfl, rfl, hn, hn8, by omega⟩ ?_
        intro r hr
        obtain rfl : r = some (.int (p_ga (mNd A) (s 3).toNatClampNeg a)) := hr
        refine ih (i + 1) _ _ (by omega) (by rw [hx, nI_1]) ?_
        rw [p_it, p_st, ← ha, p_andm1, e]
      · rw [hx, show (8 : Int32) = nI 8 from rfl, nI_ltI (by omega) (by omega)] at h; omega
  exact hG 0 _ _ _ (loop 8 0 _ _ (by omega) nI_0.symm rfl)
end
section
/-! ===== WishClerkModel: ones, wishes, refusal, rows' steps ===== -/
theorem wide_lt (a b : Int32) : a.toInt64 < b.toInt64 ↔ a < b := by
  rw [Int64.lt_iff_toInt_lt, Int32.lt_iff_toInt_lt, Int32.toInt_toInt64, Int32.toInt_toInt64]
theorem p_in64_01 (v lo hi : Int64) : p_in64 v lo hi = 0 ∨ p_in64 v lo hi = 1 := by
  unfold p_in64
  by_cases h : v < lo
  · rw [if_pos h]; exact Or.inl rfl
  · rw [if_neg h]
    by_cases h2 : hi < v
    · rw [if_pos h2]; exact Or.inl rfl
    · rw [if_neg h2]; exact Or.inr rfl
/-- between lo and hi, as ints -/
theorem p_in64_i (p lo hi : Int32) : p_in64 p.toInt64 lo.toInt64 hi.toInt64 = if p < lo then 0 else if hi < p then 0 else 1 := by
  unfold p_in64
  simp only [wide_lt]
theorem p_in64_in (p : Int32) {m : Nat} (hm : m ≤ 256) : p_in64 p.toInt64 0 (nI m - 1).toInt64 = p_in (nI m) p := by
  have e := p_in64_i p 0 (nI m - 1)
  rw [show (0 : Int32).toInt64 = 0 from rfl] at e
  rw [e, p_in]
  by_cases h : p < 0
  · rw [if_pos h, if_pos h]
  · rw [if_neg h, if_neg h]
    obtain ⟨j, hj, rfl⟩ := nI_of h
    have e1 : (nI m - 1).toInt = (m : Int) - 1 := pk_sub_toInt (b := 1) (by omega) (by omega)
    by_cases h2 : j < m
    · rw [if_neg, if_pos ((nI_ltI hj (by omega)).mpr h2)]
      rw [Int32.lt_iff_toInt_lt, e1, nI_toInt hj]; omega
    · rw [if_pos, if_neg (fun q => h2 ((nI_ltI hj (by omega)).mp q))]
      rw [Int32.lt_iff_toInt_lt, e1, nI_toInt hj]; omega
theorem p_in_01 (y p : Int32) : p_in y p = 0 ∨ p_in y p = 1 := by
  unfold p_in
  by_cases h : p < 0
  · rw [if_pos h]; exact Or.inl rfl
  · rw [if_neg h]
    by_cases h2 : p < y
    · rw [if_pos h2]; exact Or.inr rfl
    · rw [if_neg h2]; exact Or.inl rfl
def c_X6_isOne : sCtr := ((yX6_isOne, cX6_isOne, 2, (some .boolean)), (7, 1, 1, 25), true,
  mdfp,
  fun vs L => ∃ (s : Nat → Int32) (A : Nat → Nat → Int32) (p : Int32) (m : Nat), vs = [.ref 0, .int p] ∧ L = mdW s A ∧ s 2 = nI m ∧ m ≤ 8,
  fun vs L r _ => r = some (.int (p_in (oI L 0 2) (vI vs 1))))
theorem sta_X6_isOne : s_Sta c_X6_isOne := ⟨⟨by decide +kernel, by decide +kernel, by decide +kernel⟩, List.mem_of_getElem? (i := 1038) (by decide +kernel), List.mem_of_getElem? (i := 70) (by decide +kernel), ⟨List.mem_of_getElem? (i := 1037) (by decide +kernel), List.mem_of_getElem? (i := 48) (by decide +kernel), Or.inl ⟨_, rfl, rfl⟩⟩⟩

def k_X6_isOne : List sBk := [
  (0, false, [true, true], [o0 0 (.iload_n 1), o0 1 .i2l, oK 2 (.lconst 0) (.long 0), o0 3 (.aload_n 0), oN 4 (.getfield 82) [6, 2, 824], oK 7 (.iconst 1) (.int 1), o0 8 .isub, o0 9 .i2l, oC 10 (.invokestatic 90) [921] c_X6_in, o0 13 .ireturn])]
set_option maxRecDepth 100000 in
theorem ck_X6_isOne : s_ck RX6 cX6_isOne 2 1 25 k_X6_isOne = true := by decide +kernel

set_option maxRecDepth 100000 in
set_option maxHeartbeats 1000000 in
theorem ok_X6_isOne : s_Ok c_X6_isOne := by
  refine s_ok_of k_X6_isOne (by decide +kernel) sta_X6_isOne ck_X6_isOne (And.intro ok_X6_in trivial) ?_
  rintro vs L ⟨s, A, p, m, rfl, rfl, hm, hm8⟩
  refine ⟨rfl, fun G hG => ?_⟩
  refine hG 0 _ _ _ (And.intro ⟨_, _, _, rfl⟩ ?_)
  intro r hr
  obtain rfl : r = some (.int (p_in (s 2) p)) := by
    have h1 : r = some (.int (p_in64 p.toInt64 0 (s 2 - 1).toInt64)) := hr
    rw [h1, hm, p_in64_in p (by omega)]
  exact And.intro (p_in_01 _ _) ⟨rfl, rfl, fun _ => rfl⟩
def c_X6_isWish : sCtr := ((yX6_isWish, cX6_isWish, 2, (some .boolean)), (7, 1, 1, 25), true,
  mdfp,
  fun vs L => ∃ (s : Nat → Int32) (A : Nat → Nat → Int32) (p : Int32) (m : Nat), vs = [.ref 0, .int p] ∧ L = mdW s A ∧ s 3 = nI m ∧ m ≤ 8,
  fun vs L r _ => r = some (.int (p_in (oI L 0 3) (vI vs 1))))
theorem sta_X6_isWish : s_Sta c_X6_isWish := ⟨⟨by decide +kernel, by decide +kernel, by decide +kernel⟩, List.mem_of_getElem? (i := 1018) (by decide +kernel), List.mem_of_getElem? (i := 70) (by decide +kernel), ⟨List.mem_of_getElem? (i := 1017) (by decide +kernel), List.mem_of_getElem? (i := 45) (by decide +kernel), Or.inl ⟨_, rfl, rfl⟩⟩⟩

def k_X6_isWish : List sBk := [
  (0, false, [true, true], [o0 0 (.iload_n 1), o0 1 .i2l, oK 2 (.lconst 0) (.long 0), o0 3 (.aload_n 0), oN 4 (.getfield 85) [6, 3, 825], oK 7 (.iconst 1) (.int 1), o0 8 .isub, o0 9 .i2l, oC 10 (.invokestatic 90) [921] c_X6_in, o0 13 .ireturn])]
set_option maxRecDepth 100000 in
theorem ck_X6_isWish : s_ck RX6 cX6_isWish 2 1 25 k_X6_isWish = true := by decide +kernel

set_option maxRecDepth 100000 in
set_option maxHeartbeats 1000000 in
theorem ok_X6_isWish : s_Ok c_X6_isWish := by
  refine s_ok_of k_X6_isWish (by decide +kernel) sta_X6_isWish ck_X6_isWish (And.intro ok_X6_in trivial) ?_
  rintro vs L ⟨s, A, p, m, rfl, rfl, hm, hm8⟩
  refine ⟨rfl, fun G hG => ?_⟩
  refine hG 0 _ _ _ (And.intro ⟨_, _, _, rfl⟩ ?_)
  intro r hr
  obtain rfl : r = some (.int (p_in (s 3) p)) := by
    have h1 : r = some (.int (p_in64 p.toInt64 0 (s 3 - 1).toInt64)) := hr
    rw [h1, hm, p_in64_in p (by omega)]
  exact And.intro (p_in_01 _ _) ⟨rfl, rfl, fun _ => rfl⟩
def p_bo (x : Int32) : Nat → Int32
  | 0 => 0
  | k + 1 => p_bo x k + p_hb x (nI k)
def c_X6_bitsOf : sCtr := ((yX6_bitsOf, cX6_bitsOf, 3, (some .int)), (0, 1, 0, 0), true,
  fun _ _ => [],
  fun vs _ => ∃ x : Int32, vs = [.int x],
  fun vs _ r _ => r = some (.int (p_bo (vI vs 0) 8)))
theorem sta_X6_bitsOf : s_Sta c_X6_bitsOf := ⟨⟨by decide +kernel, by decide +kernel, by decide +kernel⟩, List.mem_of_getElem? (i := 1107) (by decide +kernel), List.mem_of_getElem? (i := 70) (by decide +kernel), List.mem_of_getElem? (i := 1106) (by decide +kernel)⟩

def k_X6_bitsOf : List sBk := [
  (0, false, [true, false, false], [oK 0 (.iconst 0) (.int 0), o0 1 (.istore_n 1), oK 2 (.iconst 0) (.int 0), o0 3 (.istore_n 2), oN 4 .nop [1]]),
  (4, true, [true, true, true], [o0 4 (.iload_n 2), oK 5 (.bipush 8) (.int 8), oN 7 (.if_icmp .ge 17) [2], o0 10 (.iload_n 1), o0 11 (.iload_n 0), o0 12 (.iload_n 2), o0 13 .ishr, oK 14 (.iconst 1) (.int 1), o0 15 .iand, o0 16 .iadd, o0 17 (.istore_n 1), oK 18 (.iinc 2 1) (.int 1), oN 21 (.goto (-17)) [1]]),
  (24, false, [false, true, false], [o0 24 (.iload_n 1), o0 25 .ireturn])]
set_option maxRecDepth 100000 in
theorem ck_X6_bitsOf : s_ck RX6 cX6_bitsOf 3 0 0 k_X6_bitsOf = true := by decide +kernel

set_option maxRecDepth 100000 in
set_option maxHeartbeats 1000000 in
theorem ok_X6_bitsOf : s_Ok c_X6_bitsOf := by
  refine s_ok_of k_X6_bitsOf (by decide +kernel) sta_X6_bitsOf ck_X6_bitsOf trivial ?_
  rintro vs L ⟨g, rfl⟩
  refine ⟨rfl, fun G hG => ?_⟩
  have loop : ∀ (k i : Nat) (x a : Int32), i + k = 8 → x = nI i → a = p_bo g i → G 1 [some (.int g), some (.int a), some (.int x)] [] L := by
    intro k
    induction k with
    | zero =>
      intro i x a hi hx ha
      refine hG 1 _ _ _ (And.intro (fun h => ?_) (fun h => ?_))
      · rw [hx, show (8 : Int32) = nI 8 from rfl, nI_ltI (by omega) (by omega)] at h; omega
      · refine ⟨rfl, ?_, fun _ => rfl⟩
        show some (Value.int a) = some (Value.int (p_bo g 8))
        rw [ha, show i = 8 by omega]
    | succ k ih =>
      intro i x a hi hx ha
      refine hG 1 _ _ _ (And.intro (fun h => ?_) (fun h => ?_))
      · refine ih (i + 1) _ _ (by omega) (by rw [hx, nI_1]) ?_
        rw [p_bo, ← ha, ← hx, p_hb_v]
      · rw [hx, show (8 : Int32) = nI 8 from rfl, nI_ltI (by omega) (by omega)] at h; omega
  exact hG 0 _ _ _ (loop 8 0 _ _ (by omega) nI_0.symm rfl)
def c_X6_looksAt : sCtr := ((yX6_looksAt, cX6_looksAt, 6, (some .int)), (7, 3, 1, 24), true,
  mdfp,
  fun vs L => ∃ (s : Nat → Int32) (A : Nat → Nat → Int32) (w h e : Int32) (n d : Nat), vs = [.ref 0, .int w, .int h, .int e] ∧ L = mdW s A ∧ s 3 = nI n ∧ n ≤ 8 ∧ e = nI d ∧ d ≤ 8,
  fun vs L r _ => r = some (.int (p_it (mNd (bF L)) (oI L 0 3).toNatClampNeg (vI vs 2) ((1 : Int32) <<< (vI vs 1 &&& 31)) (vI vs 3).toNatClampNeg)))
theorem sta_X6_looksAt : s_Sta c_X6_looksAt := ⟨⟨by decide +kernel, by decide +kernel, by decide +kernel⟩, List.mem_of_getElem? (i := 1087) (by decide +kernel), List.mem_of_getElem? (i := 70) (by decide +kernel), ⟨List.mem_of_getElem? (i := 1086) (by decide +kernel), List.mem_of_getElem? (i := 51) (by decide +kernel), Or.inl ⟨_, rfl, rfl⟩⟩⟩

def k_X6_looksAt : List sBk := [
  (0, false, [true, true, true, true, false, false], [oK 0 (.iconst 1) (.int 1), o0 1 (.iload_n 1), o0 2 .ishl, o0 3 (.istore 4), oK 5 (.iconst 0) (.int 0), o0 6 (.istore 5), oN 8 .nop [1]]),
  (8, true, [true, false, true, true, true, true], [o0 8 (.iload 5), o0 10 (.iload_n 3), oN 11 (.if_icmp .ge 26) [2], o0 14 (.iload 4), o0 16 (.aload_n 0), oK 17 (.bipush 10) (.int 10), o0 19 (.iload 4), oC 21 (.invokevirtual 182) [1023] c_X6_allOf, o0 24 (.iload_n 2), oK 25 (.iconst (-1)) (.int (-1)), o0 26 .ixor, o0 27 .iand, o0 28 .ior, o0 29 (.istore 4), oK 31 (.iinc 5 1) (.int 1), oN 34 (.goto (-26)) [1]]),
  (37, false, [false, false, false, false, true, false], [o0 37 (.iload 4), o0 39 .ireturn])]
set_option maxRecDepth 100000 in
theorem ck_X6_looksAt : s_ck RX6 cX6_looksAt 6 1 24 k_X6_looksAt = true := by decide +kernel

set_option maxRecDepth 100000 in
set_option maxHeartbeats 1000000 in
theorem ok_X6_looksAt : s_Ok c_X6_looksAt := by
  refine s_ok_of k_X6_looksAt (by decide +kernel) sta_X6_looksAt ck_X6_looksAt (And.intro ok_X6_allOf trivial) ?_
  rintro vs L ⟨s, A, w, h, e, n, d, rfl, rfl, hn, hn8, he, hd⟩
  refine ⟨rfl, fun G hG => ?_⟩
  have e3 : (s 3).toNatClampNeg = n := by rw [hn, nI_clamp (by omega)]
  have loop : ∀ (k i : Nat) (x a : Int32), i + k = d → x = nI i → a = p_it (mNd A) n h ((1 : Int32) <<< (w &&& 31)) i → G 1 [some (.ref 0), none, some (.int h), some (.int e), some (.int a), some (.int x)] [] (mdW s A) := by
    intro k
    induction k with
    | zero =>
      intro i x a hi hx ha
      refine hG 1 _ _ _ (And.intro (fun q => ?_) (fun q => ?_))
      · rw [hx, he, nI_ltI (by omega) (by omega)] at q; omega
      · refine ⟨rfl, ?_, fun _ => rfl⟩
        show some (Value.int a) = some (Value.int (p_it (mNd A) (s 3).toNatClampNeg h ((1 : Int32) <<< (w &&& 31)) e.toNatClampNeg))
        rw [ha, e3, he, nI_clamp (by omega), show i = d by omega]
    | succ k ih =>
      intro i x a hi hx ha
      refine hG 1 _ _ _ (And.intro (fun q => ?_) (fun q => ?_))
      · refine And.intro ⟨s, A, 10, a, n, rfl, rfl, hn, hn8, by omega⟩ ?_
        intro r hr
        obtain rfl : r = some (.int (p_ga (mNd A) (s 3).toNatClampNeg a)) := hr
        refine ih (i + 1) _ _ (by omega) (by rw [hx, nI_1]) ?_
        rw [p_it, p_st, ← ha, e3]
      · rw [hx, he, nI_ltI (by omega) (by omega)] at q; omega
  exact hG 0 _ _ _ (loop d 0 _ _ (by omega) nI_0.symm rfl)
def c_X6_doClash : sCtr := ((yX6_doClash, cX6_doClash, 3, (some .boolean)), (7, 2, 1, 24), true,
  mdfp,
  fun vs L => ∃ (s : Nat → Int32) (A : Nat → Nat → Int32) (g h : Int32) (n : Nat), vs = [.ref 0, .int g, .int h] ∧ L = mdW s A ∧ s 3 = nI n ∧ n ≤ 8,
  fun vs L r _ => r = some (.int (if p_ga (mCl (bF L)) (oI L 0 3).toNatClampNeg (vI vs 1) &&& vI vs 2 = 0 then 0 else 1)))
theorem sta_X6_doClash : s_Sta c_X6_doClash := ⟨⟨by decide +kernel, by decide +kernel, by decide +kernel⟩, List.mem_of_getElem? (i := 1099) (by decide +kernel), List.mem_of_getElem? (i := 70) (by decide +kernel), ⟨List.mem_of_getElem? (i := 1098) (by decide +kernel), List.mem_of_getElem? (i := 53) (by decide +kernel), Or.inl ⟨_, rfl, rfl⟩⟩⟩

def k_X6_doClash : List sBk := [
  (0, false, [true, true, true], [o0 0 (.aload_n 0), oK 1 (.bipush 18) (.int 18), o0 3 (.iload_n 1), oC 4 (.invokevirtual 182) [1023] c_X6_allOf, o0 7 (.iload_n 2), o0 8 .iand, oN 9 (.ifCond .eq 7) [1], oK 12 (.iconst 1) (.int 1), oN 13 (.goto 4) [2]]),
  (16, false, [false, false, false], [oK 16 (.iconst 0) (.int 0), oN 17 .nop [2]]),
  (17, false, [false, false, false], [o0 17 .ireturn])]
set_option maxRecDepth 100000 in
theorem ck_X6_doClash : s_ck RX6 cX6_doClash 3 1 24 k_X6_doClash = true := by decide +kernel

set_option maxRecDepth 100000 in
set_option maxHeartbeats 1000000 in
theorem ok_X6_doClash : s_Ok c_X6_doClash := by
  refine s_ok_of k_X6_doClash (by decide +kernel) sta_X6_doClash ck_X6_doClash (And.intro ok_X6_allOf trivial) ?_
  rintro vs L ⟨s, A, g, h, n, rfl, rfl, hn, hn8⟩
  refine ⟨rfl, fun G hG => ?_⟩
  refine hG 0 _ _ _ (And.intro ⟨s, A, 18, g, n, rfl, rfl, hn, hn8, by omega⟩ ?_)
  intro r hr
  obtain rfl : r = some (.int (p_ga (mCl A) (s 3).toNatClampNeg g)) := hr
  refine And.intro (fun q => ?_) (fun q => ?_)
  · refine And.intro (Or.inl rfl) ⟨rfl, ?_, fun _ => rfl⟩
    show some (Value.int 0) = some (Value.int (if p_ga (mCl A) (s 3).toNatClampNeg g &&& h = 0 then 0 else 1))
    rw [if_pos q]
  · refine And.intro (Or.inr rfl) ⟨rfl, ?_, fun _ => rfl⟩
    show some (Value.int 1) = some (Value.int (if p_ga (mCl A) (s 3).toNatClampNeg g &&& h = 0 then 0 else 1))
    rw [if_neg q]
def c_X6_refusal : sCtr := ((yX6_refusal, cX6_refusal, 7, (some .int)), (7, 5, 2, 49), true,
  mdfp,
  fun vs L => ∃ (s : Nat → Int32) (A : Nat → Nat → Int32) (w h a e li : Int32) (n d : Nat), vs = [.ref 0, .int w, .int h, .int a, .int e, .int li] ∧ L = mdW s A ∧ s 3 = nI n ∧ n ≤ 8 ∧ e = nI d ∧ d ≤ 8,
  fun vs L r _ => r = some (.int (p_re (mOn (bF L)) (mNd (bF L)) (mCl (bF L)) (oI L 0 3).toNatClampNeg (vI vs 5) (bF L 1 1) (vI vs 1) (vI vs 2) (vI vs 3) (vI vs 4).toNatClampNeg)))
theorem sta_X6_refusal : s_Sta c_X6_refusal := ⟨⟨by decide +kernel, by decide +kernel, by decide +kernel⟩, List.mem_of_getElem? (i := 1095) (by decide +kernel), List.mem_of_getElem? (i := 70) (by decide +kernel), ⟨List.mem_of_getElem? (i := 1094) (by decide +kernel), List.mem_of_getElem? (i := 52) (by decide +kernel), Or.inl ⟨_, rfl, rfl⟩⟩⟩

def k_X6_refusal : List sBk := [
  (0, false, [true, true, true, true, true, true, false], [o0 0 (.aload_n 0), o0 1 (.iload_n 1), o0 2 (.iload_n 2), o0 3 (.iload 4), oC 5 (.invokevirtual 204) [1084] c_X6_looksAt, o0 8 (.istore 6), o0 10 (.iload 5), o0 12 (.iload_n 1), o0 13 .ishr, oK 14 (.iconst 1) (.int 1), o0 15 .iand, oK 16 (.iconst 1) (.int 1), oN 17 (.if_icmp .ne 5) [1], oK 20 (.iconst 1) (.int 1), o0 21 .ireturn]),
  (22, false, [true, false, true, true, false, false, true], [o0 22 (.aload_n 0), oK 23 (.iconst 2) (.int 2), o0 24 (.iload 6), oC 26 (.invokevirtual 182) [1023] c_X6_allOf, o0 29 (.aload_n 0), oN 30 (.getfield 7) [6, 0, 822], oK 33 (.iconst 1) (.int 1), o0 34 .iaload, o0 35 .iand, o0 36 (.iload_n 3), oK 37 (.iconst (-1)) (.int (-1)), o0 38 .ixor, o0 39 .iand, oN 40 (.ifCond .eq 5) [2], oK 43 (.iconst 2) (.int 2), o0 44 .ireturn]),
  (45, false, [true, false, true, false, false, false, true], [o0 45 (.aload_n 0), o0 46 (.iload 6), o0 48 (.iload 6), o0 50 (.iload_n 2), o0 51 .ior, oC 52 (.invokevirtual 208) [1096] c_X6_doClash, oN 55 (.ifCond .eq 7) [3], oK 58 (.iconst 3) (.int 3), oN 59 (.goto 4) [4]]),
  (62, false, [false, false, false, false, false, false, false], [oK 62 (.iconst 0) (.int 0), oN 63 .nop [4]]),
  (63, false, [false, false, false, false, false, false, false], [o0 63 .ireturn])]
set_option maxRecDepth 100000 in
theorem ck_X6_refusal : s_ck RX6 cX6_refusal 7 2 49 k_X6_refusal = true := by decide +kernel

set_option maxRecDepth 100000 in
set_option maxHeartbeats 1000000 in
theorem ok_X6_refusal : s_Ok c_X6_refusal := by
  refine s_ok_of k_X6_refusal (by decide +kernel) sta_X6_refusal ck_X6_refusal (And.intro ok_X6_looksAt (And.intro ok_X6_allOf (And.intro ok_X6_doClash trivial))) ?_
  rintro vs L ⟨s, A, w, h, a, e, li, n, d, rfl, rfl, hn, hn8, he, hd⟩
  refine ⟨rfl, fun G hG => ?_⟩
  have e3 : (s 3).toNatClampNeg = n := by rw [hn, nI_clamp (by omega)]
  have fin : ∀ a2 : Int32, a2 = p_re (mOn A) (mNd A) (mCl A) (s 3).toNatClampNeg li (A 1 1) w h a e.toNatClampNeg → s_PP (some .int) true c_X6_refusal.2.2.2.2.2 [.ref 0, .int w, .int h, .int a, .int e, .int li] (mdW s A) (some (.int a2)) (mdW s A) := fun a2 ha => ⟨rfl, by rw [ha]; rfl, fun _ => rfl⟩
  refine hG 0 _ _ _ (And.intro ⟨s, A, w, h, e, n, d, rfl, rfl, hn, hn8, he, hd⟩ ?_)
  intro r hr
  obtain ⟨g, hg⟩ : ∃ g, g = p_it (mNd A) (s 3).toNatClampNeg h ((1 : Int32) <<< (w &&& 31)) e.toNatClampNeg := ⟨_, rfl⟩
  obtain rfl : r = some (.int g) := by rw [hg]; exact hr
  refine And.intro (fun h1 => ?_) (fun h1 => ?_)
  · exact fin _ (by rw [p_re, if_neg (fun q => p_hb_0.mp q h1)])
  · have h1 : p_hb li w = 0 := p_hb_0.mpr h1
    refine And.intro ⟨s, A, 2, g, n, rfl, rfl, hn, hn8, by omega⟩ ?_
    intro r hr
    obtain rfl : r = some (.int (p_ga (mOn A) (s 3).toNatClampNeg g)) := hr
    refine And.intro (vp_in_nI (n := 1) (N := 159) (by decide) (by decide)) (And.intro (fun h2 => ?_) (fun h2 => ?_))
    · have h2 : p_ga (mOn A) (s 3).toNatClampNeg g &&& A 1 1 &&& (a ^^^ (-1)) = 0 := h2
      refine And.intro ⟨s, A, _, _, n, rfl, rfl, hn, hn8⟩ ?_
      intro r hr
      obtain rfl : r = some (.int (if p_ga (mCl A) (s 3).toNatClampNeg g &&& (g ||| h) = 0 then 0 else 1)) := hr
      by_cases h3 : p_ga (mCl A) (s 3).toNatClampNeg g &&& (g ||| h) = 0
      · refine And.intro (fun _ => ?_) (fun q => ?_)
        · exact fin _ (by rw [p_re, if_pos h1, ← hg, if_pos h2, if_pos h3])
        · rw [if_pos h3] at q; exact absurd rfl q
      · refine And.intro (fun q => ?_) (fun _ => ?_)
        · rw [if_neg h3] at q; exact absurd q (by decide)
        · exact fin _ (by rw [p_re, if_pos h1, ← hg, if_pos h2, if_neg h3])
    · have h2 : ¬ p_ga (mOn A) (s 3).toNatClampNeg g &&& A 1 1 &&& (a ^^^ (-1)) = 0 := h2
      exact fin _ (by rw [p_re, if_pos h1, ← hg, if_neg h2])
/-- takenBy, as it is written -/
def p_tk (nd : Nat → Int32) (n : Nat) (g h : Int32) : Nat → Int32
  | 0 => 0
  | k + 1 => if p_hb h (nI k) = 0 then p_tk nd n g h k else if p_fw nd n ((1 : Int32) <<< (nI k &&& 31)) &&& g = 0 then p_tk nd n g h k else p_tk nd n g h k ||| ((1 : Int32) <<< (nI k &&& 31))
theorem p_sh0 (x : Int32) : (0 : Int32) <<< (x &&& 31) = 0 := by
  apply Int32.toBitVec_inj.mp
  simp
def c_X6_takenBy : sCtr := ((yX6_takenBy, cX6_takenBy, 5, (some .int)), (7, 2, 2, 47), true,
  mdfp,
  fun vs L => ∃ (s : Nat → Int32) (A : Nat → Nat → Int32) (g h : Int32) (n : Nat), vs = [.ref 0, .int g, .int h] ∧ L = mdW s A ∧ s 3 = nI n ∧ n ≤ 8,
  fun vs L r _ => r = some (.int (p_tk (mNd (bF L)) (oI L 0 3).toNatClampNeg (vI vs 1) (vI vs 2) (oI L 0 3).toNatClampNeg)))
theorem sta_X6_takenBy : s_Sta c_X6_takenBy := ⟨⟨by decide +kernel, by decide +kernel, by decide +kernel⟩, List.mem_of_getElem? (i := 1115) (by decide +kernel), List.mem_of_getElem? (i := 70) (by decide +kernel), ⟨List.mem_of_getElem? (i := 1114) (by decide +kernel), List.mem_of_getElem? (i := 54) (by decide +kernel), Or.inl ⟨_, rfl, rfl⟩⟩⟩

def k_X6_takenBy : List sBk := [
  (0, false, [true, true, true, false, false], [oK 0 (.iconst 0) (.int 0), o0 1 (.istore_n 3), oK 2 (.iconst 0) (.int 0), o0 3 (.istore 4), oN 5 .nop [1]]),
  (5, true, [true, true, true, true, true], [o0 5 (.iload 4), o0 7 (.aload_n 0), oN 8 (.getfield 85) [6, 3, 825], oN 11 (.if_icmp .ge 46) [4], o0 14 (.iload_n 3), o0 15 (.iload_n 2), o0 16 (.iload 4), o0 18 .ishr, oK 19 (.iconst 1) (.int 1), o0 20 .iand, oK 21 (.iconst 1) (.int 1), oN 22 (.if_icmp .ne 20) [2], o0 25 (.aload_n 0), oK 26 (.iconst 1) (.int 1), o0 27 (.iload 4), o0 29 .ishl, oC 30 (.invokevirtual 189) [1019] c_X6_follow, o0 33 (.iload_n 1), o0 34 .iand, oN 35 (.ifCond .eq 7) [2], oK 38 (.iconst 1) (.int 1), oN 39 (.goto 4) [3]]),
  (42, false, [true, true, true, false, true], [oK 42 (.iconst 0) (.int 0), oN 43 .nop [3]]),
  (43, false, [true, true, true, false, true], [oC 43 (.invokestatic 150) [976] c_X6_flag, o0 46 (.iload 4), o0 48 .ishl, o0 49 .ior, o0 50 (.istore_n 3), oK 51 (.iinc 4 1) (.int 1), oN 54 (.goto (-49)) [1]]),
  (57, false, [false, false, false, true, false], [o0 57 (.iload_n 3), o0 58 .ireturn])]
set_option maxRecDepth 100000 in
theorem ck_X6_takenBy : s_ck RX6 cX6_takenBy 5 2 47 k_X6_takenBy = true := by decide +kernel

set_option maxRecDepth 100000 in
set_option maxHeartbeats 1000000 in
theorem ok_X6_takenBy : s_Ok c_X6_takenBy := by
  refine s_ok_of k_X6_takenBy (by decide +kernel) sta_X6_takenBy ck_X6_takenBy (And.intro ok_X6_follow (And.intro ok_X6_flag trivial)) ?_
  rintro vs L ⟨s, A, g, h, n, rfl, rfl, hn, hn8⟩
  refine ⟨rfl, fun G hG => ?_⟩
  have e3 : (s 3).toNatClampNeg = n := by rw [hn, nI_clamp (by omega)]
  have loop : ∀ (k i : Nat) (x a : Int32), i + k = n → x = nI i → a = p_tk (mNd A) n g h i → G 1 [some (.ref 0), some (.int g), some (.int h), some (.int a), some (.int x)] [] (mdW s A) := by
    intro k
    induction k with
    | zero =>
      intro i x a hi hx ha
      refine hG 1 _ _ _ (And.intro (fun q => ?_) (fun q => ?_))
      · have q : x < s 3 := q
        rw [hx, hn, nI_ltI (by omega) (by omega)] at q; omega
      · refine ⟨rfl, ?_, fun _ => rfl⟩
        show some (Value.int a) = some (Value.int (p_tk (mNd A) (s 3).toNatClampNeg g h (s 3).toNatClampNeg))
        rw [ha, e3, show i = n by omega]
    | succ k ih =>
      intro i x a hi hx ha
      refine hG 1 _ _ _ (And.intro (fun q => ?_) (fun q => ?_))
      · refine And.intro (fun h1 => ?_) (fun h1 => ?_)
        · have h1 : ¬ p_hb h x = 0 := fun z => p_hb_0.mp z h1
          refine And.intro ⟨s, A, _, n, rfl, rfl, hn, hn8⟩ ?_
          intro r hr
          obtain rfl : r = some (.int (p_fw (mNd A) (s 3).toNatClampNeg ((1 : Int32) <<< (x &&& 31)))) := hr
          refine And.intro (fun h2 => ?_) (fun h2 => ?_)
          · have h2 : p_fw (mNd A) (s 3).toNatClampNeg ((1 : Int32) <<< (x &&& 31)) &&& g = 0 := h2
            rw [e3] at h2
            refine And.intro ⟨_, rfl⟩ ?_
            intro r hr
            obtain rfl : r = some (.int 0) := hr
            exact ih (i + 1) _ _ (by omega) (by rw [hx, nI_1]) (by rw [p_sh0, p_or0, p_tk, ← hx, if_neg h1, if_pos h2, ha])
          · have h2 : ¬ p_fw (mNd A) (s 3).toNatClampNeg ((1 : Int32) <<< (x &&& 31)) &&& g = 0 := h2
            rw [e3] at h2
            refine And.intro ⟨_, rfl⟩ ?_
            intro r hr
            obtain rfl : r = some (.int 1) := hr
            exact ih (i + 1) _ _ (by omega) (by rw [hx, nI_1]) (by rw [p_tk, ← hx, if_neg h1, if_neg h2, ha])
        · have h1 : p_hb h x = 0 := p_hb_0.mpr h1
          refine And.intro ⟨_, rfl⟩ ?_
          intro r hr
          obtain rfl : r = some (.int 0) := hr
          exact ih (i + 1) _ _ (by omega) (by rw [hx, nI_1]) (by rw [p_sh0, p_or0, p_tk, ← hx, if_pos h1, ha])
      · have q : ¬ x < s 3 := q
        rw [hx, hn, nI_ltI (by omega) (by omega)] at q; omega
  exact hG 0 _ _ _ (loop n 0 _ _ (by omega) nI_0.symm rfl)
/-- who lives where h holds -/
def p_lb (on nd : Nat → Int32) (n : Nat) (l0 h0 h : Int32) : Int32 := l0 ||| p_ga on n (p_fw nd n (h &&& (h0 ^^^ (-1))))
def p_lbM (s : Nat → Int32) (A : Nat → Nat → Int32) (h : Int32) : Int32 := p_lb (mOn A) (mNd A) (s 3).toNatClampNeg (A 1 0) (A 1 26) h
def c_X6_livingBy : sCtr := ((yX6_livingBy, cX6_livingBy, 2, (some .int)), (7, 1, 2, 47), true,
  mdfp,
  fun vs L => ∃ (s : Nat → Int32) (A : Nat → Nat → Int32) (h : Int32) (n : Nat), vs = [.ref 0, .int h] ∧ L = mdW s A ∧ s 3 = nI n ∧ n ≤ 8,
  fun vs L r _ => r = some (.int (p_lbM (oI L 0) (bF L) (vI vs 1))))
theorem sta_X6_livingBy : s_Sta c_X6_livingBy := ⟨⟨by decide +kernel, by decide +kernel, by decide +kernel⟩, List.mem_of_getElem? (i := 1137) (by decide +kernel), List.mem_of_getElem? (i := 70) (by decide +kernel), ⟨List.mem_of_getElem? (i := 1136) (by decide +kernel), List.mem_of_getElem? (i := 56) (by decide +kernel), Or.inl ⟨_, rfl, rfl⟩⟩⟩

def k_X6_livingBy : List sBk := [
  (0, false, [true, true], [o0 0 (.aload_n 0), oN 1 (.getfield 7) [6, 0, 822], oK 4 (.iconst 0) (.int 0), o0 5 .iaload, o0 6 (.aload_n 0), oK 7 (.iconst 2) (.int 2), o0 8 (.aload_n 0), o0 9 (.iload_n 1), o0 10 (.aload_n 0), oN 11 (.getfield 7) [6, 0, 822], oK 14 (.bipush 26) (.int 26), o0 16 .iaload, oK 17 (.iconst (-1)) (.int (-1)), o0 18 .ixor, o0 19 .iand, oC 20 (.invokevirtual 189) [1019] c_X6_follow, oC 23 (.invokevirtual 182) [1023] c_X6_allOf, o0 26 .ior, o0 27 .ireturn])]
set_option maxRecDepth 100000 in
theorem ck_X6_livingBy : s_ck RX6 cX6_livingBy 2 2 47 k_X6_livingBy = true := by decide +kernel

set_option maxRecDepth 100000 in
set_option maxHeartbeats 1000000 in
theorem ok_X6_livingBy : s_Ok c_X6_livingBy := by
  refine s_ok_of k_X6_livingBy (by decide +kernel) sta_X6_livingBy ck_X6_livingBy (And.intro ok_X6_follow (And.intro ok_X6_allOf trivial)) ?_
  rintro vs L ⟨s, A, h, n, rfl, rfl, hn, hn8⟩
  refine ⟨rfl, fun G hG => ?_⟩
  refine hG 0 _ _ _ (And.intro (vp_in_nI (n := 0) (N := 159) (by decide) (by decide)) (And.intro (vp_in_nI (n := 26) (N := 159) (by decide) (by decide)) (And.intro ⟨s, A, _, n, rfl, rfl, hn, hn8⟩ ?_)))
  intro r hr
  obtain rfl : r = some (.int (p_fw (mNd A) (s 3).toNatClampNeg (h &&& (A 1 26 ^^^ (-1))))) := hr
  refine And.intro ⟨s, A, 2, _, n, rfl, rfl, hn, hn8, by omega⟩ ?_
  intro r hr
  obtain rfl : r = some (.int (p_ga (mOn A) (s 3).toNatClampNeg (p_fw (mNd A) (s 3).toNatClampNeg (h &&& (A 1 26 ^^^ (-1)))))) := hr
  exact ⟨rfl, rfl, fun _ => rfl⟩
/-- what holds when w has been asked, or -4 -/
def p_as (on nd cl : Nat → Int32) (n : Nat) (l0 h0 ba w h : Int32) (d : Nat) (li : Int32) : Int32 := if p_hb h w = 0 then (if p_re on nd cl n li ba w h (p_lb on nd n l0 h0 h) d = 0 then h ||| p_fw nd n ((1 : Int32) <<< (w &&& 31)) else -4) else -4
def p_asM (s : Nat → Int32) (A : Nat → Nat → Int32) (w h e li : Int32) : Int32 := p_as (mOn A) (mNd A) (mCl A) (s 3).toNatClampNeg (A 1 0) (A 1 26) (A 1 1) w h e.toNatClampNeg li
def c_X6_askedBy : sCtr := ((yX6_askedBy, cX6_askedBy, 6, (some .int)), (7, 4, 3, 75), true,
  mdfp,
  fun vs L => ∃ (s : Nat → Int32) (A : Nat → Nat → Int32) (w h e li : Int32) (n d : Nat), vs = [.ref 0, .int w, .int h, .int e, .int li] ∧ L = mdW s A ∧ s 3 = nI n ∧ n ≤ 8 ∧ e = nI d ∧ d ≤ 8,
  fun vs L r _ => r = some (.int (p_asM (oI L 0) (bF L) (vI vs 1) (vI vs 2) (vI vs 3) (vI vs 4))))
theorem sta_X6_askedBy : s_Sta c_X6_askedBy := ⟨⟨by decide +kernel, by decide +kernel, by decide +kernel⟩, List.mem_of_getElem? (i := 1141) (by decide +kernel), List.mem_of_getElem? (i := 70) (by decide +kernel), ⟨List.mem_of_getElem? (i := 1140) (by decide +kernel), List.mem_of_getElem? (i := 57) (by decide +kernel), Or.inl ⟨_, rfl, rfl⟩⟩⟩

def k_X6_askedBy : List sBk := [
  (0, false, [true, true, true, true, true, false], [o0 0 (.iload_n 2), o0 1 (.iload_n 1), o0 2 .ishr, oK 3 (.iconst 1) (.int 1), o0 4 .iand, oN 5 (.ifCond .ne 24) [1], o0 8 (.aload_n 0), o0 9 (.iload_n 1), o0 10 (.iload_n 2), o0 11 (.aload_n 0), o0 12 (.iload_n 2), oC 13 (.invokevirtual 225) [1134] c_X6_livingBy, o0 16 (.iload_n 3), o0 17 (.iload 4), oC 19 (.invokevirtual 212) [1092] c_X6_refusal, oN 22 (.ifCond .ne 7) [1], oK 25 (.iconst 1) (.int 1), oN 26 (.goto 4) [2]]),
  (29, false, [true, true, true, false, false, false], [oK 29 (.iconst 0) (.int 0), oN 30 .nop [2]]),
  (30, false, [true, true, true, false, false, false], [o0 30 (.istore 5), o0 32 (.iload 5), oN 34 (.ifCond .eq 15) [3], o0 37 (.iload_n 2), o0 38 (.aload_n 0), oK 39 (.iconst 1) (.int 1), o0 40 (.iload_n 1), o0 41 .ishl, oC 42 (.invokevirtual 189) [1019] c_X6_follow, o0 45 .ior, oN 46 (.goto 5) [4]]),
  (49, false, [false, false, false, false, false, false], [oK 49 (.bipush (-4)) (.int (-4)), oN 51 .nop [4]]),
  (51, false, [false, false, false, false, false, false], [o0 51 .ireturn])]
set_option maxRecDepth 100000 in
theorem ck_X6_askedBy : s_ck RX6 cX6_askedBy 6 3 75 k_X6_askedBy = true := by decide +kernel

set_option maxRecDepth 100000 in
set_option maxHeartbeats 1000000 in
theorem ok_X6_askedBy : s_Ok c_X6_askedBy := by
  refine s_ok_of k_X6_askedBy (by decide +kernel) sta_X6_askedBy ck_X6_askedBy (And.intro ok_X6_livingBy (And.intro ok_X6_refusal (And.intro ok_X6_follow trivial))) ?_
  rintro vs L ⟨s, A, w, h, e, li, n, d, rfl, rfl, hn, hn8, he, hd⟩
  refine ⟨rfl, fun G hG => ?_⟩
  have fin : ∀ a2 : Int32, a2 = p_asM s A w h e li → s_PP (some .int) true c_X6_askedBy.2.2.2.2.2 [.ref 0, .int w, .int h, .int e, .int li] (mdW s A) (some (.int a2)) (mdW s A) := fun a2 ha => ⟨rfl, by rw [ha]; rfl, fun _ => rfl⟩
  have no : p_asM s A w h e li = -4 → s_go none k_X6_askedBy G (s_PP (some .int) true c_X6_askedBy.2.2.2.2.2 [.ref 0, .int w, .int h, .int e, .int li] (mdW s A)) false 98 2 [some (.ref 0), some (.int w), some (.int h), none, none, none] [.int 0] (mdW s A) := by
    intro q
    refine And.intro (fun _ => ?_) (fun z => absurd rfl z)
    exact fin _ q.symm
  refine hG 0 _ _ _ (And.intro (fun h1 => ?_) (fun h1 => ?_))
  · have h1 : p_hb h w = 0 := by rw [← p_hb_v]; exact h1
    refine And.intro ⟨s, A, h, n, rfl, rfl, hn, hn8⟩ ?_
    intro r hr
    obtain rfl : r = some (.int (p_lbM s A h)) := hr
    refine And.intro ⟨s, A, w, h, _, e, li, n, d, rfl, rfl, hn, hn8, he, hd⟩ ?_
    intro r hr
    obtain rfl : r = some (.int (p_re (mOn A) (mNd A) (mCl A) (s 3).toNatClampNeg li (A 1 1) w h (p_lbM s A h) e.toNatClampNeg)) := hr
    refine And.intro (fun h2 => ?_) (fun h2 => ?_)
    · have h2 : p_re (mOn A) (mNd A) (mCl A) (s 3).toNatClampNeg li (A 1 1) w h (p_lb (mOn A) (mNd A) (s 3).toNatClampNeg (A 1 0) (A 1 26) h) e.toNatClampNeg = 0 := h2
      refine And.intro (fun z => absurd z (by decide)) (fun _ => ?_)
      refine And.intro ⟨s, A, _, n, rfl, rfl, hn, hn8⟩ ?_
      intro r hr
      obtain rfl : r = some (.int (p_fw (mNd A) (s 3).toNatClampNeg ((1 : Int32) <<< (w &&& 31)))) := hr
      exact fin _ (by rw [p_asM, p_as, if_pos h1, if_pos h2])
    · have h2 : ¬ p_re (mOn A) (mNd A) (mCl A) (s 3).toNatClampNeg li (A 1 1) w h (p_lb (mOn A) (mNd A) (s 3).toNatClampNeg (A 1 0) (A 1 26) h) e.toNatClampNeg = 0 := h2
      exact no (by rw [p_asM, p_as, if_pos h1, if_neg h2])
  · have h1 : ¬ p_hb h w = 0 := by rw [← p_hb_v]; exact h1
    exact no (by rw [p_asM, p_as, if_neg h1])
end
section
/-! ===== WishClerkModel: what is changed ===== -/
def r_bitv (y v i : Int32) : Int32 := if p_in y i = 0 then -1 else (v >>> (i &&& 31)) &&& 1
def q_mbit (K : Nat) (y : Int32) (st : Nat → Int32) (i z : Int32) : Nat → Int32 := fun j => if p_in y i = 0 then st j else upd st K (p_wb (st K) i z) j
/-- the model with another st -/
def mdU (L : sH) (f : Nat → Int32) : sH := mdW (oI L 0) (va_up (bF L) 1 f)
def c_X6_becomesBit : sCtr := ((yX6_becomesBit, cX6_becomesBit, 5, (some .int)), (7, 3, 0, 0), false,
  mdfp,
  fun vs L => ∃ (s : Nat → Int32) (A : Nat → Nat → Int32) (k i z : Int32) (K : Nat), vs = [.ref 0, .int k, .int i, .int z] ∧ L = mdW s A ∧ k = nI K ∧ K ≤ 30,
  fun vs L r L' => r = some (.int ((bF L 1 (vI vs 1).toNatClampNeg >>> (vI vs 2 &&& 31)) &&& 1)) ∧ L' = mdU L (upd (bF L 1) (vI vs 1).toNatClampNeg (p_wb (bF L 1 (vI vs 1).toNatClampNeg) (vI vs 2) (vI vs 3))))
theorem sta_X6_becomesBit : s_Sta c_X6_becomesBit := ⟨⟨by decide +kernel, by decide +kernel, by decide +kernel⟩, List.mem_of_getElem? (i := 1042) (by decide +kernel), List.mem_of_getElem? (i := 70) (by decide +kernel), ⟨List.mem_of_getElem? (i := 1041) (by decide +kernel), List.mem_of_getElem? (i := 49) (by decide +kernel), Or.inl ⟨_, rfl, rfl⟩⟩⟩

def k_X6_becomesBit : List sBk := [
  (0, false, [true, true, true, true, false], [o0 0 (.aload_n 0), oN 1 (.getfield 7) [6, 0, 822], o0 4 (.iload_n 1), o0 5 .iaload, o0 6 (.iload_n 2), o0 7 .ishr, oK 8 (.iconst 1) (.int 1), o0 9 .iand, o0 10 (.istore 4), o0 12 (.aload_n 0), oN 13 (.getfield 7) [6, 0, 822], o0 16 (.iload_n 1), o0 17 (.iload_n 3), oN 18 (.ifCond .eq 16) [1], o0 21 (.aload_n 0), oN 22 (.getfield 7) [6, 0, 822], o0 25 (.iload_n 1), o0 26 .iaload, oK 27 (.iconst 1) (.int 1), o0 28 (.iload_n 2), o0 29 .ishl, o0 30 .ior, oN 31 (.goto 15) [2]]),
  (34, false, [true, true, true, false, true], [o0 34 (.aload_n 0), oN 35 (.getfield 7) [6, 0, 822], o0 38 (.iload_n 1), o0 39 .iaload, oK 40 (.iconst 1) (.int 1), o0 41 (.iload_n 2), o0 42 .ishl, oK 43 (.iconst (-1)) (.int (-1)), o0 44 .ixor, o0 45 .iand, oN 46 .nop [2]]),
  (46, false, [false, false, false, false, true], [o0 46 .iastore, o0 47 (.iload 4), o0 49 .ireturn])]
set_option maxRecDepth 100000 in
theorem ck_X6_becomesBit : s_ck RX6 cX6_becomesBit 5 0 0 k_X6_becomesBit = true := by decide +kernel

set_option maxRecDepth 100000 in
set_option maxHeartbeats 1000000 in
theorem ok_X6_becomesBit : s_Ok c_X6_becomesBit := by
  refine s_ok_of k_X6_becomesBit (by decide +kernel) sta_X6_becomesBit ck_X6_becomesBit trivial ?_
  rintro vs L ⟨s, A, k, i, z, K, rfl, rfl, hk, hK⟩
  refine ⟨rfl, fun G hG => ?_⟩
  have hin : vp_in k 159 := by rw [hk]; exact vp_in_nI (by omega) (by omega)
  have fin : ∀ v : Int32, v = p_wb (A 1 k.toNatClampNeg) i z → s_PP (some .int) false c_X6_becomesBit.2.2.2.2.2 [.ref 0, .int k, .int i, .int z] (mdW s A) (some (.int ((A 1 k.toNatClampNeg >>> (i &&& 31)) &&& 1))) (mdW s (va_up A 1 (upd (A 1) k.toNatClampNeg v))) := fun v hv => ⟨rfl, ⟨rfl, by rw [hv]; rfl⟩, fun h => by cases h⟩
  refine hG 0 _ _ _ (And.intro hin (And.intro (fun h => ?_) (fun h => ?_)))
  · exact And.intro hin (And.intro hin (fin _ (by rw [p_wb, if_pos h])))
  · exact And.intro hin (And.intro hin (fin _ (by rw [p_wb, if_neg h])))
def c_X6_becomes : sCtr := ((yX6_becomes, cX6_becomes, 4, (some .int)), (7, 2, 0, 0), false,
  mdfp,
  fun vs L => ∃ (s : Nat → Int32) (A : Nat → Nat → Int32) (k v : Int32) (K : Nat), vs = [.ref 0, .int k, .int v] ∧ L = mdW s A ∧ k = nI K ∧ K ≤ 52,
  fun vs L r L' => r = some (.int (bF L 1 (vI vs 1).toNatClampNeg)) ∧ L' = mdU L (upd (bF L 1) (vI vs 1).toNatClampNeg (vI vs 2)))
theorem sta_X6_becomes : s_Sta c_X6_becomes := ⟨⟨by decide +kernel, by decide +kernel, by decide +kernel⟩, List.mem_of_getElem? (i := 1059) (by decide +kernel), List.mem_of_getElem? (i := 70) (by decide +kernel), ⟨List.mem_of_getElem? (i := 1058) (by decide +kernel), List.mem_of_getElem? (i := 50) (by decide +kernel), Or.inl ⟨_, rfl, rfl⟩⟩⟩

def k_X6_becomes : List sBk := [
  (0, false, [true, true, true, false], [o0 0 (.aload_n 0), oN 1 (.getfield 7) [6, 0, 822], o0 4 (.iload_n 1), o0 5 .iaload, o0 6 (.istore_n 3), o0 7 (.aload_n 0), oN 8 (.getfield 7) [6, 0, 822], o0 11 (.iload_n 1), o0 12 (.iload_n 2), o0 13 .iastore, o0 14 (.iload_n 3), o0 15 .ireturn])]
set_option maxRecDepth 100000 in
theorem ck_X6_becomes : s_ck RX6 cX6_becomes 4 0 0 k_X6_becomes = true := by decide +kernel

set_option maxRecDepth 100000 in
set_option maxHeartbeats 1000000 in
theorem ok_X6_becomes : s_Ok c_X6_becomes := by
  refine s_ok_of k_X6_becomes (by decide +kernel) sta_X6_becomes ck_X6_becomes trivial ?_
  rintro vs L ⟨s, A, k, v, K, rfl, rfl, hk, hK⟩
  refine ⟨rfl, fun G hG => ?_⟩
  have hin : vp_in k 159 := by rw [hk]; exact vp_in_nI (by omega) (by omega)
  exact hG 0 _ _ _ (And.intro hin (And.intro hin ⟨rfl, ⟨rfl, rfl⟩, fun h => by cases h⟩))
theorem va_up1 (A : Nat → Nat → Int32) : va_up A 1 (A 1) = A := by
  funext j
  unfold va_up
  by_cases h : j = 1
  · rw [if_pos h, h]
  · rw [if_neg h]
def c_X6_live : sCtr := ((yX6_live, cX6_live, 3, (some .int)), (7, 2, 2, 46), false,
  mdfp,
  fun vs L => ∃ (s : Nat → Int32) (A : Nat → Nat → Int32) (p z : Int32) (m : Nat), vs = [.ref 0, .int p, .int z] ∧ L = mdW s A ∧ s 2 = nI m ∧ m ≤ 8,
  fun vs L r L' => r = some (.int (r_bitv (oI L 0 2) (bF L 1 0) (vI vs 1))) ∧ L' = mdU L (q_mbit 0 (oI L 0 2) (bF L 1) (vI vs 1) (vI vs 2)))
theorem sta_X6_live : s_Sta c_X6_live := ⟨⟨by decide +kernel, by decide +kernel, by decide +kernel⟩, List.mem_of_getElem? (i := 1034) (by decide +kernel), List.mem_of_getElem? (i := 70) (by decide +kernel), ⟨List.mem_of_getElem? (i := 1032) (by decide +kernel), List.mem_of_getElem? (i := 1033) (by decide +kernel), Or.inl ⟨_, rfl, rfl⟩⟩⟩

def k_X6_live : List sBk := [
  (0, false, [true, true, true], [o0 0 (.aload_n 0), o0 1 (.iload_n 1), oC 2 (.invokevirtual 192) [1035] c_X6_isOne, oN 5 (.ifCond .eq 13) [1], o0 8 (.aload_n 0), oK 9 (.iconst 0) (.int 0), o0 10 (.iload_n 1), o0 11 (.iload_n 2), oC 12 (.invokevirtual 195) [1039] c_X6_becomesBit, oN 15 (.goto 4) [2]]),
  (18, false, [false, false, false], [oK 18 (.iconst (-1)) (.int (-1)), oN 19 .nop [2]]),
  (19, false, [false, false, false], [o0 19 .ireturn])]
set_option maxRecDepth 100000 in
theorem ck_X6_live : s_ck RX6 cX6_live 3 2 46 k_X6_live = true := by decide +kernel

set_option maxRecDepth 100000 in
set_option maxHeartbeats 1000000 in
theorem ok_X6_live : s_Ok c_X6_live := by
  refine s_ok_of k_X6_live (by decide +kernel) sta_X6_live ck_X6_live (And.intro ok_X6_isOne (And.intro ok_X6_becomesBit trivial)) ?_
  rintro vs L ⟨s, A, p, z, m, rfl, rfl, hm, hm8⟩
  refine ⟨rfl, fun G hG => ?_⟩
  have fin : ∀ (a : Int32) (L2 : sH), a = r_bitv (s 2) (A 1 0) p → L2 = mdW s (va_up A 1 (q_mbit 0 (s 2) (A 1) p z)) → s_PP (some .int) false c_X6_live.2.2.2.2.2 [.ref 0, .int p, .int z] (mdW s A) (some (.int a)) L2 := fun a L2 ha hL => ⟨rfl, ⟨by rw [ha]; rfl, by rw [hL]; rfl⟩, fun h => by cases h⟩
  refine hG 0 _ _ _ (And.intro ⟨s, A, p, m, rfl, rfl, hm, hm8⟩ ?_)
  intro r hr
  obtain rfl : r = some (.int (p_in (s 2) p)) := hr
  refine And.intro (fun h => ?_) (fun h => ?_)
  · exact fin _ _ (by rw [r_bitv, if_pos h]) (by rw [show q_mbit 0 (s 2) (A 1) p z = A 1 by funext j; rw [q_mbit, if_pos h], va_up1])
  · refine And.intro ⟨s, A, _, _, _, 0, rfl, rfl, rfl, by omega⟩ ?_
    rintro r L' ⟨hr, hL⟩
    obtain rfl : r = some (.int ((A 1 0 >>> (p &&& 31)) &&& 1)) := hr
    obtain rfl : L' = mdW s (va_up A 1 (upd (A 1) 0 (p_wb (A 1 0) p z))) := hL
    exact fin _ _ (by rw [r_bitv, if_neg h]) (by rw [show q_mbit 0 (s 2) (A 1) p z = upd (A 1) 0 (p_wb (A 1 0) p z) by funext j; rw [q_mbit, if_neg h]]; rfl)
def c_X6_bar : sCtr := ((yX6_bar, cX6_bar, 3, (some .int)), (7, 2, 2, 46), false,
  mdfp,
  fun vs L => ∃ (s : Nat → Int32) (A : Nat → Nat → Int32) (p z : Int32) (m : Nat), vs = [.ref 0, .int p, .int z] ∧ L = mdW s A ∧ s 2 = nI m ∧ m ≤ 8,
  fun vs L r L' => r = some (.int (r_bitv (oI L 0 2) (bF L 1 1) (vI vs 1))) ∧ L' = mdU L (q_mbit 1 (oI L 0 2) (bF L 1) (vI vs 1) (vI vs 2)))
theorem sta_X6_bar : s_Sta c_X6_bar := ⟨⟨by decide +kernel, by decide +kernel, by decide +kernel⟩, List.mem_of_getElem? (i := 1046) (by decide +kernel), List.mem_of_getElem? (i := 70) (by decide +kernel), ⟨List.mem_of_getElem? (i := 1044) (by decide +kernel), List.mem_of_getElem? (i := 1045) (by decide +kernel), Or.inl ⟨_, rfl, rfl⟩⟩⟩

def k_X6_bar : List sBk := [
  (0, false, [true, true, true], [o0 0 (.aload_n 0), o0 1 (.iload_n 1), oC 2 (.invokevirtual 192) [1035] c_X6_isOne, oN 5 (.ifCond .eq 13) [1], o0 8 (.aload_n 0), oK 9 (.iconst 1) (.int 1), o0 10 (.iload_n 1), o0 11 (.iload_n 2), oC 12 (.invokevirtual 195) [1039] c_X6_becomesBit, oN 15 (.goto 4) [2]]),
  (18, false, [false, false, false], [oK 18 (.iconst (-1)) (.int (-1)), oN 19 .nop [2]]),
  (19, false, [false, false, false], [o0 19 .ireturn])]
set_option maxRecDepth 100000 in
theorem ck_X6_bar : s_ck RX6 cX6_bar 3 2 46 k_X6_bar = true := by decide +kernel

set_option maxRecDepth 100000 in
set_option maxHeartbeats 1000000 in
theorem ok_X6_bar : s_Ok c_X6_bar := by
  refine s_ok_of k_X6_bar (by decide +kernel) sta_X6_bar ck_X6_bar (And.intro ok_X6_isOne (And.intro ok_X6_becomesBit trivial)) ?_
  rintro vs L ⟨s, A, p, z, m, rfl, rfl, hm, hm8⟩
  refine ⟨rfl, fun G hG => ?_⟩
  have fin : ∀ (a : Int32) (L2 : sH), a = r_bitv (s 2) (A 1 1) p → L2 = mdW s (va_up A 1 (q_mbit 1 (s 2) (A 1) p z)) → s_PP (some .int) false c_X6_bar.2.2.2.2.2 [.ref 0, .int p, .int z] (mdW s A) (some (.int a)) L2 := fun a L2 ha hL => ⟨rfl, ⟨by rw [ha]; rfl, by rw [hL]; rfl⟩, fun h => by cases h⟩
  refine hG 0 _ _ _ (And.intro ⟨s, A, p, m, rfl, rfl, hm, hm8⟩ ?_)
  intro r hr
  obtain rfl : r = some (.int (p_in (s 2) p)) := hr
  refine And.intro (fun h => ?_) (fun h => ?_)
  · exact fin _ _ (by rw [r_bitv, if_pos h]) (by rw [show q_mbit 1 (s 2) (A 1) p z = A 1 by funext j; rw [q_mbit, if_pos h], va_up1])
  · refine And.intro ⟨s, A, _, _, _, 1, rfl, rfl, rfl, by omega⟩ ?_
    rintro r L' ⟨hr, hL⟩
    obtain rfl : r = some (.int ((A 1 1 >>> (p &&& 31)) &&& 1)) := hr
    obtain rfl : L' = mdW s (va_up A 1 (upd (A 1) 1 (p_wb (A 1 1) p z))) := hL
    exact fin _ _ (by rw [r_bitv, if_neg h]) (by rw [show q_mbit 1 (s 2) (A 1) p z = upd (A 1) 1 (p_wb (A 1 1) p z) by funext j; rw [q_mbit, if_neg h]]; rfl)
def c_X6_list : sCtr := ((yX6_list, cX6_list, 3, (some .int)), (7, 2, 2, 46), false,
  mdfp,
  fun vs L => ∃ (s : Nat → Int32) (A : Nat → Nat → Int32) (p z : Int32) (m : Nat), vs = [.ref 0, .int p, .int z] ∧ L = mdW s A ∧ s 3 = nI m ∧ m ≤ 8,
  fun vs L r L' => r = some (.int (r_bitv (oI L 0 3) (bF L 1 27) (vI vs 1))) ∧ L' = mdU L (q_mbit 27 (oI L 0 3) (bF L 1) (vI vs 1) (vI vs 2)))
theorem sta_X6_list : s_Sta c_X6_list := ⟨⟨by decide +kernel, by decide +kernel, by decide +kernel⟩, List.mem_of_getElem? (i := 1050) (by decide +kernel), List.mem_of_getElem? (i := 70) (by decide +kernel), ⟨List.mem_of_getElem? (i := 1048) (by decide +kernel), List.mem_of_getElem? (i := 1049) (by decide +kernel), Or.inl ⟨_, rfl, rfl⟩⟩⟩

def k_X6_list : List sBk := [
  (0, false, [true, true, true], [o0 0 (.aload_n 0), o0 1 (.iload_n 1), oC 2 (.invokevirtual 185) [1015] c_X6_isWish, oN 5 (.ifCond .eq 14) [1], o0 8 (.aload_n 0), oK 9 (.bipush 27) (.int 27), o0 11 (.iload_n 1), o0 12 (.iload_n 2), oC 13 (.invokevirtual 195) [1039] c_X6_becomesBit, oN 16 (.goto 4) [2]]),
  (19, false, [false, false, false], [oK 19 (.iconst (-1)) (.int (-1)), oN 20 .nop [2]]),
  (20, false, [false, false, false], [o0 20 .ireturn])]
set_option maxRecDepth 100000 in
theorem ck_X6_list : s_ck RX6 cX6_list 3 2 46 k_X6_list = true := by decide +kernel

set_option maxRecDepth 100000 in
set_option maxHeartbeats 1000000 in
theorem ok_X6_list : s_Ok c_X6_list := by
  refine s_ok_of k_X6_list (by decide +kernel) sta_X6_list ck_X6_list (And.intro ok_X6_isWish (And.intro ok_X6_becomesBit trivial)) ?_
  rintro vs L ⟨s, A, p, z, m, rfl, rfl, hm, hm8⟩
  refine ⟨rfl, fun G hG => ?_⟩
  have fin : ∀ (a : Int32) (L2 : sH), a = r_bitv (s 3) (A 1 27) p → L2 = mdW s (va_up A 1 (q_mbit 27 (s 3) (A 1) p z)) → s_PP (some .int) false c_X6_list.2.2.2.2.2 [.ref 0, .int p, .int z] (mdW s A) (some (.int a)) L2 := fun a L2 ha hL => ⟨rfl, ⟨by rw [ha]; rfl, by rw [hL]; rfl⟩, fun h => by cases h⟩
  refine hG 0 _ _ _ (And.intro ⟨s, A, p, m, rfl, rfl, hm, hm8⟩ ?_)
  intro r hr
  obtain rfl : r = some (.int (p_in (s 3) p)) := hr
  refine And.intro (fun h => ?_) (fun h => ?_)
  · exact fin _ _ (by rw [r_bitv, if_pos h]) (by rw [show q_mbit 27 (s 3) (A 1) p z = A 1 by funext j; rw [q_mbit, if_pos h], va_up1])
  · refine And.intro ⟨s, A, _, _, _, 27, rfl, rfl, rfl, by omega⟩ ?_
    rintro r L' ⟨hr, hL⟩
    obtain rfl : r = some (.int ((A 1 27 >>> (p &&& 31)) &&& 1)) := hr
    obtain rfl : L' = mdW s (va_up A 1 (upd (A 1) 27 (p_wb (A 1 27) p z))) := hL
    exact fin _ _ (by rw [r_bitv, if_neg h]) (by rw [show q_mbit 27 (s 3) (A 1) p z = upd (A 1) 27 (p_wb (A 1 27) p z) by funext j; rw [q_mbit, if_neg h]]; rfl)
def r_cutv (y v i : Int32) : Int32 := if i < 0 then -1 else if y < i then -1 else v
def q_mcut (K : Nat) (y : Int32) (st : Nat → Int32) (i : Int32) : Nat → Int32 := fun j => if i < 0 then st j else if y < i then st j else upd st K i j
theorem p_rng (i y : Int32) : (p_in64 i.toInt64 0 y.toInt64 = 0 ↔ (i < 0 ∨ y < i)) := by
  have e := p_in64_i i 0 y
  rw [show (0 : Int32).toInt64 = 0 from rfl] at e
  rw [e]
  by_cases h : i < 0
  · rw [if_pos h]; exact ⟨fun _ => Or.inl h, fun _ => rfl⟩
  · rw [if_neg h]
    by_cases h2 : y < i
    · rw [if_pos h2]; exact ⟨fun _ => Or.inr h2, fun _ => rfl⟩
    · rw [if_neg h2]; exact ⟨fun q => absurd q (by decide), fun q => q.elim (fun z => absurd z h) (fun z => absurd z h2)⟩
theorem r_cut_no {y v i : Int32} (h : i < 0 ∨ y < i) : r_cutv y v i = -1 := by
  unfold r_cutv
  by_cases h1 : i < 0
  · rw [if_pos h1]
  · rw [if_neg h1, if_pos (h.resolve_left h1)]
theorem r_cut_ye {y v i : Int32} (h : ¬ (i < 0 ∨ y < i)) : r_cutv y v i = v := by
  unfold r_cutv
  rw [if_neg (fun q => h (Or.inl q)), if_neg (fun q => h (Or.inr q))]
theorem q_mcut_no {K : Nat} {y i : Int32} {st : Nat → Int32} (h : i < 0 ∨ y < i) : q_mcut K y st i = st := by
  funext j
  unfold q_mcut
  by_cases h1 : i < 0
  · rw [if_pos h1]
  · rw [if_neg h1, if_pos (h.resolve_left h1)]
theorem q_mcut_ye {K : Nat} {y i : Int32} {st : Nat → Int32} (h : ¬ (i < 0 ∨ y < i)) : q_mcut K y st i = upd st K i := by
  funext j
  unfold q_mcut
  rw [if_neg (fun q => h (Or.inl q)), if_neg (fun q => h (Or.inr q))]
def c_X6_depth : sCtr := ((yX6_depth, cX6_depth, 2, (some .int)), (7, 1, 1, 25), false,
  mdfp,
  fun vs L => ∃ (s : Nat → Int32) (A : Nat → Nat → Int32) (i : Int32), vs = [.ref 0, .int i] ∧ L = mdW s A,
  fun vs L r L' => r = some (.int (r_cutv (8) (bF L 1 28) (vI vs 1))) ∧ L' = mdU L (q_mcut 28 (8) (bF L 1) (vI vs 1)))
theorem sta_X6_depth : s_Sta c_X6_depth := ⟨⟨by decide +kernel, by decide +kernel, by decide +kernel⟩, List.mem_of_getElem? (i := 1054) (by decide +kernel), List.mem_of_getElem? (i := 70) (by decide +kernel), ⟨List.mem_of_getElem? (i := 1052) (by decide +kernel), List.mem_of_getElem? (i := 1053) (by decide +kernel), Or.inl ⟨_, rfl, rfl⟩⟩⟩

def k_X6_depth : List sBk := [
  (0, false, [true, true], [o0 0 (.iload_n 1), o0 1 .i2l, oK 2 (.lconst 0) (.long 0), oV 3 (.ldc2_w 199) [1055] (.long 8), oC 6 (.invokestatic 90) [921] c_X6_in, oN 9 (.ifCond .eq 13) [1], o0 12 (.aload_n 0), oK 13 (.bipush 28) (.int 28), o0 15 (.iload_n 1), oC 16 (.invokevirtual 201) [1056] c_X6_becomes, oN 19 (.goto 4) [2]]),
  (22, false, [false, false], [oK 22 (.iconst (-1)) (.int (-1)), oN 23 .nop [2]]),
  (23, false, [false, false], [o0 23 .ireturn])]
set_option maxRecDepth 100000 in
theorem ck_X6_depth : s_ck RX6 cX6_depth 2 1 25 k_X6_depth = true := by decide +kernel

set_option maxRecDepth 100000 in
set_option maxHeartbeats 1000000 in
theorem ok_X6_depth : s_Ok c_X6_depth := by
  refine s_ok_of k_X6_depth (by decide +kernel) sta_X6_depth ck_X6_depth (And.intro ok_X6_in (And.intro ok_X6_becomes trivial)) ?_
  rintro vs L ⟨s, A, i, rfl, rfl⟩
  refine ⟨rfl, fun G hG => ?_⟩
  have fin : ∀ (a : Int32) (L2 : sH), a = r_cutv (8) (A 1 28) i → L2 = mdW s (va_up A 1 (q_mcut 28 (8) (A 1) i)) → s_PP (some .int) false c_X6_depth.2.2.2.2.2 [.ref 0, .int i] (mdW s A) (some (.int a)) L2 := fun a L2 ha hL => ⟨rfl, ⟨by rw [ha]; rfl, by rw [hL]; rfl⟩, fun h => by cases h⟩
  refine hG 0 _ _ _ (And.intro ⟨_, _, _, rfl⟩ ?_)
  intro r hr
  obtain ⟨b, hb⟩ : ∃ b, b = p_in64 i.toInt64 0 (8 : Int32).toInt64 := ⟨_, rfl⟩
  obtain rfl : r = some (.int b) := by rw [hb]; exact hr
  refine And.intro (fun h => ?_) (fun h => ?_)
  · have h : i < 0 ∨ 8 < i := (p_rng _ _).mp (hb.symm.trans h)
    exact fin _ _ (by rw [r_cut_no h]) (by rw [q_mcut_no h, va_up1])
  · have h : ¬ (i < 0 ∨ 8 < i) := fun q => h (hb.trans ((p_rng _ _).mpr q))
    refine And.intro ⟨s, A, _, _, 28, rfl, rfl, rfl, by omega⟩ ?_
    rintro r L' ⟨hr, hL⟩
    obtain rfl : r = some (.int (A 1 28)) := hr
    obtain rfl : L' = mdW s (va_up A 1 (upd (A 1) 28 i)) := hL
    exact fin _ _ (by rw [r_cut_ye h]) (by rw [q_mcut_ye h]; rfl)
def c_X6_cut : sCtr := ((yX6_cut, cX6_cut, 2, (some .int)), (7, 1, 1, 25), false,
  mdfp,
  fun vs L => ∃ (s : Nat → Int32) (A : Nat → Nat → Int32) (i : Int32), vs = [.ref 0, .int i] ∧ L = mdW s A,
  fun vs L r L' => r = some (.int (r_cutv (bF L 1 29) (bF L 1 29) (vI vs 1))) ∧ L' = mdU L (q_mcut 29 (bF L 1 29) (bF L 1) (vI vs 1)))
theorem sta_X6_cut : s_Sta c_X6_cut := ⟨⟨by decide +kernel, by decide +kernel, by decide +kernel⟩, List.mem_of_getElem? (i := 1079) (by decide +kernel), List.mem_of_getElem? (i := 70) (by decide +kernel), ⟨List.mem_of_getElem? (i := 1077) (by decide +kernel), List.mem_of_getElem? (i := 1078) (by decide +kernel), Or.inl ⟨_, rfl, rfl⟩⟩⟩

def k_X6_cut : List sBk := [
  (0, false, [true, true], [o0 0 (.iload_n 1), o0 1 .i2l, oK 2 (.lconst 0) (.long 0), o0 3 (.aload_n 0), oN 4 (.getfield 7) [6, 0, 822], oK 7 (.bipush 29) (.int 29), o0 9 .iaload, o0 10 .i2l, oC 11 (.invokestatic 90) [921] c_X6_in, oN 14 (.ifCond .eq 13) [1], o0 17 (.aload_n 0), oK 18 (.bipush 29) (.int 29), o0 20 (.iload_n 1), oC 21 (.invokevirtual 201) [1056] c_X6_becomes, oN 24 (.goto 4) [2]]),
  (27, false, [false, false], [oK 27 (.iconst (-1)) (.int (-1)), oN 28 .nop [2]]),
  (28, false, [false, false], [o0 28 .ireturn])]
set_option maxRecDepth 100000 in
theorem ck_X6_cut : s_ck RX6 cX6_cut 2 1 25 k_X6_cut = true := by decide +kernel

set_option maxRecDepth 100000 in
set_option maxHeartbeats 1000000 in
theorem ok_X6_cut : s_Ok c_X6_cut := by
  refine s_ok_of k_X6_cut (by decide +kernel) sta_X6_cut ck_X6_cut (And.intro ok_X6_in (And.intro ok_X6_becomes trivial)) ?_
  rintro vs L ⟨s, A, i, rfl, rfl⟩
  refine ⟨rfl, fun G hG => ?_⟩
  have fin : ∀ (a : Int32) (L2 : sH), a = r_cutv (A 1 29) (A 1 29) i → L2 = mdW s (va_up A 1 (q_mcut 29 (A 1 29) (A 1) i)) → s_PP (some .int) false c_X6_cut.2.2.2.2.2 [.ref 0, .int i] (mdW s A) (some (.int a)) L2 := fun a L2 ha hL => ⟨rfl, ⟨by rw [ha]; rfl, by rw [hL]; rfl⟩, fun h => by cases h⟩
  refine hG 0 _ _ _ (And.intro (vp_in_nI (n := 29) (N := 159) (by decide) (by decide)) (And.intro ⟨_, _, _, rfl⟩ ?_))
  intro r hr
  obtain ⟨b, hb⟩ : ∃ b, b = p_in64 i.toInt64 0 (A 1 29 : Int32).toInt64 := ⟨_, rfl⟩
  obtain rfl : r = some (.int b) := by rw [hb]; exact hr
  refine And.intro (fun h => ?_) (fun h => ?_)
  · have h : i < 0 ∨ A 1 29 < i := (p_rng _ _).mp (hb.symm.trans h)
    exact fin _ _ (by rw [r_cut_no h]) (by rw [q_mcut_no h, va_up1])
  · have h : ¬ (i < 0 ∨ A 1 29 < i) := fun q => h (hb.trans ((p_rng _ _).mpr q))
    refine And.intro ⟨s, A, _, _, 29, rfl, rfl, rfl, by omega⟩ ?_
    rintro r L' ⟨hr, hL⟩
    obtain rfl : r = some (.int (A 1 29)) := hr
    obtain rfl : L' = mdW s (va_up A 1 (upd (A 1) 29 i)) := hL
    exact fin _ _ (by rw [r_cut_ye h]) (by rw [q_mcut_ye h]; rfl)
def c_X6_forget : sCtr := ((yX6_forget, cX6_forget, 2, (some .int)), (7, 1, 1, 25), false,
  mdfp,
  fun vs L => ∃ (s : Nat → Int32) (A : Nat → Nat → Int32) (i : Int32), vs = [.ref 0, .int i] ∧ L = mdW s A,
  fun vs L r L' => r = some (.int (r_cutv (bF L 1 36) (bF L 1 36) (vI vs 1))) ∧ L' = mdU L (q_mcut 36 (bF L 1 36) (bF L 1) (vI vs 1)))
theorem sta_X6_forget : s_Sta c_X6_forget := ⟨⟨by decide +kernel, by decide +kernel, by decide +kernel⟩, List.mem_of_getElem? (i := 1190) (by decide +kernel), List.mem_of_getElem? (i := 70) (by decide +kernel), ⟨List.mem_of_getElem? (i := 1188) (by decide +kernel), List.mem_of_getElem? (i := 1189) (by decide +kernel), Or.inl ⟨_, rfl, rfl⟩⟩⟩

def k_X6_forget : List sBk := [
  (0, false, [true, true], [o0 0 (.iload_n 1), o0 1 .i2l, oK 2 (.lconst 0) (.long 0), o0 3 (.aload_n 0), oN 4 (.getfield 7) [6, 0, 822], oK 7 (.bipush 36) (.int 36), o0 9 .iaload, o0 10 .i2l, oC 11 (.invokestatic 90) [921] c_X6_in, oN 14 (.ifCond .eq 13) [1], o0 17 (.aload_n 0), oK 18 (.bipush 36) (.int 36), o0 20 (.iload_n 1), oC 21 (.invokevirtual 201) [1056] c_X6_becomes, oN 24 (.goto 4) [2]]),
  (27, false, [false, false], [oK 27 (.iconst (-1)) (.int (-1)), oN 28 .nop [2]]),
  (28, false, [false, false], [o0 28 .ireturn])]
set_option maxRecDepth 100000 in
theorem ck_X6_forget : s_ck RX6 cX6_forget 2 1 25 k_X6_forget = true := by decide +kernel

set_option maxRecDepth 100000 in
set_option maxHeartbeats 1000000 in
theorem ok_X6_forget : s_Ok c_X6_forget := by
  refine s_ok_of k_X6_forget (by decide +kernel) sta_X6_forget ck_X6_forget (And.intro ok_X6_in (And.intro ok_X6_becomes trivial)) ?_
  rintro vs L ⟨s, A, i, rfl, rfl⟩
  refine ⟨rfl, fun G hG => ?_⟩
  have fin : ∀ (a : Int32) (L2 : sH), a = r_cutv (A 1 36) (A 1 36) i → L2 = mdW s (va_up A 1 (q_mcut 36 (A 1 36) (A 1) i)) → s_PP (some .int) false c_X6_forget.2.2.2.2.2 [.ref 0, .int i] (mdW s A) (some (.int a)) L2 := fun a L2 ha hL => ⟨rfl, ⟨by rw [ha]; rfl, by rw [hL]; rfl⟩, fun h => by cases h⟩
  refine hG 0 _ _ _ (And.intro (vp_in_nI (n := 36) (N := 159) (by decide) (by decide)) (And.intro ⟨_, _, _, rfl⟩ ?_))
  intro r hr
  obtain ⟨b, hb⟩ : ∃ b, b = p_in64 i.toInt64 0 (A 1 36 : Int32).toInt64 := ⟨_, rfl⟩
  obtain rfl : r = some (.int b) := by rw [hb]; exact hr
  refine And.intro (fun h => ?_) (fun h => ?_)
  · have h : i < 0 ∨ A 1 36 < i := (p_rng _ _).mp (hb.symm.trans h)
    exact fin _ _ (by rw [r_cut_no h]) (by rw [q_mcut_no h, va_up1])
  · have h : ¬ (i < 0 ∨ A 1 36 < i) := fun q => h (hb.trans ((p_rng _ _).mpr q))
    refine And.intro ⟨s, A, _, _, 36, rfl, rfl, rfl, by omega⟩ ?_
    rintro r L' ⟨hr, hL⟩
    obtain rfl : r = some (.int (A 1 36)) := hr
    obtain rfl : L' = mdW s (va_up A 1 (upd (A 1) 36 i)) := hL
    exact fin _ _ (by rw [r_cut_ye h]) (by rw [q_mcut_ye h]; rfl)
/-- a bit of one of the wishes' rows -/
def q_mrow (B : Nat) (st : Nat → Int32) (w v z : Int32) : Nat → Int32 := upd st (B + w.toNatClampNeg) (p_wb (st (B + w.toNatClampNeg)) v z)
def r_masks (st : Nat → Int32) (y p0 w p : Int32) : Int32 := if p_in y w = 0 then -1 else if p_in p0 p = 0 then -1 else (st (2 + w.toNatClampNeg) >>> (p &&& 31)) &&& 1
def q_masks (st : Nat → Int32) (y p0 w p z : Int32) : Nat → Int32 := fun j => if p_in y w = 0 then st j else if p_in p0 p = 0 then st j else q_mrow 2 st w p z j
def c_X6_asks : sCtr := ((yX6_asks, cX6_asks, 4, (some .int)), (7, 3, 2, 46), false,
  mdfp,
  fun vs L => ∃ (s : Nat → Int32) (A : Nat → Nat → Int32) (w p z : Int32) (n m : Nat), vs = [.ref 0, .int w, .int p, .int z] ∧ L = mdW s A ∧ s 3 = nI n ∧ n ≤ 8 ∧ s 2 = nI m ∧ m ≤ 8,
  fun vs L r L' => r = some (.int (r_masks (bF L 1) (oI L 0 3) (oI L 0 2) (vI vs 1) (vI vs 2))) ∧ L' = mdU L (q_masks (bF L 1) (oI L 0 3) (oI L 0 2) (vI vs 1) (vI vs 2) (vI vs 3)))
theorem sta_X6_asks : s_Sta c_X6_asks := ⟨⟨by decide +kernel, by decide +kernel, by decide +kernel⟩, List.mem_of_getElem? (i := 1063) (by decide +kernel), List.mem_of_getElem? (i := 70) (by decide +kernel), ⟨List.mem_of_getElem? (i := 1061) (by decide +kernel), List.mem_of_getElem? (i := 1062) (by decide +kernel), Or.inl ⟨_, rfl, rfl⟩⟩⟩

def k_X6_asks : List sBk := [
  (0, false, [true, true, true, true], [o0 0 (.aload_n 0), o0 1 (.iload_n 1), oC 2 (.invokevirtual 185) [1015] c_X6_isWish, oN 5 (.ifCond .eq 23) [1], o0 8 (.aload_n 0), o0 9 (.iload_n 2), oC 10 (.invokevirtual 192) [1035] c_X6_isOne, oN 13 (.ifCond .eq 15) [1], o0 16 (.aload_n 0), oK 17 (.iconst 2) (.int 2), o0 18 (.iload_n 1), o0 19 .iadd, o0 20 (.iload_n 2), o0 21 (.iload_n 3), oC 22 (.invokevirtual 195) [1039] c_X6_becomesBit, oN 25 (.goto 4) [2]]),
  (28, false, [false, false, false, false], [oK 28 (.iconst (-1)) (.int (-1)), oN 29 .nop [2]]),
  (29, false, [false, false, false, false], [o0 29 .ireturn])]
set_option maxRecDepth 100000 in
theorem ck_X6_asks : s_ck RX6 cX6_asks 4 2 46 k_X6_asks = true := by decide +kernel

set_option maxRecDepth 100000 in
set_option maxHeartbeats 1000000 in
theorem ok_X6_asks : s_Ok c_X6_asks := by
  refine s_ok_of k_X6_asks (by decide +kernel) sta_X6_asks ck_X6_asks (And.intro ok_X6_isWish (And.intro ok_X6_isOne (And.intro ok_X6_becomesBit trivial))) ?_
  rintro vs L ⟨s, A, w, p, z, n, m, rfl, rfl, hn, hn8, hm, hm8⟩
  refine ⟨rfl, fun G hG => ?_⟩
  have fin : ∀ (a : Int32) (L2 : sH), a = r_masks (A 1) (s 3) (s 2) w p → L2 = mdW s (va_up A 1 (q_masks (A 1) (s 3) (s 2) w p z)) → s_PP (some .int) false c_X6_asks.2.2.2.2.2 [.ref 0, .int w, .int p, .int z] (mdW s A) (some (.int a)) L2 := fun a L2 ha hL => ⟨rfl, ⟨by rw [ha]; rfl, by rw [hL]; rfl⟩, fun h => by cases h⟩
  refine hG 0 _ _ _ (And.intro ⟨s, A, w, n, rfl, rfl, hn, hn8⟩ ?_)
  intro r hr
  obtain rfl : r = some (.int (p_in (s 3) w)) := hr
  refine And.intro (fun h => ?_) (fun h => ?_)
  · exact fin _ _ (by rw [r_masks, if_pos h]) (by rw [show q_masks (A 1) (s 3) (s 2) w p z = A 1 by funext j; rw [q_masks, if_pos h], va_up1])
  refine And.intro ⟨s, A, p, m, rfl, rfl, hm, hm8⟩ ?_
  intro r hr
  obtain rfl : r = some (.int (p_in (s 2) p)) := hr
  refine And.intro (fun h2 => ?_) (fun h2 => ?_)
  · exact fin _ _ (by rw [r_masks, if_neg h, if_pos h2]) (by rw [show q_masks (A 1) (s 3) (s 2) w p z = A 1 by funext j; rw [q_masks, if_neg h, if_pos h2], va_up1])
  have h3 := h
  rw [hn] at h3
  obtain ⟨j, hj, hw⟩ := p_in_ne hn8 h3
  have e : (2 : Int32) + w = nI (2 + j) := by rw [hw]; exact nI_add 2 j
  have ec : ((2 : Int32) + w).toNatClampNeg = 2 + w.toNatClampNeg := by rw [e, hw, nI_clamp (by omega), nI_clamp (by omega)]
  refine And.intro ⟨s, A, _, _, _, 2 + j, rfl, rfl, e, by omega⟩ ?_
  rintro r L' ⟨hr, hL⟩
  obtain rfl : r = some (.int ((A 1 (2 + w.toNatClampNeg) >>> (p &&& 31)) &&& 1)) := by rw [← ec]; exact hr
  obtain rfl : L' = mdW s (va_up A 1 (q_mrow 2 (A 1) w p z)) := by rw [q_mrow, ← ec]; exact hL
  exact fin _ _ (by rw [r_masks, if_neg h, if_neg h2]) (by rw [show q_masks (A 1) (s 3) (s 2) w p z = q_mrow 2 (A 1) w p z by funext j; rw [q_masks, if_neg h, if_neg h2]]; rfl)
def r_mneeds (st : Nat → Int32) (y w v : Int32) : Int32 := if p_two y w v = 0 then -1 else (st (10 + w.toNatClampNeg) >>> (v &&& 31)) &&& 1
def q_mneeds (st : Nat → Int32) (y w v z : Int32) : Nat → Int32 := fun j => if p_two y w v = 0 then st j else q_mrow 10 st w v z j
def r_mclash (st : Nat → Int32) (y w v : Int32) : Int32 := if p_two y w v = 0 then -1 else (q_mrow 18 st v w 0 (18 + w.toNatClampNeg) >>> (v &&& 31)) &&& 1
end
section
/-! ===== WishClerkModel: needs, clash, plans, tape, rule, wish ===== -/
def c_X6_needs : sCtr := ((yX6_needs, cX6_needs, 4, (some .int)), (7, 3, 2, 46), false,
  mdfp,
  fun vs L => ∃ (s : Nat → Int32) (A : Nat → Nat → Int32) (w v z : Int32) (n : Nat), vs = [.ref 0, .int w, .int v, .int z] ∧ L = mdW s A ∧ s 3 = nI n ∧ n ≤ 8,
  fun vs L r L' => r = some (.int (r_mneeds (bF L 1) (oI L 0 3) (vI vs 1) (vI vs 2))) ∧ L' = mdU L (q_mneeds (bF L 1) (oI L 0 3) (vI vs 1) (vI vs 2) (vI vs 3)))
theorem sta_X6_needs : s_Sta c_X6_needs := ⟨⟨by decide +kernel, by decide +kernel, by decide +kernel⟩, List.mem_of_getElem? (i := 1067) (by decide +kernel), List.mem_of_getElem? (i := 70) (by decide +kernel), ⟨List.mem_of_getElem? (i := 1065) (by decide +kernel), List.mem_of_getElem? (i := 1066) (by decide +kernel), Or.inl ⟨_, rfl, rfl⟩⟩⟩

def k_X6_needs : List sBk := [
  (0, false, [true, true, true, true], [o0 0 (.aload_n 0), o0 1 (.iload_n 1), oC 2 (.invokevirtual 185) [1015] c_X6_isWish, oN 5 (.ifCond .eq 29) [1], o0 8 (.aload_n 0), o0 9 (.iload_n 2), oC 10 (.invokevirtual 185) [1015] c_X6_isWish, oN 13 (.ifCond .eq 21) [1], o0 16 (.iload_n 1), o0 17 (.iload_n 2), oN 18 (.if_icmp .eq 16) [1], o0 21 (.aload_n 0), oK 22 (.bipush 10) (.int 10), o0 24 (.iload_n 1), o0 25 .iadd, o0 26 (.iload_n 2), o0 27 (.iload_n 3), oC 28 (.invokevirtual 195) [1039] c_X6_becomesBit, oN 31 (.goto 4) [2]]),
  (34, false, [false, false, false, false], [oK 34 (.iconst (-1)) (.int (-1)), oN 35 .nop [2]]),
  (35, false, [false, false, false, false], [o0 35 .ireturn])]
set_option maxRecDepth 100000 in
theorem ck_X6_needs : s_ck RX6 cX6_needs 4 2 46 k_X6_needs = true := by decide +kernel

set_option maxRecDepth 100000 in
set_option maxHeartbeats 1000000 in
theorem ok_X6_needs : s_Ok c_X6_needs := by
  refine s_ok_of k_X6_needs (by decide +kernel) sta_X6_needs ck_X6_needs (And.intro ok_X6_isWish (And.intro ok_X6_isWish (And.intro ok_X6_becomesBit trivial))) ?_
  rintro vs L ⟨s, A, w, v, z, n, rfl, rfl, hn, hn8⟩
  refine ⟨rfl, fun G hG => ?_⟩
  have fin : ∀ (a : Int32) (L2 : sH), a = r_mneeds (A 1) (s 3) w v → L2 = mdW s (va_up A 1 (q_mneeds (A 1) (s 3) w v z)) → s_PP (some .int) false c_X6_needs.2.2.2.2.2 [.ref 0, .int w, .int v, .int z] (mdW s A) (some (.int a)) L2 := fun a L2 ha hL => ⟨rfl, ⟨by rw [ha]; rfl, by rw [hL]; rfl⟩, fun h => by cases h⟩
  have no : p_two (s 3) w v = 0 → s_PP (some .int) false c_X6_needs.2.2.2.2.2 [.ref 0, .int w, .int v, .int z] (mdW s A) (some (.int (-1))) (mdW s A) := fun h => fin _ _ (by rw [r_mneeds, if_pos h]) (by rw [show q_mneeds (A 1) (s 3) w v z = A 1 by funext j; rw [q_mneeds, if_pos h], va_up1])
  refine hG 0 _ _ _ (And.intro ⟨s, A, w, n, rfl, rfl, hn, hn8⟩ ?_)
  intro r hr
  obtain rfl : r = some (.int (p_in (s 3) w)) := hr
  refine And.intro (fun h => ?_) (fun h => ?_)
  · exact no (by rw [p_two, if_pos h])
  refine And.intro ⟨s, A, v, n, rfl, rfl, hn, hn8⟩ ?_
  intro r hr
  obtain rfl : r = some (.int (p_in (s 3) v)) := hr
  refine And.intro (fun h2 => ?_) (fun h2 => ?_)
  · exact no (by rw [p_two, if_neg h, if_pos h2])
  refine And.intro (fun h3 => ?_) (fun h3 => ?_)
  · exact no (by rw [p_two, if_neg h, if_neg h2, if_pos h3])
  have ht : ¬ p_two (s 3) w v = 0 := by rw [p_two, if_neg h, if_neg h2, if_neg h3]; decide
  have h4 := h
  rw [hn] at h4
  obtain ⟨j, hj, hw⟩ := p_in_ne hn8 h4
  have e : (10 : Int32) + w = nI (10 + j) := by rw [hw]; exact nI_add 10 j
  have ec : ((10 : Int32) + w).toNatClampNeg = 10 + w.toNatClampNeg := by rw [e, hw, nI_clamp (by omega), nI_clamp (by omega)]
  refine And.intro ⟨s, A, _, _, _, 10 + j, rfl, rfl, e, by omega⟩ ?_
  rintro r L' ⟨hr, hL⟩
  obtain rfl : r = some (.int ((A 1 (10 + w.toNatClampNeg) >>> (v &&& 31)) &&& 1)) := by rw [← ec]; exact hr
  obtain rfl : L' = mdW s (va_up A 1 (q_mrow 10 (A 1) w v z)) := by rw [q_mrow, ← ec]; exact hL
  exact fin _ _ (by rw [r_mneeds, if_neg ht]) (by rw [show q_mneeds (A 1) (s 3) w v z = q_mrow 10 (A 1) w v z by funext j; rw [q_mneeds, if_neg ht]]; rfl)
def r_mcl (st : Nat → Int32) (y w v : Int32) : Int32 := if p_two y w v = 0 then -1 else (st (18 + w.toNatClampNeg) >>> (v &&& 31)) &&& 1
def q_mcl (st : Nat → Int32) (y w v z : Int32) : Nat → Int32 := fun j => if p_two y w v = 0 then st j else q_mrow 18 (q_mrow 18 st v w z) w v z j
def c_X6_clash : sCtr := ((yX6_clash, cX6_clash, 4, (some .int)), (7, 3, 2, 46), false,
  mdfp,
  fun vs L => ∃ (s : Nat → Int32) (A : Nat → Nat → Int32) (w v z : Int32) (n : Nat), vs = [.ref 0, .int w, .int v, .int z] ∧ L = mdW s A ∧ s 3 = nI n ∧ n ≤ 8,
  fun vs L r L' => r = some (.int (r_mcl (bF L 1) (oI L 0 3) (vI vs 1) (vI vs 2))) ∧ L' = mdU L (q_mcl (bF L 1) (oI L 0 3) (vI vs 1) (vI vs 2) (vI vs 3)))
theorem sta_X6_clash : s_Sta c_X6_clash := ⟨⟨by decide +kernel, by decide +kernel, by decide +kernel⟩, List.mem_of_getElem? (i := 1071) (by decide +kernel), List.mem_of_getElem? (i := 70) (by decide +kernel), ⟨List.mem_of_getElem? (i := 1069) (by decide +kernel), List.mem_of_getElem? (i := 1070) (by decide +kernel), Or.inl ⟨_, rfl, rfl⟩⟩⟩

def k_X6_clash : List sBk := [
  (0, false, [true, true, true, true], [o0 0 (.aload_n 0), o0 1 (.iload_n 1), oC 2 (.invokevirtual 185) [1015] c_X6_isWish, oN 5 (.ifCond .eq 16) [1], o0 8 (.aload_n 0), o0 9 (.iload_n 2), oC 10 (.invokevirtual 185) [1015] c_X6_isWish, oN 13 (.ifCond .eq 8) [1], o0 16 (.iload_n 1), o0 17 (.iload_n 2), oN 18 (.if_icmp .ne 5) [2], oN 21 .nop [1]]),
  (21, false, [false, false, false, false], [oK 21 (.iconst (-1)) (.int (-1)), o0 22 .ireturn]),
  (23, false, [true, true, true, true], [o0 23 (.aload_n 0), oK 24 (.bipush 18) (.int 18), o0 26 (.iload_n 2), o0 27 .iadd, o0 28 (.iload_n 1), o0 29 (.iload_n 3), oC 30 (.invokevirtual 195) [1039] c_X6_becomesBit, o0 33 .pop, o0 34 (.aload_n 0), oK 35 (.bipush 18) (.int 18), o0 37 (.iload_n 1), o0 38 .iadd, o0 39 (.iload_n 2), o0 40 (.iload_n 3), oC 41 (.invokevirtual 195) [1039] c_X6_becomesBit, o0 44 .ireturn])]
set_option maxRecDepth 100000 in
theorem ck_X6_clash : s_ck RX6 cX6_clash 4 2 46 k_X6_clash = true := by decide +kernel

set_option maxRecDepth 100000 in
set_option maxHeartbeats 1000000 in
theorem ok_X6_clash : s_Ok c_X6_clash := by
  refine s_ok_of k_X6_clash (by decide +kernel) sta_X6_clash ck_X6_clash (And.intro ok_X6_isWish (And.intro ok_X6_isWish (And.intro ok_X6_becomesBit (And.intro ok_X6_becomesBit trivial)))) ?_
  rintro vs L ⟨s, A, w, v, z, n, rfl, rfl, hn, hn8⟩
  refine ⟨rfl, fun G hG => ?_⟩
  have fin : ∀ (a : Int32) (L2 : sH), a = r_mcl (A 1) (s 3) w v → L2 = mdW s (va_up A 1 (q_mcl (A 1) (s 3) w v z)) → s_PP (some .int) false c_X6_clash.2.2.2.2.2 [.ref 0, .int w, .int v, .int z] (mdW s A) (some (.int a)) L2 := fun a L2 ha hL => ⟨rfl, ⟨by rw [ha]; rfl, by rw [hL]; rfl⟩, fun h => by cases h⟩
  have no : p_two (s 3) w v = 0 → s_PP (some .int) false c_X6_clash.2.2.2.2.2 [.ref 0, .int w, .int v, .int z] (mdW s A) (some (.int (-1))) (mdW s A) := fun h => fin _ _ (by rw [r_mcl, if_pos h]) (by rw [show q_mcl (A 1) (s 3) w v z = A 1 by funext j; rw [q_mcl, if_pos h], va_up1])
  refine hG 0 _ _ _ (And.intro ⟨s, A, w, n, rfl, rfl, hn, hn8⟩ ?_)
  intro r hr
  obtain rfl : r = some (.int (p_in (s 3) w)) := hr
  refine And.intro (fun h => ?_) (fun h => ?_)
  · exact no (by rw [p_two, if_pos h])
  refine And.intro ⟨s, A, v, n, rfl, rfl, hn, hn8⟩ ?_
  intro r hr
  obtain rfl : r = some (.int (p_in (s 3) v)) := hr
  refine And.intro (fun h2 => ?_) (fun h2 => ?_)
  · exact no (by rw [p_two, if_neg h, if_pos h2])
  refine And.intro (fun h3 => ?_) (fun h3 => ?_)
  · exact no (by rw [p_two, if_neg h, if_neg h2, if_pos h3])
  have ht : ¬ p_two (s 3) w v = 0 := by rw [p_two, if_neg h, if_neg h2, if_neg h3]; decide
  have h4 := h
  rw [hn] at h4
  obtain ⟨j, hj, hw⟩ := p_in_ne hn8 h4
  have h5 := h2
  rw [hn] at h5
  obtain ⟨i, hi, hv⟩ := p_in_ne hn8 h5
  have hij : i ≠ j := fun q => h3 (by rw [hw, hv, q])
  have e : (18 : Int32) + w = nI (18 + j) := by rw [hw]; exact nI_add 18 j
  have ec : ((18 : Int32) + w).toNatClampNeg = 18 + w.toNatClampNeg := by rw [e, hw, nI_clamp (by omega), nI_clamp (by omega)]
  have f : (18 : Int32) + v = nI (18 + i) := by rw [hv]; exact nI_add 18 i
  have fc : ((18 : Int32) + v).toNatClampNeg = 18 + v.toNatClampNeg := by rw [f, hv, nI_clamp (by omega), nI_clamp (by omega)]
  have hx : q_mrow 18 (A 1) v w z (18 + w.toNatClampNeg) = A 1 (18 + w.toNatClampNeg) := by
    rw [q_mrow, upd, if_neg]
    rw [hw, hv, nI_clamp (by omega), nI_clamp (by omega)]; omega
  refine And.intro ⟨s, A, _, _, _, 18 + i, rfl, rfl, f, by omega⟩ ?_
  rintro r L' ⟨hr, hL⟩
  obtain rfl : r = some (.int ((A 1 (18 + v.toNatClampNeg) >>> (w &&& 31)) &&& 1)) := by rw [← fc]; exact hr
  obtain rfl : L' = mdW s (va_up A 1 (q_mrow 18 (A 1) v w z)) := by rw [q_mrow, ← fc]; exact hL
  refine And.intro ⟨s, va_up A 1 (q_mrow 18 (A 1) v w z), _, _, _, 18 + j, rfl, rfl, e, by omega⟩ ?_
  rintro r L' ⟨hr, hL⟩
  obtain rfl : r = some (.int ((q_mrow 18 (A 1) v w z (18 + w.toNatClampNeg) >>> (v &&& 31)) &&& 1)) := by rw [← ec]; exact hr
  obtain rfl : L' = mdW s (va_up A 1 (q_mrow 18 (q_mrow 18 (A 1) v w z) w v z)) := by rw [q_mrow, ← ec]; exact hL
  exact fin _ _ (by rw [r_mcl, if_neg ht, hx]) (by rw [show q_mcl (A 1) (s 3) w v z = q_mrow 18 (q_mrow 18 (A 1) v w z) w v z by funext j; rw [q_mcl, if_neg ht]]; rfl)
def r_mplans (st : Nat → Int32) (y w : Int32) : Int32 := if p_in y w = 0 then -1 else if st 29 = 6 then -3 else st 29 + 1
def q_mplans (st : Nat → Int32) (y w : Int32) : Nat → Int32 := fun j => if p_in y w = 0 then st j else if st 29 = 6 then st j else upd (upd st (30 + (st 29).toNatClampNeg) w) 29 (st 29 + 1) j
def c_X6_plans : sCtr := ((yX6_plans, cX6_plans, 2, (some .int)), (7, 1, 2, 46), false,
  mdfp,
  fun vs L => ∃ (s : Nat → Int32) (A : Nat → Nat → Int32) (w : Int32) (n m : Nat), vs = [.ref 0, .int w] ∧ L = mdW s A ∧ s 3 = nI n ∧ n ≤ 8 ∧ A 1 29 = nI m ∧ m ≤ 6,
  fun vs L r L' => r = some (.int (r_mplans (bF L 1) (oI L 0 3) (vI vs 1))) ∧ L' = mdU L (q_mplans (bF L 1) (oI L 0 3) (vI vs 1)))
theorem sta_X6_plans : s_Sta c_X6_plans := ⟨⟨by decide +kernel, by decide +kernel, by decide +kernel⟩, List.mem_of_getElem? (i := 1075) (by decide +kernel), List.mem_of_getElem? (i := 70) (by decide +kernel), ⟨List.mem_of_getElem? (i := 1073) (by decide +kernel), List.mem_of_getElem? (i := 1074) (by decide +kernel), Or.inl ⟨_, rfl, rfl⟩⟩⟩

def k_X6_plans : List sBk := [
  (0, false, [true, true], [o0 0 (.aload_n 0), o0 1 (.iload_n 1), oC 2 (.invokevirtual 185) [1015] c_X6_isWish, oN 5 (.ifCond .ne 5) [1], oK 8 (.iconst (-1)) (.int (-1)), o0 9 .ireturn]),
  (10, false, [true, true], [o0 10 (.aload_n 0), oN 11 (.getfield 7) [6, 0, 822], oK 14 (.bipush 29) (.int 29), o0 16 .iaload, oK 17 (.bipush 6) (.int 6), oN 19 (.if_icmp .ne 6) [2], oK 22 (.bipush (-3)) (.int (-3)), o0 24 .ireturn]),
  (25, false, [true, true], [o0 25 (.aload_n 0), oN 26 (.getfield 7) [6, 0, 822], oK 29 (.bipush 30) (.int 30), o0 31 (.aload_n 0), oN 32 (.getfield 7) [6, 0, 822], oK 35 (.bipush 29) (.int 29), o0 37 .iaload, o0 38 .iadd, o0 39 (.iload_n 1), o0 40 .iastore, o0 41 (.aload_n 0), oN 42 (.getfield 7) [6, 0, 822], oK 45 (.bipush 29) (.int 29), o0 47 .dup2, o0 48 .iaload, oK 49 (.iconst 1) (.int 1), o0 50 .iadd, o0 51 .iastore, o0 52 (.aload_n 0), oN 53 (.getfield 7) [6, 0, 822], oK 56 (.bipush 29) (.int 29), o0 58 .iaload, o0 59 .ireturn])]
set_option maxRecDepth 100000 in
theorem ck_X6_plans : s_ck RX6 cX6_plans 2 2 46 k_X6_plans = true := by decide +kernel

set_option maxRecDepth 100000 in
set_option maxHeartbeats 1000000 in
theorem ok_X6_plans : s_Ok c_X6_plans := by
  refine s_ok_of k_X6_plans (by decide +kernel) sta_X6_plans ck_X6_plans (And.intro ok_X6_isWish trivial) ?_
  rintro vs L ⟨s, A, w, n, m, rfl, rfl, hn, hn8, hm, hm8⟩
  refine ⟨rfl, fun G hG => ?_⟩
  have fin : ∀ (a : Int32) (L2 : sH), a = r_mplans (A 1) (s 3) w → L2 = mdW s (va_up A 1 (q_mplans (A 1) (s 3) w)) → s_PP (some .int) false c_X6_plans.2.2.2.2.2 [.ref 0, .int w] (mdW s A) (some (.int a)) L2 := fun a L2 ha hL => ⟨rfl, ⟨by rw [ha]; rfl, by rw [hL]; rfl⟩, fun h => by cases h⟩
  have i29 : vp_in 29 159 := vp_in_nI (n := 29) (N := 159) (by decide) (by decide)
  refine hG 0 _ _ _ (And.intro ⟨s, A, w, n, rfl, rfl, hn, hn8⟩ ?_)
  intro r hr
  obtain rfl : r = some (.int (p_in (s 3) w)) := hr
  refine And.intro (fun h => ?_) (fun h => ?_)
  · exact fin _ _ (by rw [r_mplans, if_pos h]) (by rw [show q_mplans (A 1) (s 3) w = A 1 by funext j; rw [q_mplans, if_pos h], va_up1])
  refine And.intro i29 (And.intro (fun h2 => ?_) (fun h2 => ?_))
  · have h2 : A 1 29 = 6 := h2
    exact fin _ _ (by rw [r_mplans, if_neg h, if_pos h2]) (by rw [show q_mplans (A 1) (s 3) w = A 1 by funext j; rw [q_mplans, if_neg h, if_pos h2], va_up1])
  have h2 : ¬ A 1 29 = 6 := h2
  have hm6 : m ≠ 6 := fun q => h2 (by rw [hm, q]; rfl)
  have e : (30 : Int32) + A 1 29 = nI (30 + m) := by rw [hm]; exact nI_add 30 m
  have ec : ((30 : Int32) + A 1 29).toNatClampNeg = 30 + (A 1 29).toNatClampNeg := by rw [e, hm, nI_clamp (by omega), nI_clamp (by omega)]
  have hx : upd (A 1) (30 + (A 1 29).toNatClampNeg) w 29 = A 1 29 := by
    rw [upd, if_neg]; omega
  have hy : upd (A 1) ((30 : Int32) + A 1 29).toNatClampNeg w 29 = A 1 29 := by rw [ec, hx]
  refine And.intro i29 (And.intro ?_ ?_)
  · show vp_in ((30 : Int32) + A 1 29) 159
    rw [e]; exact vp_in_nI (by omega) (by omega)
  refine And.intro i29 (And.intro i29 (And.intro i29 ?_))
  refine fin _ _ ?_ ?_
  · show upd (A 1) ((30 : Int32) + A 1 29).toNatClampNeg w 29 + 1 = _
    rw [hy, r_mplans, if_neg h, if_neg h2]
  · show mdW s (va_up A 1 (upd (upd (A 1) ((30 : Int32) + A 1 29).toNatClampNeg w) 29 (upd (A 1) ((30 : Int32) + A 1 29).toNatClampNeg w 29 + 1))) = _
    rw [show q_mplans (A 1) (s 3) w = upd (upd (A 1) (30 + (A 1 29).toNatClampNeg) w) 29 (A 1 29 + 1) by funext j; rw [q_mplans, if_neg h, if_neg h2], hy, ec]
def r_mfeed (ln c : Int32) : Int32 := if c < 0 ∨ 127 < c then -1 else if ln = 160 then -3 else ln + 1
def q_mfeed (ln c : Int32) : Int32 := if c < 0 ∨ 127 < c then ln else if ln = 160 then ln else ln + 1
def q_mfeedF (ln c : Int32) (f : Nat → Int32) : Nat → Int32 := fun j => if c < 0 ∨ 127 < c then f j else if ln = 160 then f j else upd f ln.toNatClampNeg c j
theorem va_upI (A : Nat → Nat → Int32) (k : Nat) : va_up A k (A k) = A := by
  funext j
  unfold va_up
  by_cases h : j = k
  · rw [if_pos h, h]
  · rw [if_neg h]
theorem upd_I (s : Nat → Int32) (k : Nat) : upd s k (s k) = s := by
  funext j
  unfold upd
  by_cases h : j = k
  · rw [if_pos h, h]
  · rw [if_neg h]
def c_X6_feed : sCtr := ((yX6_feed, cX6_feed, 2, (some .int)), (7, 1, 1, 25), false,
  mdfp,
  fun vs L => ∃ (s : Nat → Int32) (A : Nat → Nat → Int32) (c : Int32) (t : Nat), vs = [.ref 0, .int c] ∧ L = mdW s A ∧ s 15 = nI t ∧ t ≤ 160,
  fun vs L r L' => r = some (.int (r_mfeed (oI L 0 15) (vI vs 1))) ∧ L' = mdW (upd (oI L 0) 15 (q_mfeed (oI L 0 15) (vI vs 1))) (va_up (bF L) 8 (q_mfeedF (oI L 0 15) (vI vs 1) (bF L 8))))
theorem sta_X6_feed : s_Sta c_X6_feed := ⟨⟨by decide +kernel, by decide +kernel, by decide +kernel⟩, List.mem_of_getElem? (i := 919) (by decide +kernel), List.mem_of_getElem? (i := 70) (by decide +kernel), ⟨List.mem_of_getElem? (i := 917) (by decide +kernel), List.mem_of_getElem? (i := 918) (by decide +kernel), Or.inl ⟨_, rfl, rfl⟩⟩⟩

def k_X6_feed : List sBk := [
  (0, false, [true, true], [o0 0 (.iload_n 1), o0 1 .i2l, oK 2 (.lconst 0) (.long 0), oV 3 (.ldc2_w 88) [920] (.long 127), oC 6 (.invokestatic 90) [921] c_X6_in, oN 9 (.ifCond .ne 5) [1], oK 12 (.iconst (-1)) (.int (-1)), o0 13 .ireturn]),
  (14, false, [true, true], [o0 14 (.aload_n 0), oN 15 (.getfield 94) [6, 15, 837], oK 18 (.sipush 160) (.int 160), oN 21 (.if_icmp .ne 6) [2], oK 24 (.bipush (-3)) (.int (-3)), o0 26 .ireturn]),
  (27, false, [true, true], [o0 27 (.aload_n 0), oN 28 (.getfield 32) [6, 14, 836], o0 31 (.aload_n 0), oN 32 (.getfield 94) [6, 15, 837], o0 35 (.iload_n 1), o0 36 .iastore, o0 37 (.aload_n 0), o0 38 .dup, oN 39 (.getfield 94) [6, 15, 837], oK 42 (.iconst 1) (.int 1), o0 43 .iadd, oN 44 (.putfield 94) [6, 15, 837], o0 47 (.aload_n 0), oN 48 (.getfield 94) [6, 15, 837], o0 51 .ireturn])]
set_option maxRecDepth 100000 in
theorem ck_X6_feed : s_ck RX6 cX6_feed 2 1 25 k_X6_feed = true := by decide +kernel

set_option maxRecDepth 100000 in
set_option maxHeartbeats 1000000 in
theorem ok_X6_feed : s_Ok c_X6_feed := by
  refine s_ok_of k_X6_feed (by decide +kernel) sta_X6_feed ck_X6_feed (And.intro ok_X6_in trivial) ?_
  rintro vs L ⟨s, A, c, t, rfl, rfl, hl, ht⟩
  refine ⟨rfl, fun G hG => ?_⟩
  have fin : ∀ (a : Int32) (L2 : sH), a = r_mfeed (s 15) c → L2 = mdW (upd s 15 (q_mfeed (s 15) c)) (va_up A 8 (q_mfeedF (s 15) c (A 8))) → s_PP (some .int) false c_X6_feed.2.2.2.2.2 [.ref 0, .int c] (mdW s A) (some (.int a)) L2 := fun a L2 ha hL => ⟨rfl, ⟨by rw [ha]; rfl, by rw [hL]; rfl⟩, fun h => by cases h⟩
  have same : (q_mfeed (s 15) c = s 15) → q_mfeedF (s 15) c (A 8) = A 8 → mdW s A = mdW (upd s 15 (q_mfeed (s 15) c)) (va_up A 8 (q_mfeedF (s 15) c (A 8))) := fun h1 h2 => by rw [h1, h2, upd_I, va_upI]
  refine hG 0 _ _ _ (And.intro ⟨_, _, _, rfl⟩ ?_)
  intro r hr
  obtain ⟨b, hb⟩ : ∃ b, b = p_in64 c.toInt64 0 (127 : Int32).toInt64 := ⟨_, rfl⟩
  obtain rfl : r = some (.int b) := by rw [hb]; exact hr
  refine And.intro (fun h => ?_) (fun h => ?_)
  · have h : c < 0 ∨ 127 < c := (p_rng _ _).mp (hb.symm.trans h)
    exact fin _ _ (by rw [r_mfeed, if_pos h]) (same (by rw [q_mfeed, if_pos h]) (by funext j; rw [q_mfeedF, if_pos h]))
  have h : ¬ (c < 0 ∨ 127 < c) := fun q => h (hb.trans ((p_rng _ _).mpr q))
  refine And.intro (fun h2 => ?_) (fun h2 => ?_)
  · have h2 : s 15 = 160 := h2
    exact fin _ _ (by rw [r_mfeed, if_neg h, if_pos h2]) (same (by rw [q_mfeed, if_neg h, if_pos h2]) (by funext j; rw [q_mfeedF, if_neg h, if_pos h2]))
  have h2 : ¬ s 15 = 160 := h2
  have ht2 : t ≠ 160 := fun q => h2 (by rw [hl, q]; rfl)
  refine And.intro ?_ ?_
  · show vp_in (s 15) 160
    rw [hl]; exact vp_in_nI (by omega) (by omega)
  exact fin _ _ (by rw [r_mfeed, if_neg h, if_neg h2]) (by rw [q_mfeed, if_neg h, if_neg h2, show q_mfeedF (s 15) c (A 8) = upd (A 8) (s 15).toNatClampNeg c by funext j; rw [q_mfeedF, if_neg h, if_neg h2]]; rfl)
def r_mend (ln n : Int32) : Int32 := if n < 0 ∨ ln < n then -1 else ln
def q_mend (ln n : Int32) : Int32 := if n < 0 ∨ ln < n then ln else n
def c_X6_end : sCtr := ((yX6_end, cX6_end, 3, (some .int)), (7, 1, 1, 25), false,
  mdfp,
  fun vs L => ∃ (s : Nat → Int32) (A : Nat → Nat → Int32) (c : Int32), vs = [.ref 0, .int c] ∧ L = mdW s A,
  fun vs L r L' => r = some (.int (r_mend (oI L 0 15) (vI vs 1))) ∧ L' = mdW (upd (oI L 0) 15 (q_mend (oI L 0 15) (vI vs 1))) (bF L))
theorem sta_X6_end : s_Sta c_X6_end := ⟨⟨by decide +kernel, by decide +kernel, by decide +kernel⟩, List.mem_of_getElem? (i := 927) (by decide +kernel), List.mem_of_getElem? (i := 70) (by decide +kernel), ⟨List.mem_of_getElem? (i := 925) (by decide +kernel), List.mem_of_getElem? (i := 926) (by decide +kernel), Or.inl ⟨_, rfl, rfl⟩⟩⟩

def k_X6_end : List sBk := [
  (0, false, [true, true, false], [o0 0 (.iload_n 1), o0 1 .i2l, oK 2 (.lconst 0) (.long 0), o0 3 (.aload_n 0), oN 4 (.getfield 94) [6, 15, 837], o0 7 .i2l, oC 8 (.invokestatic 90) [921] c_X6_in, oN 11 (.ifCond .ne 5) [1], oK 14 (.iconst (-1)) (.int (-1)), o0 15 .ireturn]),
  (16, false, [true, true, false], [o0 16 (.aload_n 0), oN 17 (.getfield 94) [6, 15, 837], o0 20 (.istore_n 2), o0 21 (.aload_n 0), o0 22 (.iload_n 1), oN 23 (.putfield 94) [6, 15, 837], o0 26 (.iload_n 2), o0 27 .ireturn])]
set_option maxRecDepth 100000 in
theorem ck_X6_end : s_ck RX6 cX6_end 3 1 25 k_X6_end = true := by decide +kernel

set_option maxRecDepth 100000 in
set_option maxHeartbeats 1000000 in
theorem ok_X6_end : s_Ok c_X6_end := by
  refine s_ok_of k_X6_end (by decide +kernel) sta_X6_end ck_X6_end (And.intro ok_X6_in trivial) ?_
  rintro vs L ⟨s, A, c, rfl, rfl⟩
  refine ⟨rfl, fun G hG => ?_⟩
  have fin : ∀ (a : Int32) (L2 : sH), a = r_mend (s 15) c → L2 = mdW (upd s 15 (q_mend (s 15) c)) A → s_PP (some .int) false c_X6_end.2.2.2.2.2 [.ref 0, .int c] (mdW s A) (some (.int a)) L2 := fun a L2 ha hL => ⟨rfl, ⟨by rw [ha]; rfl, by rw [hL]; rfl⟩, fun h => by cases h⟩
  refine hG 0 _ _ _ (And.intro ⟨_, _, _, rfl⟩ ?_)
  intro r hr
  obtain ⟨b, hb⟩ : ∃ b, b = p_in64 c.toInt64 0 (s 15).toInt64 := ⟨_, rfl⟩
  obtain rfl : r = some (.int b) := by rw [hb]; exact hr
  refine And.intro (fun h => ?_) (fun h => ?_)
  · have h : c < 0 ∨ s 15 < c := (p_rng _ _).mp (hb.symm.trans h)
    exact fin _ _ (by rw [r_mend, if_pos h]) (by rw [q_mend, if_pos h, upd_I])
  have h : ¬ (c < 0 ∨ s 15 < c) := fun q => h (hb.trans ((p_rng _ _).mpr q))
  exact fin _ _ (by rw [r_mend, if_neg h]) (by rw [q_mend, if_neg h]; rfl)
def c_X6_fault : sCtr := ((yX6_fault, cX6_fault, 1, (some .int)), (7, 0, 0, 0), true,
  mdfp,
  fun vs L => ∃ (s : Nat → Int32) (A : Nat → Nat → Int32), vs = [.ref 0] ∧ L = mdW s A,
  fun _ L r _ => r = some (.int (oI L 0 20)))
theorem sta_X6_fault : s_Sta c_X6_fault := ⟨⟨by decide +kernel, by decide +kernel, by decide +kernel⟩, List.mem_of_getElem? (i := 1006) (by decide +kernel), List.mem_of_getElem? (i := 70) (by decide +kernel), ⟨List.mem_of_getElem? (i := 1004) (by decide +kernel), List.mem_of_getElem? (i := 1005) (by decide +kernel), Or.inl ⟨_, rfl, rfl⟩⟩⟩

def k_X6_fault : List sBk := [
  (0, false, [true], [o0 0 (.aload_n 0), oN 1 (.getfield 97) [6, 20, 842], o0 4 .ireturn])]
set_option maxRecDepth 100000 in
theorem ck_X6_fault : s_ck RX6 cX6_fault 1 0 0 k_X6_fault = true := by decide +kernel

set_option maxRecDepth 100000 in
set_option maxHeartbeats 1000000 in
theorem ok_X6_fault : s_Ok c_X6_fault := by
  refine s_ok_of k_X6_fault (by decide +kernel) sta_X6_fault ck_X6_fault trivial ?_
  rintro vs L ⟨s, A, rfl, rfl⟩
  exact ⟨rfl, fun G hG => hG 0 _ _ _ ⟨rfl, rfl, fun _ => rfl⟩⟩
def r_mrule (p0 y : Int32) (st : Nat → Int32) (x : Int32) : Int32 := if x = 0 then p0 else if x = 1 then y else if x = 2 then st 28 else if x = 3 then st 0 else if x = 4 then st 1 else if x = 5 then st 26 else if x = 6 then st 27 else if x = 7 then st 29 else -1
def c_X6_rule : sCtr := ((yX6_rule, cX6_rule, 2, (some .int)), (7, 1, 0, 0), true,
  mdfp,
  fun vs L => ∃ (s : Nat → Int32) (A : Nat → Nat → Int32) (x : Int32), vs = [.ref 0, .int x] ∧ L = mdW s A,
  fun vs L r _ => r = some (.int (r_mrule (oI L 0 2) (oI L 0 3) (bF L 1) (vI vs 1))))
theorem sta_X6_rule : s_Sta c_X6_rule := ⟨⟨by decide +kernel, by decide +kernel, by decide +kernel⟩, List.mem_of_getElem? (i := 1010) (by decide +kernel), List.mem_of_getElem? (i := 70) (by decide +kernel), ⟨List.mem_of_getElem? (i := 1008) (by decide +kernel), List.mem_of_getElem? (i := 1009) (by decide +kernel), Or.inl ⟨_, rfl, rfl⟩⟩⟩

def k_X6_rule : List sBk := [
  (0, false, [true, true], [o0 0 (.iload_n 1), oN 1 (.tableswitch 103 0 7 #[47, 52, 57, 65, 72, 79, 87, 95]) [9, 1, 2, 3, 4, 5, 6, 7, 8]]),
  (48, false, [true, false], [o0 48 (.aload_n 0), oN 49 (.getfield 82) [6, 2, 824], o0 52 .ireturn]),
  (53, false, [true, false], [o0 53 (.aload_n 0), oN 54 (.getfield 85) [6, 3, 825], o0 57 .ireturn]),
  (58, false, [true, false], [o0 58 (.aload_n 0), oN 59 (.getfield 7) [6, 0, 822], oK 62 (.bipush 28) (.int 28), o0 64 .iaload, o0 65 .ireturn]),
  (66, false, [true, false], [o0 66 (.aload_n 0), oN 67 (.getfield 7) [6, 0, 822], oK 70 (.iconst 0) (.int 0), o0 71 .iaload, o0 72 .ireturn]),
  (73, false, [true, false], [o0 73 (.aload_n 0), oN 74 (.getfield 7) [6, 0, 822], oK 77 (.iconst 1) (.int 1), o0 78 .iaload, o0 79 .ireturn]),
  (80, false, [true, false], [o0 80 (.aload_n 0), oN 81 (.getfield 7) [6, 0, 822], oK 84 (.bipush 26) (.int 26), o0 86 .iaload, o0 87 .ireturn]),
  (88, false, [true, false], [o0 88 (.aload_n 0), oN 89 (.getfield 7) [6, 0, 822], oK 92 (.bipush 27) (.int 27), o0 94 .iaload, o0 95 .ireturn]),
  (96, false, [true, false], [o0 96 (.aload_n 0), oN 97 (.getfield 7) [6, 0, 822], oK 100 (.bipush 29) (.int 29), o0 102 .iaload, o0 103 .ireturn]),
  (104, false, [false, false], [oK 104 (.iconst (-1)) (.int (-1)), o0 105 .ireturn])]
set_option maxRecDepth 100000 in
theorem ck_X6_rule : s_ck RX6 cX6_rule 2 0 0 k_X6_rule = true := by decide +kernel

set_option maxRecDepth 100000 in
set_option maxHeartbeats 1000000 in
theorem ok_X6_rule : s_Ok c_X6_rule := by
  refine s_ok_of k_X6_rule (by decide +kernel) sta_X6_rule ck_X6_rule trivial ?_
  rintro vs L ⟨s, A, x, rfl, rfl⟩
  refine ⟨rfl, fun G hG => ?_⟩
  refine hG 0 _ _ _ (And.intro ?_ ?_)
  · refine And.intro ?_ (And.intro ?_ (And.intro ?_ (And.intro ?_ (And.intro ?_ (And.intro ?_ (And.intro ?_ (And.intro ?_ trivial)))))))
    · intro h; obtain rfl := h; exact ⟨rfl, rfl, fun _ => rfl⟩
    · intro h; obtain rfl := h; exact ⟨rfl, rfl, fun _ => rfl⟩
    · intro h; obtain rfl := h; exact And.intro (vp_in_nI (n := 28) (N := 159) (by decide) (by decide)) ⟨rfl, rfl, fun _ => rfl⟩
    · intro h; obtain rfl := h; exact And.intro (vp_in_nI (n := 0) (N := 159) (by decide) (by decide)) ⟨rfl, rfl, fun _ => rfl⟩
    · intro h; obtain rfl := h; exact And.intro (vp_in_nI (n := 1) (N := 159) (by decide) (by decide)) ⟨rfl, rfl, fun _ => rfl⟩
    · intro h; obtain rfl := h; exact And.intro (vp_in_nI (n := 26) (N := 159) (by decide) (by decide)) ⟨rfl, rfl, fun _ => rfl⟩
    · intro h; obtain rfl := h; exact And.intro (vp_in_nI (n := 27) (N := 159) (by decide) (by decide)) ⟨rfl, rfl, fun _ => rfl⟩
    · intro h; obtain rfl := h; exact And.intro (vp_in_nI (n := 29) (N := 159) (by decide) (by decide)) ⟨rfl, rfl, fun _ => rfl⟩
  · intro h
    refine ⟨rfl, ?_, fun _ => rfl⟩
    show some (Value.int (-1)) = some (Value.int (r_mrule (s 2) (s 3) (A 1) x))
    have t := fun k hk => tab_out h k hk
    rw [r_mrule, if_neg (t 0 (by decide)), if_neg (t 1 (by decide)), if_neg (t 2 (by decide)), if_neg (t 3 (by decide)), if_neg (t 4 (by decide)), if_neg (t 5 (by decide)), if_neg (t 6 (by decide)), if_neg (t 7 (by decide))]
def r_mwish (y : Int32) (st ye pr : Nat → Int32) (n : Nat) (w x : Int32) : Int32 := if p_in y w = 0 then -1 else if x = 0 then ye w.toNatClampNeg else if x = 1 then pr w.toNatClampNeg else if x = 2 then st (2 + w.toNatClampNeg) else if x = 3 then st (10 + w.toNatClampNeg) else if x = 4 then st (18 + w.toNatClampNeg) else if x = 5 then p_fw (fun i => st (10 + i)) n ((1 : Int32) <<< (w &&& 31)) else if x = 6 then p_ga (fun i => st (2 + i)) n (p_fw (fun i => st (10 + i)) n ((1 : Int32) <<< (w &&& 31))) else -1
def c_X6_wish : sCtr := ((yX6_wish, cX6_wish, 3, (some .int)), (7, 2, 2, 47), true,
  mdfp,
  fun vs L => ∃ (s : Nat → Int32) (A : Nat → Nat → Int32) (w x : Int32) (n : Nat), vs = [.ref 0, .int w, .int x] ∧ L = mdW s A ∧ s 3 = nI n ∧ n ≤ 8,
  fun vs L r _ => r = some (.int (r_mwish (oI L 0 3) (bF L 1) (bF L 3) (bF L 4) (oI L 0 3).toNatClampNeg (vI vs 1) (vI vs 2))))
theorem sta_X6_wish : s_Sta c_X6_wish := ⟨⟨by decide +kernel, by decide +kernel, by decide +kernel⟩, List.mem_of_getElem? (i := 1014) (by decide +kernel), List.mem_of_getElem? (i := 70) (by decide +kernel), ⟨List.mem_of_getElem? (i := 1012) (by decide +kernel), List.mem_of_getElem? (i := 1013) (by decide +kernel), Or.inl ⟨_, rfl, rfl⟩⟩⟩

def k_X6_wish : List sBk := [
  (0, false, [true, true, true], [o0 0 (.aload_n 0), o0 1 (.iload_n 1), oC 2 (.invokevirtual 185) [1015] c_X6_isWish, oN 5 (.ifCond .ne 5) [1], oK 8 (.iconst (-1)) (.int (-1)), o0 9 .ireturn]),
  (10, false, [true, true, true], [o0 10 (.iload_n 2), oN 11 (.tableswitch 105 0 6 #[41, 48, 55, 64, 74, 84, 92]) [9, 2, 3, 4, 5, 6, 7, 8]]),
  (52, false, [true, true, false], [o0 52 (.aload_n 0), oN 53 (.getfield 17) [6, 4, 826], o0 56 (.iload_n 1), o0 57 .iaload, o0 58 .ireturn]),
  (59, false, [true, true, false], [o0 59 (.aload_n 0), oN 60 (.getfield 20) [6, 5, 827], o0 63 (.iload_n 1), o0 64 .iaload, o0 65 .ireturn]),
  (66, false, [true, true, false], [o0 66 (.aload_n 0), oN 67 (.getfield 7) [6, 0, 822], oK 70 (.iconst 2) (.int 2), o0 71 (.iload_n 1), o0 72 .iadd, o0 73 .iaload, o0 74 .ireturn]),
  (75, false, [true, true, false], [o0 75 (.aload_n 0), oN 76 (.getfield 7) [6, 0, 822], oK 79 (.bipush 10) (.int 10), o0 81 (.iload_n 1), o0 82 .iadd, o0 83 .iaload, o0 84 .ireturn]),
  (85, false, [true, true, false], [o0 85 (.aload_n 0), oN 86 (.getfield 7) [6, 0, 822], oK 89 (.bipush 18) (.int 18), o0 91 (.iload_n 1), o0 92 .iadd, o0 93 .iaload, o0 94 .ireturn]),
  (95, false, [true, true, false], [o0 95 (.aload_n 0), oK 96 (.iconst 1) (.int 1), o0 97 (.iload_n 1), o0 98 .ishl, oC 99 (.invokevirtual 189) [1019] c_X6_follow, o0 102 .ireturn]),
  (103, false, [true, true, false], [o0 103 (.aload_n 0), oK 104 (.iconst 2) (.int 2), o0 105 (.aload_n 0), oK 106 (.iconst 1) (.int 1), o0 107 (.iload_n 1), o0 108 .ishl, oC 109 (.invokevirtual 189) [1019] c_X6_follow, oC 112 (.invokevirtual 182) [1023] c_X6_allOf, o0 115 .ireturn]),
  (116, false, [false, false, false], [oK 116 (.iconst (-1)) (.int (-1)), o0 117 .ireturn])]
set_option maxRecDepth 100000 in
theorem ck_X6_wish : s_ck RX6 cX6_wish 3 2 47 k_X6_wish = true := by decide +kernel

set_option maxRecDepth 100000 in
set_option maxHeartbeats 1000000 in
theorem ok_X6_wish : s_Ok c_X6_wish := by
  refine s_ok_of k_X6_wish (by decide +kernel) sta_X6_wish ck_X6_wish (And.intro ok_X6_isWish (And.intro ok_X6_follow (And.intro ok_X6_follow (And.intro ok_X6_allOf trivial)))) ?_
  rintro vs L ⟨s, A, w, x, n, rfl, rfl, hn, hn8⟩
  refine ⟨rfl, fun G hG => ?_⟩
  have fin : ∀ a : Int32, a = r_mwish (s 3) (A 1) (A 3) (A 4) (s 3).toNatClampNeg w x → s_PP (some .int) true c_X6_wish.2.2.2.2.2 [.ref 0, .int w, .int x] (mdW s A) (some (.int a)) (mdW s A) := fun a ha => ⟨rfl, by rw [ha]; rfl, fun _ => rfl⟩
  refine hG 0 _ _ _ (And.intro ⟨s, A, w, n, rfl, rfl, hn, hn8⟩ ?_)
  intro r hr
  obtain rfl : r = some (.int (p_in (s 3) w)) := hr
  refine And.intro (fun h => ?_) (fun h => ?_)
  · exact fin _ (by rw [r_mwish, if_pos h])
  have h' := h
  rw [hn] at h
  obtain ⟨j, hj, hw⟩ := p_in_ne hn8 h
  have hin : vp_in w 8 := by rw [hw]; exact vp_in_nI (by omega) (by omega)
  have ex : ∀ (K : Nat), K ≤ 18 → nI K + w = nI (K + j) := fun K _ => by rw [hw]; exact nI_add K j
  have ec : ∀ (K : Nat), K ≤ 18 → (nI K + w).toNatClampNeg = K + w.toNatClampNeg := fun K hK => by rw [ex K hK, hw, nI_clamp (by omega), nI_clamp (by omega)]
  have ei : ∀ (K : Nat), K ≤ 18 → vp_in (nI K + w) 159 := fun K hK => by rw [ex K hK]; exact vp_in_nI (by omega) (by omega)
  refine And.intro ?_ ?_
  · refine And.intro ?_ (And.intro ?_ (And.intro ?_ (And.intro ?_ (And.intro ?_ (And.intro ?_ (And.intro ?_ trivial))))))
    · intro hx; obtain rfl := hx; exact And.intro hin (fin _ (by rw [r_mwish, if_neg h']; rfl))
    · intro hx; obtain rfl := hx; exact And.intro hin (fin _ (by rw [r_mwish, if_neg h']; rfl))
    · intro hx; obtain rfl := hx; exact And.intro (ei 2 (by omega)) (fin _ (by rw [r_mwish, if_neg h', ← ec 2 (by omega)]; rfl))
    · intro hx; obtain rfl := hx; exact And.intro (ei 10 (by omega)) (fin _ (by rw [r_mwish, if_neg h', ← ec 10 (by omega)]; rfl))
    · intro hx; obtain rfl := hx; exact And.intro (ei 18 (by omega)) (fin _ (by rw [r_mwish, if_neg h', ← ec 18 (by omega)]; rfl))
    · intro hx; obtain rfl := hx
      refine And.intro ⟨s, A, _, n, rfl, rfl, hn, hn8⟩ ?_
      intro r hr
      obtain rfl : r = some (.int (p_fw (mNd A) (s 3).toNatClampNeg ((1 : Int32) <<< (w &&& 31)))) := hr
      exact fin _ (by rw [r_mwish, if_neg h']; rfl)
    · intro hx; obtain rfl := hx
      refine And.intro ⟨s, A, _, n, rfl, rfl, hn, hn8⟩ ?_
      intro r hr
      obtain rfl : r = some (.int (p_fw (mNd A) (s 3).toNatClampNeg ((1 : Int32) <<< (w &&& 31)))) := hr
      refine And.intro ⟨s, A, 2, _, n, rfl, rfl, hn, hn8, by omega⟩ ?_
      intro r hr
      obtain rfl : r = some (.int (p_ga (mOn A) (s 3).toNatClampNeg (p_fw (mNd A) (s 3).toNatClampNeg ((1 : Int32) <<< (w &&& 31))))) := hr
      exact fin _ (by rw [r_mwish, if_neg h']; rfl)
  · intro hx
    have t := fun k hk => tab_out hx k hk
    exact fin _ (by rw [r_mwish, if_neg h', if_neg (t 0 (by decide)), if_neg (t 1 (by decide)), if_neg (t 2 (by decide)), if_neg (t 3 (by decide)), if_neg (t 4 (by decide)), if_neg (t 5 (by decide)), if_neg (t 6 (by decide))])
end
section
/-! ===== WishClerkModel: asking, taking back, what is broken, what is seen ===== -/
def p_mfo (st : Nat → Int32) (n : Nat) : Nat → Int32 := fun i => p_fw (fun i => st (10 + i)) n ((1 : Int32) <<< (nI i &&& 31))
def p_mwa (st : Nat → Int32) (n : Nat) : Nat → Int32 := fun i => p_ga (fun i => st (2 + i)) n (p_mfo st n i)
def r_mplan (st : Nat → Int32) (i : Int32) : Int32 := if p_in (st 29) i = 0 then -1 else st (30 + i.toNatClampNeg)
theorem vi159 (k : Nat) (h : k < 159) : vp_in (nI k) 159 := vp_in_nI h (by omega)
def c_X6_plan : sCtr := ((yX6_plan, cX6_plan, 2, (some .int)), (7, 1, 1, 25), true,
  mdfp,
  fun vs L => ∃ (s : Nat → Int32) (A : Nat → Nat → Int32) (i : Int32) (m : Nat), vs = [.ref 0, .int i] ∧ L = mdW s A ∧ A 1 29 = nI m ∧ m ≤ 6,
  fun vs L r _ => r = some (.int (r_mplan (bF L 1) (vI vs 1))))
theorem sta_X6_plan : s_Sta c_X6_plan := ⟨⟨by decide +kernel, by decide +kernel, by decide +kernel⟩, List.mem_of_getElem? (i := 1030) (by decide +kernel), List.mem_of_getElem? (i := 70) (by decide +kernel), ⟨List.mem_of_getElem? (i := 1028) (by decide +kernel), List.mem_of_getElem? (i := 1029) (by decide +kernel), Or.inl ⟨_, rfl, rfl⟩⟩⟩

def k_X6_plan : List sBk := [
  (0, false, [true, true], [o0 0 (.iload_n 1), o0 1 .i2l, oK 2 (.lconst 0) (.long 0), o0 3 (.aload_n 0), oN 4 (.getfield 7) [6, 0, 822], oK 7 (.bipush 29) (.int 29), o0 9 .iaload, oK 10 (.iconst 1) (.int 1), o0 11 .isub, o0 12 .i2l, oC 13 (.invokestatic 90) [921] c_X6_in, oN 16 (.ifCond .eq 15) [1], o0 19 (.aload_n 0), oN 20 (.getfield 7) [6, 0, 822], oK 23 (.bipush 30) (.int 30), o0 25 (.iload_n 1), o0 26 .iadd, o0 27 .iaload, oN 28 (.goto 4) [2]]),
  (31, false, [false, false], [oK 31 (.iconst (-1)) (.int (-1)), oN 32 .nop [2]]),
  (32, false, [false, false], [o0 32 .ireturn])]
set_option maxRecDepth 100000 in
theorem ck_X6_plan : s_ck RX6 cX6_plan 2 1 25 k_X6_plan = true := by decide +kernel

set_option maxRecDepth 100000 in
set_option maxHeartbeats 1000000 in
theorem ok_X6_plan : s_Ok c_X6_plan := by
  refine s_ok_of k_X6_plan (by decide +kernel) sta_X6_plan ck_X6_plan (And.intro ok_X6_in trivial) ?_
  rintro vs L ⟨s, A, i, m, rfl, rfl, hm, hm8⟩
  refine ⟨rfl, fun G hG => ?_⟩
  have fin : ∀ a : Int32, a = r_mplan (A 1) i → s_PP (some .int) true c_X6_plan.2.2.2.2.2 [.ref 0, .int i] (mdW s A) (some (.int a)) (mdW s A) := fun a ha => ⟨rfl, by rw [ha]; rfl, fun _ => rfl⟩
  refine hG 0 _ _ _ (And.intro (vi159 29 (by omega)) (And.intro ⟨_, _, _, rfl⟩ ?_))
  intro r hr
  obtain ⟨b, hb⟩ : ∃ b, b = p_in (A 1 29) i := ⟨_, rfl⟩
  obtain rfl : r = some (.int b) := by
    have h1 : r = some (.int (p_in64 i.toInt64 0 (A 1 29 - 1).toInt64)) := hr
    rw [h1, hb, hm, p_in64_in i (by omega)]
  refine And.intro (fun h => ?_) (fun h => ?_)
  · have h : b = 0 := h
    exact fin _ (by rw [r_mplan, ← hb, if_pos h])
  have h : ¬ b = 0 := h
  have h2 := h
  rw [hb, hm] at h2
  obtain ⟨j, hj, hi⟩ := p_in_ne (by omega) h2
  have e : (30 : Int32) + i = nI (30 + j) := by rw [hi]; exact nI_add 30 j
  have ec : ((30 : Int32) + i).toNatClampNeg = 30 + i.toNatClampNeg := by rw [e, hi, nI_clamp (by omega), nI_clamp (by omega)]
  refine And.intro ?_ ?_
  · show vp_in ((30 : Int32) + i) 159
    rw [e]; exact vi159 _ (by omega)
  · exact fin _ (by rw [r_mplan, ← hb, if_neg h, ← ec])
def r_mlooks (st : Nat → Int32) (y : Int32) (n : Nat) (w : Int32) : Int32 := if p_in y w = 0 then -1 else p_it (fun i => st (10 + i)) n (st 26) ((1 : Int32) <<< (w &&& 31)) (st 28).toNatClampNeg
def c_X6_looks : sCtr := ((yX6_looks, cX6_looks, 2, (some .int)), (7, 1, 2, 49), true,
  mdfp,
  fun vs L => ∃ (s : Nat → Int32) (A : Nat → Nat → Int32) (w : Int32) (n d : Nat), vs = [.ref 0, .int w] ∧ L = mdW s A ∧ s 3 = nI n ∧ n ≤ 8 ∧ A 1 28 = nI d ∧ d ≤ 8,
  fun vs L r _ => r = some (.int (r_mlooks (bF L 1) (oI L 0 3) (oI L 0 3).toNatClampNeg (vI vs 1))))
theorem sta_X6_looks : s_Sta c_X6_looks := ⟨⟨by decide +kernel, by decide +kernel, by decide +kernel⟩, List.mem_of_getElem? (i := 1083) (by decide +kernel), List.mem_of_getElem? (i := 70) (by decide +kernel), ⟨List.mem_of_getElem? (i := 1081) (by decide +kernel), List.mem_of_getElem? (i := 1082) (by decide +kernel), Or.inl ⟨_, rfl, rfl⟩⟩⟩

def k_X6_looks : List sBk := [
  (0, false, [true, true], [o0 0 (.aload_n 0), o0 1 (.iload_n 1), oC 2 (.invokevirtual 185) [1015] c_X6_isWish, oN 5 (.ifCond .eq 25) [1], o0 8 (.aload_n 0), o0 9 (.iload_n 1), o0 10 (.aload_n 0), oN 11 (.getfield 7) [6, 0, 822], oK 14 (.bipush 26) (.int 26), o0 16 .iaload, o0 17 (.aload_n 0), oN 18 (.getfield 7) [6, 0, 822], oK 21 (.bipush 28) (.int 28), o0 23 .iaload, oC 24 (.invokevirtual 204) [1084] c_X6_looksAt, oN 27 (.goto 4) [2]]),
  (30, false, [false, false], [oK 30 (.iconst (-1)) (.int (-1)), oN 31 .nop [2]]),
  (31, false, [false, false], [o0 31 .ireturn])]
set_option maxRecDepth 100000 in
theorem ck_X6_looks : s_ck RX6 cX6_looks 2 2 49 k_X6_looks = true := by decide +kernel

set_option maxRecDepth 100000 in
set_option maxHeartbeats 1000000 in
theorem ok_X6_looks : s_Ok c_X6_looks := by
  refine s_ok_of k_X6_looks (by decide +kernel) sta_X6_looks ck_X6_looks (And.intro ok_X6_isWish (And.intro ok_X6_looksAt trivial)) ?_
  rintro vs L ⟨s, A, w, n, d, rfl, rfl, hn, hn8, hd, hd8⟩
  refine ⟨rfl, fun G hG => ?_⟩
  have fin : ∀ a : Int32, a = r_mlooks (A 1) (s 3) (s 3).toNatClampNeg w → s_PP (some .int) true c_X6_looks.2.2.2.2.2 [.ref 0, .int w] (mdW s A) (some (.int a)) (mdW s A) := fun a ha => ⟨rfl, by rw [ha]; rfl, fun _ => rfl⟩
  refine hG 0 _ _ _ (And.intro ⟨s, A, w, n, rfl, rfl, hn, hn8⟩ ?_)
  intro r hr
  obtain rfl : r = some (.int (p_in (s 3) w)) := hr
  refine And.intro (fun h => ?_) (fun h => ?_)
  · exact fin _ (by rw [r_mlooks, if_pos h])
  refine And.intro (vi159 26 (by omega)) (And.intro (vi159 28 (by omega)) (And.intro ⟨s, A, _, _, _, n, d, rfl, rfl, hn, hn8, hd, hd8⟩ ?_))
  intro r hr
  obtain rfl : r = some (.int (p_it (mNd A) (s 3).toNatClampNeg (A 1 26) ((1 : Int32) <<< (w &&& 31)) (A 1 28).toNatClampNeg)) := hr
  exact fin _ (by rw [r_mlooks, if_neg h]; rfl)
def r_mrefuses (st : Nat → Int32) (y : Int32) (n : Nat) (w : Int32) : Int32 := if p_in y w = 0 then -1 else p_re (fun i => st (2 + i)) (fun i => st (10 + i)) (fun i => st (18 + i)) n (st 27) (st 1) w (st 26) (st 0) (st 28).toNatClampNeg
def c_X6_refuses : sCtr := ((yX6_refuses, cX6_refuses, 2, (some .int)), (7, 1, 3, 75), true,
  mdfp,
  fun vs L => ∃ (s : Nat → Int32) (A : Nat → Nat → Int32) (w : Int32) (n d : Nat), vs = [.ref 0, .int w] ∧ L = mdW s A ∧ s 3 = nI n ∧ n ≤ 8 ∧ A 1 28 = nI d ∧ d ≤ 8,
  fun vs L r _ => r = some (.int (r_mrefuses (bF L 1) (oI L 0 3) (oI L 0 3).toNatClampNeg (vI vs 1))))
theorem sta_X6_refuses : s_Sta c_X6_refuses := ⟨⟨by decide +kernel, by decide +kernel, by decide +kernel⟩, List.mem_of_getElem? (i := 1091) (by decide +kernel), List.mem_of_getElem? (i := 70) (by decide +kernel), ⟨List.mem_of_getElem? (i := 1089) (by decide +kernel), List.mem_of_getElem? (i := 1090) (by decide +kernel), Or.inl ⟨_, rfl, rfl⟩⟩⟩

def k_X6_refuses : List sBk := [
  (0, false, [true, true], [o0 0 (.aload_n 0), o0 1 (.iload_n 1), oC 2 (.invokevirtual 185) [1015] c_X6_isWish, oN 5 (.ifCond .eq 38) [1], o0 8 (.aload_n 0), o0 9 (.iload_n 1), o0 10 (.aload_n 0), oN 11 (.getfield 7) [6, 0, 822], oK 14 (.bipush 26) (.int 26), o0 16 .iaload, o0 17 (.aload_n 0), oN 18 (.getfield 7) [6, 0, 822], oK 21 (.iconst 0) (.int 0), o0 22 .iaload, o0 23 (.aload_n 0), oN 24 (.getfield 7) [6, 0, 822], oK 27 (.bipush 28) (.int 28), o0 29 .iaload, o0 30 (.aload_n 0), oN 31 (.getfield 7) [6, 0, 822], oK 34 (.bipush 27) (.int 27), o0 36 .iaload, oC 37 (.invokevirtual 212) [1092] c_X6_refusal, oN 40 (.goto 4) [2]]),
  (43, false, [false, false], [oK 43 (.iconst (-1)) (.int (-1)), oN 44 .nop [2]]),
  (44, false, [false, false], [o0 44 .ireturn])]
set_option maxRecDepth 100000 in
theorem ck_X6_refuses : s_ck RX6 cX6_refuses 2 3 75 k_X6_refuses = true := by decide +kernel

set_option maxRecDepth 100000 in
set_option maxHeartbeats 1000000 in
theorem ok_X6_refuses : s_Ok c_X6_refuses := by
  refine s_ok_of k_X6_refuses (by decide +kernel) sta_X6_refuses ck_X6_refuses (And.intro ok_X6_isWish (And.intro ok_X6_refusal trivial)) ?_
  rintro vs L ⟨s, A, w, n, d, rfl, rfl, hn, hn8, hd, hd8⟩
  refine ⟨rfl, fun G hG => ?_⟩
  have fin : ∀ a : Int32, a = r_mrefuses (A 1) (s 3) (s 3).toNatClampNeg w → s_PP (some .int) true c_X6_refuses.2.2.2.2.2 [.ref 0, .int w] (mdW s A) (some (.int a)) (mdW s A) := fun a ha => ⟨rfl, by rw [ha]; rfl, fun _ => rfl⟩
  refine hG 0 _ _ _ (And.intro ⟨s, A, w, n, rfl, rfl, hn, hn8⟩ ?_)
  intro r hr
  obtain rfl : r = some (.int (p_in (s 3) w)) := hr
  refine And.intro (fun h => ?_) (fun h => ?_)
  · exact fin _ (by rw [r_mrefuses, if_pos h])
  refine And.intro (vi159 26 (by omega)) (And.intro (vi159 0 (by omega)) (And.intro (vi159 28 (by omega)) (And.intro (vi159 27 (by omega)) (And.intro ⟨s, A, _, _, _, _, _, n, d, rfl, rfl, hn, hn8, hd, hd8⟩ ?_))))
  intro r hr
  obtain rfl : r = some (.int (p_re (mOn A) (mNd A) (mCl A) (s 3).toNatClampNeg (A 1 27) (A 1 1) w (A 1 26) (A 1 0) (A 1 28).toNatClampNeg)) := hr
  exact fin _ (by rw [r_mrefuses, if_neg h]; rfl)
def r_mask (st : Nat → Int32) (y : Int32) (n : Nat) (w : Int32) : Int32 := if p_in y w = 0 then -1 else if p_hb (st 26) w = 0 then (if 0 < r_mrefuses st y n w then -4 else p_bo (p_ga (fun i => st (2 + i)) n (p_fw (fun i => st (10 + i)) n ((1 : Int32) <<< (w &&& 31))) &&& (st 0 ^^^ (-1))) 8) else -2
def q_mask (st : Nat → Int32) (y : Int32) (n : Nat) (w : Int32) : Nat → Int32 := fun j => if p_in y w = 0 then st j else if p_hb (st 26) w = 0 then (if 0 < r_mrefuses st y n w then st j else upd (upd st 26 (st 26 ||| p_fw (fun i => st (10 + i)) n ((1 : Int32) <<< (w &&& 31)))) 0 (st 0 ||| (p_ga (fun i => st (2 + i)) n (p_fw (fun i => st (10 + i)) n ((1 : Int32) <<< (w &&& 31))) &&& (st 0 ^^^ (-1)))) j) else st j
def c_X6_ask : sCtr := ((yX6_ask, cX6_ask, 4, (some .int)), (7, 1, 4, 96), false,
  mdfp,
  fun vs L => ∃ (s : Nat → Int32) (A : Nat → Nat → Int32) (w : Int32) (n d : Nat), vs = [.ref 0, .int w] ∧ L = mdW s A ∧ s 3 = nI n ∧ n ≤ 8 ∧ A 1 28 = nI d ∧ d ≤ 8,
  fun vs L r L' => r = some (.int (r_mask (bF L 1) (oI L 0 3) (oI L 0 3).toNatClampNeg (vI vs 1))) ∧ L' = mdU L (q_mask (bF L 1) (oI L 0 3) (oI L 0 3).toNatClampNeg (vI vs 1)))
theorem sta_X6_ask : s_Sta c_X6_ask := ⟨⟨by decide +kernel, by decide +kernel, by decide +kernel⟩, List.mem_of_getElem? (i := 1103) (by decide +kernel), List.mem_of_getElem? (i := 70) (by decide +kernel), ⟨List.mem_of_getElem? (i := 1101) (by decide +kernel), List.mem_of_getElem? (i := 1102) (by decide +kernel), Or.inl ⟨_, rfl, rfl⟩⟩⟩

def k_X6_ask : List sBk := [
  (0, false, [true, true, false, false], [o0 0 (.aload_n 0), o0 1 (.iload_n 1), oC 2 (.invokevirtual 185) [1015] c_X6_isWish, oN 5 (.ifCond .ne 5) [1], oK 8 (.iconst (-1)) (.int (-1)), o0 9 .ireturn]),
  (10, false, [true, true, false, false], [o0 10 (.aload_n 0), oN 11 (.getfield 7) [6, 0, 822], oK 14 (.bipush 26) (.int 26), o0 16 .iaload, o0 17 (.iload_n 1), o0 18 .ishr, oK 19 (.iconst 1) (.int 1), o0 20 .iand, oK 21 (.iconst 1) (.int 1), oN 22 (.if_icmp .ne 6) [2], oK 25 (.bipush (-2)) (.int (-2)), o0 27 .ireturn]),
  (28, false, [true, true, false, false], [o0 28 (.aload_n 0), o0 29 (.iload_n 1), oC 30 (.invokevirtual 216) [1104] c_X6_refuses, oN 33 (.ifCond .le 6) [3], oK 36 (.bipush (-4)) (.int (-4)), o0 38 .ireturn]),
  (39, false, [true, true, false, false], [o0 39 (.aload_n 0), oK 40 (.iconst 1) (.int 1), o0 41 (.iload_n 1), o0 42 .ishl, oC 43 (.invokevirtual 189) [1019] c_X6_follow, o0 46 (.istore_n 2), o0 47 (.aload_n 0), oK 48 (.iconst 2) (.int 2), o0 49 (.iload_n 2), oC 50 (.invokevirtual 182) [1023] c_X6_allOf, o0 53 (.aload_n 0), oN 54 (.getfield 7) [6, 0, 822], oK 57 (.iconst 0) (.int 0), o0 58 .iaload, oK 59 (.iconst (-1)) (.int (-1)), o0 60 .ixor, o0 61 .iand, o0 62 (.istore_n 3), o0 63 (.aload_n 0), oN 64 (.getfield 7) [6, 0, 822], oK 67 (.bipush 26) (.int 26), o0 69 .dup2, o0 70 .iaload, o0 71 (.iload_n 2), o0 72 .ior, o0 73 .iastore, o0 74 (.aload_n 0), oN 75 (.getfield 7) [6, 0, 822], oK 78 (.iconst 0) (.int 0), o0 79 .dup2, o0 80 .iaload, o0 81 (.iload_n 3), o0 82 .ior, o0 83 .iastore, o0 84 (.iload_n 3), oC 85 (.invokestatic 219) [1105] c_X6_bitsOf, o0 88 .ireturn])]
set_option maxRecDepth 100000 in
theorem ck_X6_ask : s_ck RX6 cX6_ask 4 4 96 k_X6_ask = true := by decide +kernel

set_option maxRecDepth 100000 in
set_option maxHeartbeats 1000000 in
theorem ok_X6_ask : s_Ok c_X6_ask := by
  refine s_ok_of k_X6_ask (by decide +kernel) sta_X6_ask ck_X6_ask (And.intro ok_X6_isWish (And.intro ok_X6_refuses (And.intro ok_X6_follow (And.intro ok_X6_allOf (And.intro ok_X6_bitsOf trivial))))) ?_
  rintro vs L ⟨s, A, w, n, d, rfl, rfl, hn, hn8, hd, hd8⟩
  refine ⟨rfl, fun G hG => ?_⟩
  obtain ⟨N, hN⟩ : ∃ N, N = (s 3).toNatClampNeg := ⟨_, rfl⟩
  have fin : ∀ (a : Int32) (L2 : sH), a = r_mask (A 1) (s 3) N w → L2 = mdW s (va_up A 1 (q_mask (A 1) (s 3) N w)) → s_PP (some .int) false c_X6_ask.2.2.2.2.2 [.ref 0, .int w] (mdW s A) (some (.int a)) L2 := fun a L2 ha hL => ⟨rfl, ⟨by rw [ha, hN]; rfl, by rw [hL, hN]; rfl⟩, fun h => by cases h⟩
  have same : q_mask (A 1) (s 3) N w = A 1 → mdW s A = mdW s (va_up A 1 (q_mask (A 1) (s 3) N w)) := fun h => by rw [h, va_up1]
  refine hG 0 _ _ _ (And.intro ⟨s, A, w, n, rfl, rfl, hn, hn8⟩ ?_)
  intro r hr
  obtain rfl : r = some (.int (p_in (s 3) w)) := hr
  refine And.intro (fun h => ?_) (fun h => ?_)
  · exact fin _ _ (by rw [r_mask, if_pos h]) (same (by funext j; rw [q_mask, if_pos h]))
  refine And.intro (vi159 26 (by omega)) (And.intro (fun h2 => ?_) (fun h2 => ?_))
  · have h2 : ¬ p_hb (A 1 26) w = 0 := fun q => p_hb_0.mp q h2
    exact fin _ _ (by rw [r_mask, if_neg h, if_neg h2]) (same (by funext j; rw [q_mask, if_neg h, if_neg h2]))
  have h2 : p_hb (A 1 26) w = 0 := p_hb_0.mpr h2
  refine And.intro ⟨s, A, w, n, d, rfl, rfl, hn, hn8, hd, hd8⟩ ?_
  intro r hr
  obtain ⟨b, hb⟩ : ∃ b, b = r_mrefuses (A 1) (s 3) N w := ⟨_, rfl⟩
  obtain rfl : r = some (.int b) := by rw [hb, hN]; exact hr
  refine And.intro (fun h3 => ?_) (fun h3 => ?_)
  · have h3 : 0 < b := h3
    exact fin _ _ (by rw [r_mask, if_neg h, if_pos h2, ← hb, if_pos h3]) (same (by funext j; rw [q_mask, if_neg h, if_pos h2, ← hb, if_pos h3]))
  have h3 : ¬ 0 < b := h3
  refine And.intro ⟨s, A, _, n, rfl, rfl, hn, hn8⟩ ?_
  intro r hr
  obtain ⟨g, hg⟩ : ∃ g, g = p_fw (fun i => A 1 (10 + i)) N ((1 : Int32) <<< (w &&& 31)) := ⟨_, rfl⟩
  obtain rfl : r = some (.int g) := by rw [hg, hN]; exact hr
  refine And.intro ⟨s, A, 2, g, n, rfl, rfl, hn, hn8, by omega⟩ ?_
  intro r hr
  obtain ⟨l, hl⟩ : ∃ l, l = p_ga (fun i => A 1 (2 + i)) N g := ⟨_, rfl⟩
  obtain rfl : r = some (.int l) := by rw [hl, hN]; exact hr
  refine And.intro (vi159 0 (by omega)) (And.intro (vi159 26 (by omega)) (And.intro (vi159 26 (by omega)) (And.intro (vi159 0 (by omega)) (And.intro (vi159 0 (by omega)) (And.intro ⟨_, rfl⟩ ?_)))))
  intro r hr
  obtain rfl : r = some (.int (p_bo (l &&& (A 1 0 ^^^ (-1))) 8)) := hr
  exact fin _ _ (by rw [r_mask, if_neg h, if_pos h2, ← hb, if_neg h3, ← hg, ← hl]) (by rw [show q_mask (A 1) (s 3) N w = upd (upd (A 1) 26 (A 1 26 ||| g)) 0 (A 1 0 ||| (l &&& (A 1 0 ^^^ (-1)))) by funext j; rw [q_mask, if_neg h, if_pos h2, ← hb, if_neg h3, ← hg, ← hl]]; rfl)
def r_mtake (st : Nat → Int32) (y : Int32) (n : Nat) (w : Int32) : Int32 := if p_in y w = 0 then -1 else if p_hb (st 26) w = 0 then -2 else p_bo (p_tk (fun i => st (10 + i)) n ((1 : Int32) <<< (w &&& 31)) (st 26) n) 8
def q_mtake (st : Nat → Int32) (y : Int32) (n : Nat) (w : Int32) : Nat → Int32 := fun j => if p_in y w = 0 then st j else if p_hb (st 26) w = 0 then st j else upd st 26 (st 26 &&& (p_tk (fun i => st (10 + i)) n ((1 : Int32) <<< (w &&& 31)) (st 26) n ^^^ (-1))) j
def c_X6_take : sCtr := ((yX6_take, cX6_take, 3, (some .int)), (7, 1, 3, 71), false,
  mdfp,
  fun vs L => ∃ (s : Nat → Int32) (A : Nat → Nat → Int32) (w : Int32) (n : Nat), vs = [.ref 0, .int w] ∧ L = mdW s A ∧ s 3 = nI n ∧ n ≤ 8,
  fun vs L r L' => r = some (.int (r_mtake (bF L 1) (oI L 0 3) (oI L 0 3).toNatClampNeg (vI vs 1))) ∧ L' = mdU L (q_mtake (bF L 1) (oI L 0 3) (oI L 0 3).toNatClampNeg (vI vs 1)))
theorem sta_X6_take : s_Sta c_X6_take := ⟨⟨by decide +kernel, by decide +kernel, by decide +kernel⟩, List.mem_of_getElem? (i := 1111) (by decide +kernel), List.mem_of_getElem? (i := 70) (by decide +kernel), ⟨List.mem_of_getElem? (i := 1109) (by decide +kernel), List.mem_of_getElem? (i := 1110) (by decide +kernel), Or.inl ⟨_, rfl, rfl⟩⟩⟩

def k_X6_take : List sBk := [
  (0, false, [true, true, false], [o0 0 (.aload_n 0), o0 1 (.iload_n 1), oC 2 (.invokevirtual 185) [1015] c_X6_isWish, oN 5 (.ifCond .ne 5) [1], oK 8 (.iconst (-1)) (.int (-1)), o0 9 .ireturn]),
  (10, false, [true, true, false], [o0 10 (.aload_n 0), oN 11 (.getfield 7) [6, 0, 822], oK 14 (.bipush 26) (.int 26), o0 16 .iaload, o0 17 (.iload_n 1), o0 18 .ishr, oK 19 (.iconst 1) (.int 1), o0 20 .iand, oN 21 (.ifCond .ne 6) [2], oK 24 (.bipush (-2)) (.int (-2)), o0 26 .ireturn]),
  (27, false, [true, true, false], [o0 27 (.aload_n 0), oK 28 (.iconst 1) (.int 1), o0 29 (.iload_n 1), o0 30 .ishl, o0 31 (.aload_n 0), oN 32 (.getfield 7) [6, 0, 822], oK 35 (.bipush 26) (.int 26), o0 37 .iaload, oC 38 (.invokevirtual 222) [1112] c_X6_takenBy, o0 41 (.istore_n 2), o0 42 (.aload_n 0), oN 43 (.getfield 7) [6, 0, 822], oK 46 (.bipush 26) (.int 26), o0 48 .dup2, o0 49 .iaload, o0 50 (.iload_n 2), oK 51 (.iconst (-1)) (.int (-1)), o0 52 .ixor, o0 53 .iand, o0 54 .iastore, o0 55 (.iload_n 2), oC 56 (.invokestatic 219) [1105] c_X6_bitsOf, o0 59 .ireturn])]
set_option maxRecDepth 100000 in
theorem ck_X6_take : s_ck RX6 cX6_take 3 3 71 k_X6_take = true := by decide +kernel

set_option maxRecDepth 100000 in
set_option maxHeartbeats 1000000 in
theorem ok_X6_take : s_Ok c_X6_take := by
  refine s_ok_of k_X6_take (by decide +kernel) sta_X6_take ck_X6_take (And.intro ok_X6_isWish (And.intro ok_X6_takenBy (And.intro ok_X6_bitsOf trivial))) ?_
  rintro vs L ⟨s, A, w, n, rfl, rfl, hn, hn8⟩
  refine ⟨rfl, fun G hG => ?_⟩
  obtain ⟨N, hN⟩ : ∃ N, N = (s 3).toNatClampNeg := ⟨_, rfl⟩
  have fin : ∀ (a : Int32) (L2 : sH), a = r_mtake (A 1) (s 3) N w → L2 = mdW s (va_up A 1 (q_mtake (A 1) (s 3) N w)) → s_PP (some .int) false c_X6_take.2.2.2.2.2 [.ref 0, .int w] (mdW s A) (some (.int a)) L2 := fun a L2 ha hL => ⟨rfl, ⟨by rw [ha, hN]; rfl, by rw [hL, hN]; rfl⟩, fun h => by cases h⟩
  have same : q_mtake (A 1) (s 3) N w = A 1 → mdW s A = mdW s (va_up A 1 (q_mtake (A 1) (s 3) N w)) := fun h => by rw [h, va_up1]
  refine hG 0 _ _ _ (And.intro ⟨s, A, w, n, rfl, rfl, hn, hn8⟩ ?_)
  intro r hr
  obtain rfl : r = some (.int (p_in (s 3) w)) := hr
  refine And.intro (fun h => ?_) (fun h => ?_)
  · exact fin _ _ (by rw [r_mtake, if_pos h]) (same (by funext j; rw [q_mtake, if_pos h]))
  refine And.intro (vi159 26 (by omega)) (And.intro (fun h2 => ?_) (fun h2 => ?_))
  · have h2 : (A 1 26 >>> (w &&& 31)) &&& 1 = 0 := h2
    have h2 : p_hb (A 1 26) w = 0 := by rw [← p_hb_v]; exact h2
    exact fin _ _ (by rw [r_mtake, if_neg h, if_pos h2]) (same (by funext j; rw [q_mtake, if_neg h, if_pos h2]))
  have h2 : ¬ (A 1 26 >>> (w &&& 31)) &&& 1 = 0 := h2
  have h2 : ¬ p_hb (A 1 26) w = 0 := by rw [← p_hb_v]; exact h2
  refine And.intro (vi159 26 (by omega)) (And.intro ⟨s, A, _, _, n, rfl, rfl, hn, hn8⟩ ?_)
  intro r hr
  obtain ⟨g, hg⟩ : ∃ g, g = p_tk (fun i => A 1 (10 + i)) N ((1 : Int32) <<< (w &&& 31)) (A 1 26) N := ⟨_, rfl⟩
  obtain rfl : r = some (.int g) := by rw [hg, hN]; exact hr
  refine And.intro (vi159 26 (by omega)) (And.intro (vi159 26 (by omega)) (And.intro ⟨_, rfl⟩ ?_))
  intro r hr
  obtain rfl : r = some (.int (p_bo g 8)) := hr
  exact fin _ _ (by rw [r_mtake, if_neg h, if_neg h2, ← hg]) (by rw [show q_mtake (A 1) (s 3) N w = upd (A 1) 26 (A 1 26 &&& (g ^^^ (-1))) by funext j; rw [q_mtake, if_neg h, if_neg h2, ← hg]]; rfl)
def p_mce (f : Nat → Int32) (h : Int32) : Nat → Int32
  | 0 => 0
  | k + 1 => if p_hb h (nI k) = 0 then p_mce f h k else p_mce f h k + p_bo (f k &&& h) 8
theorem p_add0 (x : Int32) : x + 0 = x := by simp
def c_X6_clashes : sCtr := ((yX6_clashes, cX6_clashes, 3, (some .int)), (7, 0, 1, 22), true,
  mdfp,
  fun vs L => ∃ (s : Nat → Int32) (A : Nat → Nat → Int32) (n : Nat), vs = [.ref 0] ∧ L = mdW s A ∧ s 3 = nI n ∧ n ≤ 8,
  fun _ L r _ => r = some (.int (p_mce (fun i => bF L 1 (18 + i)) (bF L 1 26) (oI L 0 3).toNatClampNeg / 2)))
theorem sta_X6_clashes : s_Sta c_X6_clashes := ⟨⟨by decide +kernel, by decide +kernel, by decide +kernel⟩, List.mem_of_getElem? (i := 1119) (by decide +kernel), List.mem_of_getElem? (i := 70) (by decide +kernel), ⟨List.mem_of_getElem? (i := 1117) (by decide +kernel), List.mem_of_getElem? (i := 1118) (by decide +kernel), Or.inl ⟨_, rfl, rfl⟩⟩⟩

def k_X6_clashes : List sBk := [
  (0, false, [true, false, false], [oK 0 (.iconst 0) (.int 0), o0 1 (.istore_n 1), oK 2 (.iconst 0) (.int 0), o0 3 (.istore_n 2), oN 4 .nop [1]]),
  (4, true, [true, true, true], [o0 4 (.iload_n 2), o0 5 (.aload_n 0), oN 6 (.getfield 85) [6, 3, 825], oN 9 (.if_icmp .ge 51) [4], o0 12 (.iload_n 1), o0 13 (.aload_n 0), oN 14 (.getfield 7) [6, 0, 822], oK 17 (.bipush 26) (.int 26), o0 19 .iaload, o0 20 (.iload_n 2), o0 21 .ishr, oK 22 (.iconst 1) (.int 1), o0 23 .iand, oK 24 (.iconst 1) (.int 1), oN 25 (.if_icmp .ne 26) [2], o0 28 (.aload_n 0), oN 29 (.getfield 7) [6, 0, 822], oK 32 (.bipush 18) (.int 18), o0 34 (.iload_n 2), o0 35 .iadd, o0 36 .iaload, o0 37 (.aload_n 0), oN 38 (.getfield 7) [6, 0, 822], oK 41 (.bipush 26) (.int 26), o0 43 .iaload, o0 44 .iand, oC 45 (.invokestatic 219) [1105] c_X6_bitsOf, oN 48 (.goto 4) [3]]),
  (51, false, [true, false, true], [oK 51 (.iconst 0) (.int 0), oN 52 .nop [3]]),
  (52, false, [true, false, true], [o0 52 .iadd, o0 53 (.istore_n 1), oK 54 (.iinc 2 1) (.int 1), oN 57 (.goto (-53)) [1]]),
  (60, false, [false, true, false], [o0 60 (.iload_n 1), oK 61 (.iconst 2) (.int 2), o0 62 .idiv, o0 63 .ireturn])]
set_option maxRecDepth 100000 in
theorem ck_X6_clashes : s_ck RX6 cX6_clashes 3 1 22 k_X6_clashes = true := by decide +kernel

set_option maxRecDepth 100000 in
set_option maxHeartbeats 1000000 in
theorem ok_X6_clashes : s_Ok c_X6_clashes := by
  refine s_ok_of k_X6_clashes (by decide +kernel) sta_X6_clashes ck_X6_clashes (And.intro ok_X6_bitsOf trivial) ?_
  rintro vs L ⟨s, A, n, rfl, rfl, hn, hn8⟩
  refine ⟨rfl, fun G hG => ?_⟩
  have loop : ∀ (k i : Nat) (x a : Int32), i + k = n → x = nI i → a = p_mce (fun i => A 1 (18 + i)) (A 1 26) i → G 1 [some (.ref 0), some (.int a), some (.int x)] [] (mdW s A) := by
    intro k
    induction k with
    | zero =>
      intro i x a hi hx ha
      refine hG 1 _ _ _ (And.intro (fun h2 => ?_) (fun h2 => ?_))
      · have h2 : x < s 3 := h2
        rw [hx, hn, nI_ltI (by omega) (by omega)] at h2; omega
      · refine And.intro (by decide) ⟨rfl, ?_, fun _ => rfl⟩
        show some (Value.int (a / 2)) = some (Value.int (p_mce (fun i => A 1 (18 + i)) (A 1 26) (s 3).toNatClampNeg / 2))
        rw [hn, nI_clamp (by omega), ha, show i = n by omega]
    | succ k ih =>
      intro i x a hi hx ha
      refine hG 1 _ _ _ (And.intro (fun h2 => ?_) (fun h2 => ?_))
      · refine And.intro (vi159 26 (by omega)) (And.intro (fun h3 => ?_) (fun h3 => ?_))
        · have h3 : ¬ p_hb (A 1 26) x = 0 := fun q => p_hb_0.mp q h3
          have e : (18 : Int32) + x = nI (18 + i) := by rw [hx]; exact nI_add 18 i
          refine And.intro ?_ (And.intro (vi159 26 (by omega)) (And.intro ⟨_, rfl⟩ ?_))
          · show vp_in ((18 : Int32) + x) 159
            rw [e]; exact vi159 _ (by omega)
          intro r hr
          obtain rfl : r = some (.int (p_bo (A 1 ((18 : Int32) + x).toNatClampNeg &&& A 1 26) 8)) := hr
          exact ih (i + 1) _ _ (by omega) (by rw [hx, nI_1]) (by rw [p_mce, ← hx, if_neg h3, ha, e, nI_clamp (by omega)])
        · have h3 : p_hb (A 1 26) x = 0 := p_hb_0.mpr h3
          exact ih (i + 1) _ _ (by omega) (by rw [hx, nI_1]) (by rw [p_mce, ← hx, if_pos h3, ha, p_add0])
      · have h2 : ¬ x < s 3 := h2
        rw [hx, hn, nI_ltI (by omega) (by omega)] at h2; omega
  exact hG 0 _ _ _ (loop n 0 _ _ (by omega) nI_0.symm rfl)
def c_X6_broken : sCtr := ((yX6_broken, cX6_broken, 5, (some .int)), (7, 0, 2, 47), true,
  mdfp,
  fun vs L => ∃ (s : Nat → Int32) (A : Nat → Nat → Int32) (n : Nat), vs = [.ref 0] ∧ L = mdW s A ∧ s 3 = nI n ∧ n ≤ 8,
  fun _ L r _ => r = some (.int (p_br (p_mfo (bF L 1) (oI L 0 3).toNatClampNeg) (p_mwa (bF L 1) (oI L 0 3).toNatClampNeg) (bF L 1 26) (bF L 1 0) (oI L 0 3).toNatClampNeg)))
theorem sta_X6_broken : s_Sta c_X6_broken := ⟨⟨by decide +kernel, by decide +kernel, by decide +kernel⟩, List.mem_of_getElem? (i := 1123) (by decide +kernel), List.mem_of_getElem? (i := 70) (by decide +kernel), ⟨List.mem_of_getElem? (i := 1121) (by decide +kernel), List.mem_of_getElem? (i := 1122) (by decide +kernel), Or.inl ⟨_, rfl, rfl⟩⟩⟩

def k_X6_broken : List sBk := [
  (0, false, [true, false, false, false, false], [oK 0 (.iconst 0) (.int 0), o0 1 (.istore_n 1), oK 2 (.iconst 0) (.int 0), o0 3 (.istore_n 2), oN 4 .nop [1]]),
  (4, true, [true, true, true, false, false], [o0 4 (.iload_n 2), o0 5 (.aload_n 0), oN 6 (.getfield 85) [6, 3, 825], oN 9 (.if_icmp .ge 89) [6], o0 12 (.aload_n 0), oK 13 (.iconst 1) (.int 1), o0 14 (.iload_n 2), o0 15 .ishl, oC 16 (.invokevirtual 189) [1019] c_X6_follow, o0 19 (.istore_n 3), o0 20 (.iload_n 3), o0 21 (.aload_n 0), oN 22 (.getfield 7) [6, 0, 822], oK 25 (.bipush 26) (.int 26), o0 27 .iaload, oK 28 (.iconst (-1)) (.int (-1)), o0 29 .ixor, o0 30 .iand, oN 31 (.ifCond .ne 25) [2], o0 34 (.aload_n 0), oK 35 (.iconst 2) (.int 2), o0 36 (.iload_n 3), oC 37 (.invokevirtual 182) [1023] c_X6_allOf, o0 40 (.aload_n 0), oN 41 (.getfield 7) [6, 0, 822], oK 44 (.iconst 0) (.int 0), o0 45 .iaload, oK 46 (.iconst (-1)) (.int (-1)), o0 47 .ixor, o0 48 .iand, oN 49 (.ifCond .ne 7) [2], oK 52 (.iconst 1) (.int 1), oN 53 (.goto 4) [3]]),
  (56, false, [true, true, true, false, false], [oK 56 (.iconst 0) (.int 0), oN 57 .nop [3]]),
  (57, false, [true, true, true, false, false], [o0 57 (.istore 4), o0 59 (.iload_n 1), o0 60 (.aload_n 0), oN 61 (.getfield 7) [6, 0, 822], oK 64 (.bipush 26) (.int 26), o0 66 .iaload, o0 67 (.iload_n 2), o0 68 .ishr, oK 69 (.iconst 1) (.int 1), o0 70 .iand, oK 71 (.iconst 1) (.int 1), oN 72 (.if_icmp .ne 12) [4], o0 75 (.iload 4), oN 77 (.ifCond .ne 7) [4], oK 80 (.iconst 1) (.int 1), oN 81 (.goto 4) [5]]),
  (84, false, [true, false, true, false, false], [oK 84 (.iconst 0) (.int 0), oN 85 .nop [5]]),
  (85, false, [true, false, true, false, false], [oC 85 (.invokestatic 150) [976] c_X6_flag, o0 88 (.iload_n 2), o0 89 .ishl, o0 90 .ior, o0 91 (.istore_n 1), oK 92 (.iinc 2 1) (.int 1), oN 95 (.goto (-91)) [1]]),
  (98, false, [false, true, false, false, false], [o0 98 (.iload_n 1), o0 99 .ireturn])]
set_option maxRecDepth 100000 in
theorem ck_X6_broken : s_ck RX6 cX6_broken 5 2 47 k_X6_broken = true := by decide +kernel

set_option maxRecDepth 100000 in
set_option maxHeartbeats 1000000 in
theorem ok_X6_broken : s_Ok c_X6_broken := by
  refine s_ok_of k_X6_broken (by decide +kernel) sta_X6_broken ck_X6_broken (And.intro ok_X6_follow (And.intro ok_X6_allOf (And.intro ok_X6_flag trivial))) ?_
  rintro vs L ⟨s, A, n, rfl, rfl, hn, hn8⟩
  refine ⟨rfl, fun G hG => ?_⟩
  have e3 : (s 3).toNatClampNeg = n := by rw [hn, nI_clamp (by omega)]
  obtain ⟨fo, hfo⟩ : ∃ fo, fo = p_mfo (A 1) n := ⟨_, rfl⟩
  obtain ⟨wa, hwa⟩ : ∃ wa, wa = p_mwa (A 1) n := ⟨_, rfl⟩
  have loop : ∀ (k i : Nat) (x a : Int32), i + k = n → x = nI i → a = p_br fo wa (A 1 26) (A 1 0) i → G 1 [some (.ref 0), some (.int a), some (.int x), none, none] [] (mdW s A) := by
    intro k
    induction k with
    | zero =>
      intro i x a hi hx ha
      refine hG 1 _ _ _ (And.intro (fun h2 => ?_) (fun h2 => ?_))
      · have h2 : x < s 3 := h2
        rw [hx, hn, nI_ltI (by omega) (by omega)] at h2; omega
      · refine ⟨rfl, ?_, fun _ => rfl⟩
        show some (Value.int a) = some (Value.int (p_br (p_mfo (A 1) (s 3).toNatClampNeg) (p_mwa (A 1) (s 3).toNatClampNeg) (A 1 26) (A 1 0) (s 3).toNatClampNeg))
        rw [e3, ← hfo, ← hwa, ha, show i = n by omega]
    | succ k ih =>
      intro i x a hi hx ha
      refine hG 1 _ _ _ (And.intro (fun h2 => ?_) (fun h2 => ?_))
      · refine And.intro ⟨s, A, _, n, rfl, rfl, hn, hn8⟩ ?_
        intro r hr
        obtain ⟨g, hg⟩ : ∃ g, g = fo i := ⟨_, rfl⟩
        obtain rfl : r = some (.int g) := by
          have h1 : r = some (.int (p_fw (mNd A) (s 3).toNatClampNeg ((1 : Int32) <<< (x &&& 31)))) := hr
          rw [h1, hg, hfo, e3, hx]; rfl
        have bit : ∀ z : Int32, (z = 0 ∨ z = 1) → (z = 0 → p_br fo wa (A 1 26) (A 1 0) (i + 1) = a) → (z = 1 → p_br fo wa (A 1 26) (A 1 0) (i + 1) = a ||| ((1 : Int32) <<< (x &&& 31))) → G 1 [some (.ref 0), some (.int (a ||| ((if z = 0 then 0 else 1) <<< (x &&& 31)))), some (.int (x + 1)), none, none] [] (mdW s A) := fun z hz h0 h1 => ih (i + 1) _ _ (by omega) (by rw [hx, nI_1]) (by
          rcases hz with rfl | rfl
          · rw [if_pos rfl, p_sh0, p_or0, h0 rfl]
          · rw [if_neg (by decide), h1 rfl])
        refine And.intro (vi159 26 (by omega)) (And.intro (fun h3 => ?_) (fun h3 => ?_))
        · have h3 : fo i &&& (A 1 26 ^^^ (-1)) = 0 := by rw [← hg]; exact h3
          refine And.intro ⟨s, A, 2, g, n, rfl, rfl, hn, hn8, by omega⟩ ?_
          intro r hr
          obtain ⟨l, hl⟩ : ∃ l, l = wa i := ⟨_, rfl⟩
          obtain rfl : r = some (.int l) := by
            have h1 : r = some (.int (p_ga (mOn A) (s 3).toNatClampNeg g)) := hr
            rw [h1, hl, hwa, e3, hg, hfo]; rfl
          refine And.intro (vi159 0 (by omega)) (And.intro (fun h4 => ?_) (fun h4 => ?_))
          · have h4 : wa i &&& (A 1 0 ^^^ (-1)) = 0 := by rw [← hl]; exact h4
            refine And.intro (vi159 26 (by omega)) (And.intro (fun h5 => ?_) (fun h5 => ?_))
            · refine And.intro (fun z => absurd z (by decide)) (fun _ => ?_)
              refine And.intro ⟨_, rfl⟩ ?_
              intro r hr
              obtain rfl : r = some (.int (if (0 : Int32) = 0 then 0 else 1)) := hr
              exact bit 0 (Or.inl rfl) (fun _ => by rw [p_br, if_pos h3, if_pos h4, ha]) (fun z => absurd z (by decide))
            · refine And.intro ⟨_, rfl⟩ ?_
              intro r hr
              obtain rfl : r = some (.int (if (0 : Int32) = 0 then 0 else 1)) := hr
              exact bit 0 (Or.inl rfl) (fun _ => by rw [p_br, if_pos h3, if_pos h4, ha]) (fun z => absurd z (by decide))
          · have h4 : ¬ wa i &&& (A 1 0 ^^^ (-1)) = 0 := by rw [← hl]; exact h4
            refine And.intro (vi159 26 (by omega)) (And.intro (fun h5 => ?_) (fun h5 => ?_))
            · have h5 : ¬ p_hb (A 1 26) x = 0 := fun q => p_hb_0.mp q h5
              refine And.intro (fun _ => ?_) (fun z => absurd rfl z)
              refine And.intro ⟨_, rfl⟩ ?_
              intro r hr
              obtain rfl : r = some (.int (if (1 : Int32) = 0 then 0 else 1)) := hr
              exact bit 1 (Or.inr rfl) (fun z => absurd z (by decide)) (fun _ => by rw [p_br, if_pos h3, if_neg h4, ← hx, if_neg h5, ha])
            · have h5 : p_hb (A 1 26) x = 0 := p_hb_0.mpr h5
              refine And.intro ⟨_, rfl⟩ ?_
              intro r hr
              obtain rfl : r = some (.int (if (0 : Int32) = 0 then 0 else 1)) := hr
              exact bit 0 (Or.inl rfl) (fun _ => by rw [p_br, if_pos h3, if_neg h4, ← hx, if_pos h5, ha]) (fun z => absurd z (by decide))
        · have h3 : ¬ fo i &&& (A 1 26 ^^^ (-1)) = 0 := by rw [← hg]; exact h3
          refine And.intro (vi159 26 (by omega)) (And.intro (fun h5 => ?_) (fun h5 => ?_))
          · have h5 : ¬ p_hb (A 1 26) x = 0 := fun q => p_hb_0.mp q h5
            refine And.intro (fun _ => ?_) (fun z => absurd rfl z)
            refine And.intro ⟨_, rfl⟩ ?_
            intro r hr
            obtain rfl : r = some (.int (if (1 : Int32) = 0 then 0 else 1)) := hr
            exact bit 1 (Or.inr rfl) (fun z => absurd z (by decide)) (fun _ => by rw [p_br, if_neg h3, ← hx, if_neg h5, ha])
          · have h5 : p_hb (A 1 26) x = 0 := p_hb_0.mpr h5
            refine And.intro ⟨_, rfl⟩ ?_
            intro r hr
            obtain rfl : r = some (.int (if (0 : Int32) = 0 then 0 else 1)) := hr
            exact bit 0 (Or.inl rfl) (fun _ => by rw [p_br, if_neg h3, ← hx, if_pos h5, ha]) (fun z => absurd z (by decide))
      · have h2 : ¬ x < s 3 := h2
        rw [hx, hn, nI_ltI (by omega) (by omega)] at h2; omega
  exact hG 0 _ _ _ (loop n 0 _ _ (by omega) nI_0.symm rfl)
end
section
/-! ===== WishClerkModel: what is seen, what fits, least sets ===== -/
theorem nI_mul (a b : Nat) : nI a * nI b = nI (a * b) := (Int32.ofNat_mul a b).symm
def r_msee (st : Nat → Int32) (y p : Int32) : Int32 := if p_in y p = 0 then -1 else if st 36 = 8 then -3 else st 36 + 1
def q_msee (st : Nat → Int32) (y p z : Int32) : Nat → Int32 := fun j => if p_in y p = 0 then st j else if st 36 = 8 then st j else upd (upd (upd st (37 + 2 * (st 36).toNatClampNeg) p) (38 + 2 * (st 36).toNatClampNeg) (if z = 0 then 0 else 1)) 36 (st 36 + 1) j
def c_X6_see : sCtr := ((yX6_see, cX6_see, 3, (some .int)), (7, 2, 2, 46), false,
  mdfp,
  fun vs L => ∃ (s : Nat → Int32) (A : Nat → Nat → Int32) (p z : Int32) (n m : Nat), vs = [.ref 0, .int p, .int z] ∧ L = mdW s A ∧ s 2 = nI n ∧ n ≤ 8 ∧ A 1 36 = nI m ∧ m ≤ 8,
  fun vs L r L' => r = some (.int (r_msee (bF L 1) (oI L 0 2) (vI vs 1))) ∧ L' = mdU L (q_msee (bF L 1) (oI L 0 2) (vI vs 1) (vI vs 2)))
theorem sta_X6_see : s_Sta c_X6_see := ⟨⟨by decide +kernel, by decide +kernel, by decide +kernel⟩, List.mem_of_getElem? (i := 1186) (by decide +kernel), List.mem_of_getElem? (i := 70) (by decide +kernel), ⟨List.mem_of_getElem? (i := 1184) (by decide +kernel), List.mem_of_getElem? (i := 1185) (by decide +kernel), Or.inl ⟨_, rfl, rfl⟩⟩⟩

def k_X6_see : List sBk := [
  (0, false, [true, true, true], [o0 0 (.aload_n 0), o0 1 (.iload_n 1), oC 2 (.invokevirtual 192) [1035] c_X6_isOne, oN 5 (.ifCond .ne 5) [1], oK 8 (.iconst (-1)) (.int (-1)), o0 9 .ireturn]),
  (10, false, [true, true, true], [o0 10 (.aload_n 0), oN 11 (.getfield 7) [6, 0, 822], oK 14 (.bipush 36) (.int 36), o0 16 .iaload, oK 17 (.bipush 8) (.int 8), oN 19 (.if_icmp .ne 6) [2], oK 22 (.bipush (-3)) (.int (-3)), o0 24 .ireturn]),
  (25, false, [true, true, true], [o0 25 (.aload_n 0), oN 26 (.getfield 7) [6, 0, 822], oK 29 (.bipush 37) (.int 37), oK 31 (.iconst 2) (.int 2), o0 32 (.aload_n 0), oN 33 (.getfield 7) [6, 0, 822], oK 36 (.bipush 36) (.int 36), o0 38 .iaload, o0 39 .imul, o0 40 .iadd, o0 41 (.iload_n 1), o0 42 .iastore, o0 43 (.aload_n 0), oN 44 (.getfield 7) [6, 0, 822], oK 47 (.bipush 37) (.int 37), oK 49 (.iconst 2) (.int 2), o0 50 (.aload_n 0), oN 51 (.getfield 7) [6, 0, 822], oK 54 (.bipush 36) (.int 36), o0 56 .iaload, o0 57 .imul, o0 58 .iadd, oK 59 (.iconst 1) (.int 1), o0 60 .iadd, o0 61 (.iload_n 2), oC 62 (.invokestatic 150) [976] c_X6_flag, o0 65 .iastore, o0 66 (.aload_n 0), oN 67 (.getfield 7) [6, 0, 822], oK 70 (.bipush 36) (.int 36), o0 72 .dup2, o0 73 .iaload, oK 74 (.iconst 1) (.int 1), o0 75 .iadd, o0 76 .iastore, o0 77 (.aload_n 0), oN 78 (.getfield 7) [6, 0, 822], oK 81 (.bipush 36) (.int 36), o0 83 .iaload, o0 84 .ireturn])]
set_option maxRecDepth 100000 in
theorem ck_X6_see : s_ck RX6 cX6_see 3 2 46 k_X6_see = true := by decide +kernel

set_option maxRecDepth 100000 in
set_option maxHeartbeats 1000000 in
theorem ok_X6_see : s_Ok c_X6_see := by
  refine s_ok_of k_X6_see (by decide +kernel) sta_X6_see ck_X6_see (And.intro ok_X6_isOne (And.intro ok_X6_flag trivial)) ?_
  rintro vs L ⟨s, A, p, z, n, m, rfl, rfl, hn, hn8, hm, hm8⟩
  refine ⟨rfl, fun G hG => ?_⟩
  have fin : ∀ (a : Int32) (L2 : sH), a = r_msee (A 1) (s 2) p → L2 = mdW s (va_up A 1 (q_msee (A 1) (s 2) p z)) → s_PP (some .int) false c_X6_see.2.2.2.2.2 [.ref 0, .int p, .int z] (mdW s A) (some (.int a)) L2 := fun a L2 ha hL => ⟨rfl, ⟨by rw [ha]; rfl, by rw [hL]; rfl⟩, fun h => by cases h⟩
  have same : q_msee (A 1) (s 2) p z = A 1 → mdW s A = mdW s (va_up A 1 (q_msee (A 1) (s 2) p z)) := fun h => by rw [h, va_up1]
  refine hG 0 _ _ _ (And.intro ⟨s, A, p, n, rfl, rfl, hn, hn8⟩ ?_)
  intro r hr
  obtain rfl : r = some (.int (p_in (s 2) p)) := hr
  refine And.intro (fun h => ?_) (fun h => ?_)
  · exact fin _ _ (by rw [r_msee, if_pos h]) (same (by funext j; rw [q_msee, if_pos h]))
  refine And.intro (vi159 36 (by omega)) (And.intro (fun h2 => ?_) (fun h2 => ?_))
  · have h2 : A 1 36 = 8 := h2
    exact fin _ _ (by rw [r_msee, if_neg h, if_pos h2]) (same (by funext j; rw [q_msee, if_neg h, if_pos h2]))
  have h2 : ¬ A 1 36 = 8 := h2
  have hm7 : m ≠ 8 := fun q => h2 (by rw [hm, q]; rfl)
  have e : (37 : Int32) + 2 * A 1 36 = nI (37 + 2 * m) := by rw [hm, show (2 : Int32) = nI 2 from rfl, nI_mul]; exact nI_add 37 _
  have ec : ((37 : Int32) + 2 * A 1 36).toNatClampNeg = 37 + 2 * (A 1 36).toNatClampNeg := by rw [e, hm, nI_clamp (by omega), nI_clamp (by omega)]
  obtain ⟨B, hB⟩ : ∃ B, B = upd (A 1) ((37 : Int32) + 2 * A 1 36).toNatClampNeg p := ⟨_, rfl⟩
  have hx : B 36 = A 1 36 := by
    rw [hB, ec, upd, if_neg]; omega
  have e2 : (37 : Int32) + 2 * B 36 + 1 = nI (38 + 2 * m) := by rw [hx, e, nI_1]; congr 1; omega
  have ec2 : ((37 : Int32) + 2 * B 36 + 1).toNatClampNeg = 38 + 2 * (A 1 36).toNatClampNeg := by rw [e2, hm, nI_clamp (by omega), nI_clamp (by omega)]
  obtain ⟨C, hC⟩ : ∃ C, C = upd B ((37 : Int32) + 2 * B 36 + 1).toNatClampNeg (if z = 0 then 0 else 1) := ⟨_, rfl⟩
  have hy : C 36 = A 1 36 := by
    rw [hC, ec2, upd, if_neg, hx]; omega
  refine And.intro (vi159 36 (by omega)) (And.intro ?_ (And.intro (vi159 36 (by omega)) (And.intro ⟨_, rfl⟩ ?_)))
  · show vp_in ((37 : Int32) + 2 * A 1 36) 159
    rw [e]; exact vi159 _ (by omega)
  intro r hr
  obtain rfl : r = some (.int (if z = 0 then 0 else 1)) := hr
  refine And.intro ?_ (And.intro (vi159 36 (by omega)) (And.intro (vi159 36 (by omega)) (And.intro (vi159 36 (by omega)) ?_)))
  · show vp_in ((37 : Int32) + 2 * upd (A 1) ((37 : Int32) + 2 * A 1 36).toNatClampNeg p 36 + 1) 159
    rw [← hB, e2]; exact vi159 _ (by omega)
  refine fin _ _ ?_ ?_
  · show upd (upd (A 1) ((37 : Int32) + 2 * A 1 36).toNatClampNeg p) ((37 : Int32) + 2 * upd (A 1) ((37 : Int32) + 2 * A 1 36).toNatClampNeg p 36 + 1).toNatClampNeg (if z = 0 then 0 else 1) 36 + 1 = _
    rw [← hB, ← hC, hy, r_msee, if_neg h, if_neg h2]
  · have q : q_msee (A 1) (s 2) p z = upd C 36 (C 36 + 1) := by
      funext j
      rw [q_msee, if_neg h, if_neg h2, hy, hC, ec2, hB, ec]
    rw [q, hC, hB]; rfl
def p_mso (st : Nat → Int32) (a : Int32) : Nat → Int32
  | 0 => 1
  | k + 1 => if p_mso st a k = 0 then 0 else if (a >>> (st (37 + 2 * k) &&& 31)) &&& 1 = st (38 + 2 * k) then 1 else 0
def p_mis (st : Nat → Int32) (n : Nat) (g : Int32) : Int32 := p_mso st (st 0 ||| p_ga (fun i => st (2 + i)) n (p_fw (fun i => st (10 + i)) n g)) (st 36).toNatClampNeg
theorem p_mso_01 (st : Nat → Int32) (a : Int32) : ∀ k, p_mso st a k = 0 ∨ p_mso st a k = 1
  | 0 => Or.inr rfl
  | k + 1 => by
    rw [p_mso]
    by_cases h : p_mso st a k = 0
    · rw [if_pos h]; exact Or.inl rfl
    · rw [if_neg h]
      by_cases h2 : (a >>> (st (37 + 2 * k) &&& 31)) &&& 1 = st (38 + 2 * k)
      · rw [if_pos h2]; exact Or.inr rfl
      · rw [if_neg h2]; exact Or.inl rfl
def c_X6_isSo : sCtr := ((yX6_isSo, cX6_isSo, 5, (some .boolean)), (7, 1, 2, 47), true,
  mdfp,
  fun vs L => ∃ (s : Nat → Int32) (A : Nat → Nat → Int32) (g : Int32) (n m : Nat), vs = [.ref 0, .int g] ∧ L = mdW s A ∧ s 3 = nI n ∧ n ≤ 8 ∧ A 1 36 = nI m ∧ m ≤ 8,
  fun vs L r _ => r = some (.int (p_mis (bF L 1) (oI L 0 3).toNatClampNeg (vI vs 1))))
theorem sta_X6_isSo : s_Sta c_X6_isSo := ⟨⟨by decide +kernel, by decide +kernel, by decide +kernel⟩, List.mem_of_getElem? (i := 1199) (by decide +kernel), List.mem_of_getElem? (i := 70) (by decide +kernel), ⟨List.mem_of_getElem? (i := 1198) (by decide +kernel), List.mem_of_getElem? (i := 61) (by decide +kernel), Or.inl ⟨_, rfl, rfl⟩⟩⟩

def k_X6_isSo : List sBk := [
  (0, false, [true, true, false, false, false], [o0 0 (.aload_n 0), oN 1 (.getfield 7) [6, 0, 822], oK 4 (.iconst 0) (.int 0), o0 5 .iaload, o0 6 (.aload_n 0), oK 7 (.iconst 2) (.int 2), o0 8 (.aload_n 0), o0 9 (.iload_n 1), oC 10 (.invokevirtual 189) [1019] c_X6_follow, oC 13 (.invokevirtual 182) [1023] c_X6_allOf, o0 16 .ior, o0 17 (.istore_n 2), oK 18 (.iconst 1) (.int 1), o0 19 (.istore_n 3), oK 20 (.iconst 0) (.int 0), o0 21 (.istore 4), oN 23 .nop [1]]),
  (23, true, [true, false, true, true, true], [o0 23 (.iload 4), o0 25 (.aload_n 0), oN 26 (.getfield 7) [6, 0, 822], oK 29 (.bipush 36) (.int 36), o0 31 .iaload, oN 32 (.if_icmp .ge 52) [4], o0 35 (.iload_n 3), oN 36 (.ifCond .eq 40) [2], o0 39 (.iload_n 2), o0 40 (.aload_n 0), oN 41 (.getfield 7) [6, 0, 822], oK 44 (.bipush 37) (.int 37), oK 46 (.iconst 2) (.int 2), o0 47 (.iload 4), o0 49 .imul, o0 50 .iadd, o0 51 .iaload, o0 52 .ishr, oK 53 (.iconst 1) (.int 1), o0 54 .iand, o0 55 (.aload_n 0), oN 56 (.getfield 7) [6, 0, 822], oK 59 (.bipush 37) (.int 37), oK 61 (.iconst 2) (.int 2), o0 62 (.iload 4), o0 64 .imul, o0 65 .iadd, oK 66 (.iconst 1) (.int 1), o0 67 .iadd, o0 68 .iaload, oN 69 (.if_icmp .ne 7) [2], oK 72 (.iconst 1) (.int 1), oN 73 (.goto 4) [3]]),
  (76, false, [true, false, true, false, true], [oK 76 (.iconst 0) (.int 0), oN 77 .nop [3]]),
  (77, false, [true, false, true, false, true], [o0 77 (.istore_n 3), oK 78 (.iinc 4 1) (.int 1), oN 81 (.goto (-58)) [1]]),
  (84, false, [false, false, false, true, false], [o0 84 (.iload_n 3), o0 85 .ireturn])]
set_option maxRecDepth 100000 in
theorem ck_X6_isSo : s_ck RX6 cX6_isSo 5 2 47 k_X6_isSo = true := by decide +kernel

set_option maxRecDepth 100000 in
set_option maxHeartbeats 1000000 in
theorem ok_X6_isSo : s_Ok c_X6_isSo := by
  refine s_ok_of k_X6_isSo (by decide +kernel) sta_X6_isSo ck_X6_isSo (And.intro ok_X6_follow (And.intro ok_X6_allOf trivial)) ?_
  rintro vs L ⟨s, A, g, n, m, rfl, rfl, hn, hn8, hm, hm8⟩
  refine ⟨rfl, fun G hG => ?_⟩
  obtain ⟨a, ha⟩ : ∃ a, a = A 1 0 ||| p_ga (fun i => A 1 (2 + i)) (s 3).toNatClampNeg (p_fw (fun i => A 1 (10 + i)) (s 3).toNatClampNeg g) := ⟨_, rfl⟩
  have fin : ∀ b : Int32, b = p_mso (A 1) a m → (b = 0 ∨ b = 1) ∧ s_PP (some .boolean) true c_X6_isSo.2.2.2.2.2 [.ref 0, .int g] (mdW s A) (some (.int b)) (mdW s A) := fun b hb => ⟨by rw [hb]; exact p_mso_01 _ _ _, rfl, by
    have q : b = p_mis (A 1) (s 3).toNatClampNeg g := by rw [p_mis, ← ha, hm, nI_clamp (by omega), hb]
    rw [q]; rfl, fun _ => rfl⟩
  have loop : ∀ (k i : Nat) (x b : Int32), i + k = m → x = nI i → b = p_mso (A 1) a i → G 1 [some (.ref 0), none, some (.int a), some (.int b), some (.int x)] [] (mdW s A) := by
    intro k
    induction k with
    | zero =>
      intro i x b hi hx hb
      refine hG 1 _ _ _ (And.intro (vi159 36 (by omega)) (And.intro (fun h2 => ?_) (fun h2 => ?_)))
      · have h2 : x < A 1 36 := h2
        rw [hx, hm, nI_ltI (by omega) (by omega)] at h2; omega
      · exact fin _ (by rw [hb, show i = m by omega])
    | succ k ih =>
      intro i x b hi hx hb
      refine hG 1 _ _ _ (And.intro (vi159 36 (by omega)) (And.intro (fun h2 => ?_) (fun h2 => ?_)))
      · have e : (37 : Int32) + 2 * x = nI (37 + 2 * i) := by rw [hx, show (2 : Int32) = nI 2 from rfl, nI_mul]; exact nI_add 37 _
        have e2 : (37 : Int32) + 2 * x + 1 = nI (38 + 2 * i) := by rw [e, nI_1]; congr 1; omega
        refine And.intro (fun h3 => ?_) (fun h3 => ?_)
        · have h3 : b = 0 := h3
          exact ih (i + 1) _ _ (by omega) (by rw [hx, nI_1]) (by rw [p_mso, ← hb, if_pos h3])
        · have h3 : ¬ b = 0 := h3
          refine And.intro ?_ (And.intro ?_ (And.intro (fun h4 => ?_) (fun h4 => ?_)))
          · show vp_in ((37 : Int32) + 2 * x) 159
            rw [e]; exact vi159 _ (by omega)
          · show vp_in ((37 : Int32) + 2 * x + 1) 159
            rw [e2]; exact vi159 _ (by omega)
          · have h4 : (a >>> (A 1 ((37 : Int32) + 2 * x).toNatClampNeg &&& 31)) &&& 1 = A 1 ((37 : Int32) + 2 * x + 1).toNatClampNeg := h4
            rw [e2, e, nI_clamp (by omega), nI_clamp (by omega)] at h4
            exact ih (i + 1) _ _ (by omega) (by rw [hx, nI_1]) (by rw [p_mso, ← hb, if_neg h3, if_pos h4])
          · have h4 : ¬ (a >>> (A 1 ((37 : Int32) + 2 * x).toNatClampNeg &&& 31)) &&& 1 = A 1 ((37 : Int32) + 2 * x + 1).toNatClampNeg := h4
            rw [e2, e, nI_clamp (by omega), nI_clamp (by omega)] at h4
            exact ih (i + 1) _ _ (by omega) (by rw [hx, nI_1]) (by rw [p_mso, ← hb, if_neg h3, if_neg h4])
      · have h2 : ¬ x < A 1 36 := h2
        rw [hx, hm, nI_ltI (by omega) (by omega)] at h2; omega
  refine hG 0 _ _ _ (And.intro (vi159 0 (by omega)) (And.intro ⟨s, A, g, n, rfl, rfl, hn, hn8⟩ ?_))
  intro r hr
  obtain rfl : r = some (.int (p_fw (fun i => A 1 (10 + i)) (s 3).toNatClampNeg g)) := hr
  refine And.intro ⟨s, A, 2, _, n, rfl, rfl, hn, hn8, by omega⟩ ?_
  intro r hr
  obtain rfl : r = some (.int (p_ga (fun i => A 1 (2 + i)) (s 3).toNatClampNeg (p_fw (fun i => A 1 (10 + i)) (s 3).toNatClampNeg g))) := hr
  have l := loop m 0 0 1 (by omega) nI_0.symm rfl
  rw [ha] at l
  exact l
def p_mfS (st : Nat → Int32) (n : Nat) (g : Int32) (q : Int32 × Int32 × Int32 × Int32) : Int32 × Int32 × Int32 × Int32 :=
  if p_mis st n g = 0 then q else (q.1 + 1, (if q.1 = 0 then g else q.2.1), q.2.2.1 &&& g, q.2.2.2 ||| g)
def p_mfs (st : Nat → Int32) (n : Nat) : Nat → Int32 × Int32 × Int32 × Int32
  | 0 => (0, -4, ((1 : Int32) <<< (nI n &&& 31)) - 1, 0)
  | k + 1 => p_mfS st n (nI k) (p_mfs st n k)
def r_mfits (st : Nat → Int32) (n : Nat) (z : Int32) : Int32 := if z < 0 ∨ 3 < z then -1 else if z = 0 then (p_mfs st n (2 ^ n)).1 else if (p_mfs st n (2 ^ n)).1 = 0 then -4 else if z = 1 then (p_mfs st n (2 ^ n)).2.1 else if z = 2 then (p_mfs st n (2 ^ n)).2.2.1 else (((1 : Int32) <<< (nI n &&& 31)) - 1) &&& ((p_mfs st n (2 ^ n)).2.2.2 ^^^ (-1))
theorem nI_sub1 {m : Nat} (h : 0 < m) : nI m - 1 = nI (m - 1) := by
  have e : nI m = nI (m - 1) + 1 := by rw [nI_1]; congr 1; omega
  rw [e]; exact Int32.add_sub_cancel _ _
def c_X6_fits : sCtr := ((yX6_fits, cX6_fits, 8, (some .int)), (7, 1, 3, 71), true,
  mdfp,
  fun vs L => ∃ (s : Nat → Int32) (A : Nat → Nat → Int32) (z : Int32) (n m : Nat), vs = [.ref 0, .int z] ∧ L = mdW s A ∧ s 3 = nI n ∧ n ≤ 8 ∧ A 1 36 = nI m ∧ m ≤ 8,
  fun vs L r _ => r = some (.int (r_mfits (bF L 1) (oI L 0 3).toNatClampNeg (vI vs 1))))
theorem sta_X6_fits : s_Sta c_X6_fits := ⟨⟨by decide +kernel, by decide +kernel, by decide +kernel⟩, List.mem_of_getElem? (i := 1194) (by decide +kernel), List.mem_of_getElem? (i := 70) (by decide +kernel), ⟨List.mem_of_getElem? (i := 1192) (by decide +kernel), List.mem_of_getElem? (i := 1193) (by decide +kernel), Or.inl ⟨_, rfl, rfl⟩⟩⟩

def k_X6_fits : List sBk := [
  (0, false, [true, true, false, false, false, false, false, false], [o0 0 (.iload_n 1), o0 1 .i2l, oK 2 (.lconst 0) (.long 0), oV 3 (.ldc2_w 250) [1195] (.long 3), oC 6 (.invokestatic 90) [921] c_X6_in, oN 9 (.ifCond .ne 5) [1], oK 12 (.iconst (-1)) (.int (-1)), o0 13 .ireturn]),
  (14, false, [true, true, false, false, false, false, false, false], [oK 14 (.iconst 1) (.int 1), o0 15 (.aload_n 0), oN 16 (.getfield 85) [6, 3, 825], o0 19 .ishl, oK 20 (.iconst 1) (.int 1), o0 21 .isub, o0 22 (.istore_n 2), oK 23 (.iconst 0) (.int 0), o0 24 (.istore_n 3), oK 25 (.bipush (-4)) (.int (-4)), o0 27 (.istore 4), o0 29 (.iload_n 2), o0 30 (.istore 5), oK 32 (.iconst 0) (.int 0), o0 33 (.istore 6), oK 35 (.iconst 0) (.int 0), o0 36 (.istore 7), oN 38 .nop [2]]),
  (38, true, [true, true, true, true, true, true, true, true], [o0 38 (.iload 7), o0 40 (.iload_n 2), oN 41 (.if_icmp .gt 48) [6], o0 44 (.aload_n 0), o0 45 (.iload 7), oC 47 (.invokevirtual 252) [1196] c_X6_isSo, oN 50 (.ifCond .eq 33) [5], o0 53 (.iload_n 3), oN 54 (.ifCond .ne 8) [3], o0 57 (.iload 7), oN 59 (.goto 5) [4]]),
  (62, false, [true, true, true, true, true, true, true, true], [o0 62 (.iload 4), oN 64 .nop [4]]),
  (64, false, [true, true, true, true, false, true, true, true], [o0 64 (.istore 4), o0 66 (.iload 5), o0 68 (.iload 7), o0 70 .iand, o0 71 (.istore 5), o0 73 (.iload 6), o0 75 (.iload 7), o0 77 .ior, o0 78 (.istore 6), oK 80 (.iinc 3 1) (.int 1), oN 83 .nop [5]]),
  (83, false, [true, true, true, true, true, true, true, true], [oK 83 (.iinc 7 1) (.int 1), oN 86 (.goto (-48)) [2]]),
  (89, false, [false, true, true, true, true, true, true, false], [o0 89 (.iload_n 1), oN 90 (.ifCond .eq 7) [7], o0 93 (.iload_n 3), oN 94 (.ifCond .ne 14) [10], oN 97 .nop [7]]),
  (97, false, [false, true, false, true, false, false, false, false], [o0 97 (.iload_n 1), oN 98 (.ifCond .ne 7) [8], o0 101 (.iload_n 3), oN 102 (.goto 5) [9]]),
  (105, false, [false, false, false, false, false, false, false, false], [oK 105 (.bipush (-4)) (.int (-4)), oN 107 .nop [9]]),
  (107, false, [false, false, false, false, false, false, false, false], [o0 107 .ireturn]),
  (108, false, [false, true, true, false, true, true, true, false], [o0 108 (.iload_n 1), oK 109 (.iconst 1) (.int 1), oN 110 (.if_icmp .ne 8) [11], o0 113 (.iload 4), oN 115 (.goto 19) [13]]),
  (118, false, [false, true, true, false, false, true, true, false], [o0 118 (.iload_n 1), oK 119 (.iconst 2) (.int 2), oN 120 (.if_icmp .ne 8) [12], o0 123 (.iload 5), oN 125 (.goto 9) [13]]),
  (128, false, [false, false, true, false, false, false, true, false], [o0 128 (.iload_n 2), o0 129 (.iload 6), oK 131 (.iconst (-1)) (.int (-1)), o0 132 .ixor, o0 133 .iand, oN 134 .nop [13]]),
  (134, false, [false, false, false, false, false, false, false, false], [o0 134 .ireturn])]
set_option maxRecDepth 100000 in
theorem ck_X6_fits : s_ck RX6 cX6_fits 8 3 71 k_X6_fits = true := by decide +kernel

set_option maxRecDepth 100000 in
set_option maxHeartbeats 1000000 in
theorem ok_X6_fits : s_Ok c_X6_fits := by
  refine s_ok_of k_X6_fits (by decide +kernel) sta_X6_fits ck_X6_fits (And.intro ok_X6_in (And.intro ok_X6_isSo trivial)) ?_
  rintro vs L ⟨s, A, z, n, m, rfl, rfl, hn, hn8, hm, hm8⟩
  refine ⟨rfl, fun G hG => ?_⟩
  have h28 := p_2le n hn8
  have h20 : 0 < 2 ^ n := Nat.two_pow_pos n
  have e3 : (s 3).toNatClampNeg = n := by rw [hn, nI_clamp (by omega)]
  have fin : ∀ a : Int32, a = r_mfits (A 1) n z → s_PP (some .int) true c_X6_fits.2.2.2.2.2 [.ref 0, .int z] (mdW s A) (some (.int a)) (mdW s A) := fun a ha => ⟨rfl, by rw [ha, ← e3]; rfl, fun _ => rfl⟩
  refine hG 0 _ _ _ (And.intro ⟨_, _, _, rfl⟩ ?_)
  intro r hr
  obtain ⟨b, hb⟩ : ∃ b, b = p_in64 z.toInt64 0 (3 : Int32).toInt64 := ⟨_, rfl⟩
  obtain rfl : r = some (.int b) := by rw [hb]; exact hr
  refine And.intro (fun h => ?_) (fun h => ?_)
  · have h : z < 0 ∨ 3 < z := (p_rng _ _).mp (hb.symm.trans h)
    exact fin _ (by rw [r_mfits, if_pos h])
  have h : ¬ (z < 0 ∨ 3 < z) := fun q => h (hb.trans ((p_rng _ _).mpr q))
  obtain ⟨al, hal⟩ : ∃ al, al = ((1 : Int32) <<< (nI n &&& 31)) - 1 := ⟨_, rfl⟩
  have hal2 : al = nI (2 ^ n - 1) := by rw [hal, p_2n n (by omega), nI_sub1 h20]
  have loop : ∀ (k i : Nat) (x a1 a2 a3 a4 : Int32), i + k = 2 ^ n → x = nI i → (a1, a2, a3, a4) = p_mfs (A 1) n i → G 2 [some (.ref 0), some (.int z), some (.int al), some (.int a1), some (.int a2), some (.int a3), some (.int a4), some (.int x)] [] (mdW s A) := by
    intro k
    induction k with
    | zero =>
      intro i x a1 a2 a3 a4 hi hx ha
      have hq : (a1, a2, a3, a4) = p_mfs (A 1) n (2 ^ n) := by rw [ha, show i = 2 ^ n by omega]
      have q1 : a1 = (p_mfs (A 1) n (2 ^ n)).1 := by rw [← hq]
      have q2 : a2 = (p_mfs (A 1) n (2 ^ n)).2.1 := by rw [← hq]
      have q3 : a3 = (p_mfs (A 1) n (2 ^ n)).2.2.1 := by rw [← hq]
      have q4 : a4 = (p_mfs (A 1) n (2 ^ n)).2.2.2 := by rw [← hq]
      have hgt : al < x := by rw [hx, hal2, nI_ltI (by omega) (by omega)]; omega
      refine hG 2 _ _ _ (And.intro (fun h3 => ?_) (fun h3 => ?_))
      · refine And.intro (fun h4 => ?_) (fun h4 => ?_)
        · have h4 : z = 0 := h4
          refine And.intro (fun _ => ?_) (fun q => absurd h4 q)
          exact fin _ (by rw [r_mfits, if_neg h, if_pos h4, q1])
        · have h4 : ¬ z = 0 := h4
          refine And.intro (fun h5 => ?_) (fun h5 => ?_)
          · have h5 : (p_mfs (A 1) n (2 ^ n)).1 = 0 := by rw [← q1]; exact h5
            refine And.intro (fun q => absurd q h4) (fun _ => ?_)
            exact fin _ (by rw [r_mfits, if_neg h, if_neg h4, if_pos h5])
          · have h5 : ¬ (p_mfs (A 1) n (2 ^ n)).1 = 0 := by rw [← q1]; exact h5
            refine And.intro (fun h6 => ?_) (fun h6 => ?_)
            · exact fin _ (by rw [r_mfits, if_neg h, if_neg h4, if_neg h5, if_pos h6, q2])
            · refine And.intro (fun h7 => ?_) (fun h7 => ?_)
              · exact fin _ (by rw [r_mfits, if_neg h, if_neg h4, if_neg h5, if_neg h6, if_pos h7, q3])
              · exact fin _ (by rw [r_mfits, if_neg h, if_neg h4, if_neg h5, if_neg h6, if_neg h7, ← hal, q4])
      · exact absurd hgt h3
    | succ k ih =>
      intro i x a1 a2 a3 a4 hi hx ha
      have hgt : ¬ al < x := by rw [hx, hal2, nI_ltI (by omega) (by omega)]; omega
      have next : ∀ b1 b2 b3 b4 : Int32, (b1, b2, b3, b4) = p_mfS (A 1) n x (a1, a2, a3, a4) → G 2 [some (.ref 0), some (.int z), some (.int al), some (.int b1), some (.int b2), some (.int b3), some (.int b4), some (.int (x + 1))] [] (mdW s A) := fun b1 b2 b3 b4 hb => ih (i + 1) _ _ _ _ _ (by omega) (by rw [hx, nI_1]) (by rw [hb, p_mfs, ← ha, ← hx])
      refine hG 2 _ _ _ (And.intro (fun h3 => ?_) (fun h3 => ?_))
      · exact absurd h3 hgt
      · refine And.intro ⟨s, A, x, n, m, rfl, rfl, hn, hn8, hm, hm8⟩ ?_
        intro r hr
        obtain ⟨so, hso⟩ : ∃ so, so = p_mis (A 1) n x := ⟨_, rfl⟩
        obtain rfl : r = some (.int so) := by rw [hso, ← e3]; exact hr
        refine And.intro (fun h4 => ?_) (fun h4 => ?_)
        · have h4 : so = 0 := h4
          exact next _ _ _ _ (by rw [p_mfS, ← hso, if_pos h4])
        · have h4 : ¬ so = 0 := h4
          refine And.intro (fun h5 => ?_) (fun h5 => ?_)
          · have h5 : a1 = 0 := h5
            exact next _ _ _ _ (by rw [p_mfS, ← hso, if_neg h4]; show _ = (a1 + 1, (if a1 = 0 then x else a2), a3 &&& x, a4 ||| x); rw [if_pos h5])
          · have h5 : ¬ a1 = 0 := h5
            exact next _ _ _ _ (by rw [p_mfS, ← hso, if_neg h4]; show _ = (a1 + 1, (if a1 = 0 then x else a2), a3 &&& x, a4 ||| x); rw [if_neg h5])
  have l := loop (2 ^ n) 0 0 0 (-4) al 0 (by omega) nI_0.symm (by rw [p_mfs, hal])
  rw [hal, ← hn] at l
  exact l
end
section
/-! ===== WishClerkModel: least sets, who goes round ===== -/
def p_msS (cl nd : Nat → Int32) (n : Nat) (g : Int32) (q : Int32 × Int32) : Int32 × Int32 := if p_bo g 8 < q.1 then (if p_ga cl n (p_fw nd n g) &&& p_fw nd n g = 0 then q else (p_bo g 8, g)) else q
def p_ms (cl nd : Nat → Int32) (n : Nat) : Nat → Int32 × Int32
  | 0 => (1000000, -4)
  | k + 1 => p_msS cl nd n (nI (k + 1)) (p_ms cl nd n k)
def r_mset (cl nd : Nat → Int32) (n : Nat) (z : Int32) : Int32 := if z < 0 ∨ 1 < z then -1 else if (p_ms cl nd n (2 ^ n - 1)).2 = -4 then -4 else if z = 0 then (p_ms cl nd n (2 ^ n - 1)).1 else (p_ms cl nd n (2 ^ n - 1)).2
def c_X6_set : sCtr := ((yX6_set, cX6_set, 7, (some .int)), (7, 1, 2, 47), true,
  mdfp,
  fun vs L => ∃ (s : Nat → Int32) (A : Nat → Nat → Int32) (z : Int32) (n : Nat), vs = [.ref 0, .int z] ∧ L = mdW s A ∧ s 3 = nI n ∧ n ≤ 8,
  fun vs L r _ => r = some (.int (r_mset (fun i => bF L 1 (18 + i)) (fun i => bF L 1 (10 + i)) (oI L 0 3).toNatClampNeg (vI vs 1))))
theorem sta_X6_set : s_Sta c_X6_set := ⟨⟨by decide +kernel, by decide +kernel, by decide +kernel⟩, List.mem_of_getElem? (i := 1170) (by decide +kernel), List.mem_of_getElem? (i := 70) (by decide +kernel), ⟨List.mem_of_getElem? (i := 1168) (by decide +kernel), List.mem_of_getElem? (i := 1169) (by decide +kernel), Or.inl ⟨_, rfl, rfl⟩⟩⟩

def k_X6_set : List sBk := [
  (0, false, [true, true, false, false, false, false, false], [o0 0 (.iload_n 1), o0 1 .i2l, oK 2 (.lconst 0) (.long 0), oK 3 (.lconst 1) (.long 1), oC 4 (.invokestatic 90) [921] c_X6_in, oN 7 (.ifCond .ne 5) [1], oK 10 (.iconst (-1)) (.int (-1)), o0 11 .ireturn]),
  (12, false, [true, true, false, false, false, false, false], [oV 12 (.ldc 239) [1154] (.int 1000000), o0 14 (.istore_n 2), oK 15 (.bipush (-4)) (.int (-4)), o0 17 (.istore_n 3), oK 18 (.iconst 1) (.int 1), o0 19 (.istore 4), oN 21 .nop [2]]),
  (21, true, [true, true, true, true, true, false, false], [o0 21 (.iload 4), oK 23 (.iconst 1) (.int 1), o0 24 (.aload_n 0), oN 25 (.getfield 85) [6, 3, 825], o0 28 .ishl, oN 29 (.if_icmp .ge 71) [9], o0 32 (.aload_n 0), o0 33 (.iload 4), oC 35 (.invokevirtual 189) [1019] c_X6_follow, o0 38 (.istore 5), o0 40 (.iload 4), oC 42 (.invokestatic 219) [1105] c_X6_bitsOf, o0 45 (.iload_n 2), oN 46 (.if_icmp .ge 18) [3], o0 49 (.aload_n 0), o0 50 (.iload 5), o0 52 (.iload 5), oC 54 (.invokevirtual 208) [1096] c_X6_doClash, oN 57 (.ifCond .eq 7) [3], oK 60 (.iconst 1) (.int 1), oN 61 (.goto 4) [4]]),
  (64, false, [true, true, true, true, true, false, false], [oK 64 (.iconst 0) (.int 0), oN 65 .nop [4]]),
  (65, false, [true, true, true, true, true, false, false], [o0 65 (.istore 6), o0 67 (.iload 6), oN 69 (.ifCond .eq 8) [5], o0 72 (.iload 4), oN 74 (.goto 4) [6]]),
  (77, false, [true, true, true, true, true, false, true], [o0 77 (.iload_n 3), oN 78 .nop [6]]),
  (78, false, [true, true, true, false, true, false, true], [o0 78 (.istore_n 3), o0 79 (.iload 6), oN 81 (.ifCond .eq 11) [7], o0 84 (.iload 4), oC 86 (.invokestatic 219) [1105] c_X6_bitsOf, oN 89 (.goto 4) [8]]),
  (92, false, [true, true, true, true, true, false, false], [o0 92 (.iload_n 2), oN 93 .nop [8]]),
  (93, false, [true, true, false, true, true, false, false], [o0 93 (.istore_n 2), oK 94 (.iinc 4 1) (.int 1), oN 97 (.goto (-76)) [2]]),
  (100, false, [false, true, true, true, false, false, false], [o0 100 (.iload_n 3), oK 101 (.bipush (-4)) (.int (-4)), oN 103 (.if_icmp .ne 8) [10], oK 106 (.bipush (-4)) (.int (-4)), oN 108 (.goto 12) [12]]),
  (111, false, [false, true, true, true, false, false, false], [o0 111 (.iload_n 1), oN 112 (.ifCond .ne 7) [11], o0 115 (.iload_n 2), oN 116 (.goto 4) [12]]),
  (119, false, [false, false, false, true, false, false, false], [o0 119 (.iload_n 3), oN 120 .nop [12]]),
  (120, false, [false, false, false, false, false, false, false], [o0 120 .ireturn])]
set_option maxRecDepth 100000 in
theorem ck_X6_set : s_ck RX6 cX6_set 7 2 47 k_X6_set = true := by decide +kernel

set_option maxRecDepth 100000 in
set_option maxHeartbeats 1000000 in
theorem ok_X6_set : s_Ok c_X6_set := by
  refine s_ok_of k_X6_set (by decide +kernel) sta_X6_set ck_X6_set (And.intro ok_X6_in (And.intro ok_X6_follow (And.intro ok_X6_bitsOf (And.intro ok_X6_doClash (And.intro ok_X6_bitsOf trivial))))) ?_
  rintro vs L ⟨s, A, z, n, rfl, rfl, hn, hn8⟩
  refine ⟨rfl, fun G hG => ?_⟩
  have h28 := p_2le n hn8
  have h20 : 0 < 2 ^ n := Nat.two_pow_pos n
  have e3 : (s 3).toNatClampNeg = n := by rw [hn, nI_clamp (by omega)]
  obtain ⟨cl, hcl⟩ : ∃ cl, cl = fun i => A 1 (18 + i) := ⟨_, rfl⟩
  obtain ⟨nd, hnd⟩ : ∃ nd, nd = fun i => A 1 (10 + i) := ⟨_, rfl⟩
  have fin : ∀ a : Int32, a = r_mset cl nd n z → s_PP (some .int) true c_X6_set.2.2.2.2.2 [.ref 0, .int z] (mdW s A) (some (.int a)) (mdW s A) := fun a ha => ⟨rfl, by rw [ha, ← e3, hcl, hnd]; rfl, fun _ => rfl⟩
  refine hG 0 _ _ _ (And.intro ⟨_, _, _, rfl⟩ ?_)
  intro r hr
  obtain ⟨b, hb⟩ : ∃ b, b = p_in64 z.toInt64 0 (1 : Int32).toInt64 := ⟨_, rfl⟩
  obtain rfl : r = some (.int b) := by rw [hb]; exact hr
  refine And.intro (fun h => ?_) (fun h => ?_)
  · have h : z < 0 ∨ 1 < z := (p_rng _ _).mp (hb.symm.trans h)
    exact fin _ (by rw [r_mset, if_pos h])
  have h : ¬ (z < 0 ∨ 1 < z) := fun q => h (hb.trans ((p_rng _ _).mpr q))
  have loop : ∀ (k i : Nat) (x a1 a2 : Int32), i + k = 2 ^ n - 1 → x = nI (i + 1) → (a1, a2) = p_ms cl nd n i → G 2 [some (.ref 0), some (.int z), some (.int a1), some (.int a2), some (.int x), none, none] [] (mdW s A) := by
    intro k
    induction k with
    | zero =>
      intro i x a1 a2 hi hx ha
      have hq : (a1, a2) = p_ms cl nd n (2 ^ n - 1) := by rw [ha, show i = 2 ^ n - 1 by omega]
      have q1 : a1 = (p_ms cl nd n (2 ^ n - 1)).1 := by rw [← hq]
      have q2 : a2 = (p_ms cl nd n (2 ^ n - 1)).2 := by rw [← hq]
      refine hG 2 _ _ _ (And.intro (fun h2 => ?_) (fun h2 => ?_))
      · have h2 : x < (1 : Int32) <<< (s 3 &&& 31) := h2
        rw [hx, hn, p_2n n (by omega), nI_ltI (by omega) (by omega)] at h2; omega
      · refine And.intro (fun h3 => ?_) (fun h3 => ?_)
        · have h3 : (p_ms cl nd n (2 ^ n - 1)).2 = -4 := by rw [← q2]; exact h3
          exact fin _ (by rw [r_mset, if_neg h, if_pos h3])
        · have h3 : ¬ (p_ms cl nd n (2 ^ n - 1)).2 = -4 := by rw [← q2]; exact h3
          refine And.intro (fun h4 => ?_) (fun h4 => ?_)
          · exact fin _ (by rw [r_mset, if_neg h, if_neg h3, if_pos h4, q1])
          · exact fin _ (by rw [r_mset, if_neg h, if_neg h3, if_neg h4, q2])
    | succ k ih =>
      intro i x a1 a2 hi hx ha
      have next : ∀ b1 b2 : Int32, (b1, b2) = p_msS cl nd n x (a1, a2) → G 2 [some (.ref 0), some (.int z), some (.int b1), some (.int b2), some (.int (x + 1)), none, none] [] (mdW s A) := fun b1 b2 hb => ih (i + 1) _ _ _ (by omega) (by rw [hx, nI_1]) (by rw [hb, p_ms, ← ha, ← hx])
      refine hG 2 _ _ _ (And.intro (fun h2 => ?_) (fun h2 => ?_))
      · refine And.intro ⟨s, A, _, n, rfl, rfl, hn, hn8⟩ ?_
        intro r hr
        obtain ⟨g, hg⟩ : ∃ g, g = p_fw nd n x := ⟨_, rfl⟩
        obtain rfl : r = some (.int g) := by rw [hg, hnd, ← e3]; exact hr
        refine And.intro ⟨_, rfl⟩ ?_
        intro r hr
        obtain ⟨c, hc⟩ : ∃ c, c = p_bo x 8 := ⟨_, rfl⟩
        obtain rfl : r = some (.int c) := by rw [hc]; exact hr
        refine And.intro (fun h3 => ?_) (fun h3 => ?_)
        · have h3 : p_bo x 8 < a1 := by rw [← hc]; exact h3
          refine And.intro ⟨s, A, g, g, n, rfl, rfl, hn, hn8⟩ ?_
          intro r hr
          obtain ⟨d, hd⟩ : ∃ d, d = if p_ga cl n g &&& g = 0 then (0 : Int32) else 1 := ⟨_, rfl⟩
          obtain rfl : r = some (.int d) := by rw [hd, hcl, ← e3]; exact hr
          refine And.intro (fun h4 => ?_) (fun h4 => ?_)
          · have h4 : d = 0 := h4
            have h5 : p_ga cl n g &&& g = 0 := by
              by_cases q : p_ga cl n g &&& g = 0
              · exact q
              · rw [hd, if_neg q] at h4; exact absurd h4 (by decide)
            refine And.intro (fun _ => ?_) (fun q => absurd rfl q)
            refine And.intro (fun _ => ?_) (fun q => absurd rfl q)
            exact next _ _ (by rw [p_msS, if_pos h3, ← hg, if_pos h5])
          · have h4 : ¬ d = 0 := h4
            have h5 : ¬ p_ga cl n g &&& g = 0 := fun q => h4 (by rw [hd, if_pos q])
            refine And.intro (fun z => absurd z (by decide)) (fun _ => ?_)
            refine And.intro (fun z => absurd z (by decide)) (fun _ => ?_)
            refine And.intro ⟨_, rfl⟩ ?_
            intro r hr
            obtain rfl : r = some (.int (p_bo x 8)) := hr
            exact next _ _ (by rw [p_msS, if_pos h3, ← hg, if_neg h5])
        · have h3 : ¬ p_bo x 8 < a1 := by rw [← hc]; exact h3
          refine And.intro (fun _ => ?_) (fun q => absurd rfl q)
          refine And.intro (fun _ => ?_) (fun q => absurd rfl q)
          exact next _ _ (by rw [p_msS, if_neg h3])
      · have h2 : ¬ x < (1 : Int32) <<< (s 3 &&& 31) := h2
        rw [hx, hn, p_2n n (by omega), nI_ltI (by omega) (by omega)] at h2; omega
  exact loop (2 ^ n - 1) 0 1 1000000 (-4) (by omega) rfl rfl
def p_mrS (cl nd : Nat → Int32) (n : Nat) (h g : Int32) (q : Int32 × Int32) : Int32 × Int32 := if g &&& (h ^^^ (-1)) = 0 then (if p_bo g 8 < q.1 then (if p_ga cl n (h &&& (p_tk nd n g h n ^^^ (-1))) &&& (h &&& (p_tk nd n g h n ^^^ (-1))) = 0 then (p_bo g 8, g) else q) else q) else q
def p_mr (cl nd : Nat → Int32) (n : Nat) (h : Int32) : Nat → Int32 × Int32
  | 0 => (1000000, 0)
  | k + 1 => p_mrS cl nd n h (nI k) (p_mr cl nd n h k)
def r_mrid (cl nd : Nat → Int32) (n : Nat) (h z : Int32) : Int32 := if z < 0 ∨ 1 < z then -1 else if z = 0 then (p_mr cl nd n h (2 ^ n)).1 else (p_mr cl nd n h (2 ^ n)).2
def c_X6_rid : sCtr := ((yX6_rid, cX6_rid, 7, (some .int)), (7, 1, 3, 71), true,
  mdfp,
  fun vs L => ∃ (s : Nat → Int32) (A : Nat → Nat → Int32) (z : Int32) (n : Nat), vs = [.ref 0, .int z] ∧ L = mdW s A ∧ s 3 = nI n ∧ n ≤ 8,
  fun vs L r _ => r = some (.int (r_mrid (fun i => bF L 1 (18 + i)) (fun i => bF L 1 (10 + i)) (oI L 0 3).toNatClampNeg (bF L 1 26) (vI vs 1))))
theorem sta_X6_rid : s_Sta c_X6_rid := ⟨⟨by decide +kernel, by decide +kernel, by decide +kernel⟩, List.mem_of_getElem? (i := 1174) (by decide +kernel), List.mem_of_getElem? (i := 70) (by decide +kernel), ⟨List.mem_of_getElem? (i := 1172) (by decide +kernel), List.mem_of_getElem? (i := 1173) (by decide +kernel), Or.inl ⟨_, rfl, rfl⟩⟩⟩

def k_X6_rid : List sBk := [
  (0, false, [true, true, false, false, false, false, false], [o0 0 (.iload_n 1), o0 1 .i2l, oK 2 (.lconst 0) (.long 0), oK 3 (.lconst 1) (.long 1), oC 4 (.invokestatic 90) [921] c_X6_in, oN 7 (.ifCond .ne 5) [1], oK 10 (.iconst (-1)) (.int (-1)), o0 11 .ireturn]),
  (12, false, [true, true, false, false, false, false, false], [oV 12 (.ldc 239) [1154] (.int 1000000), o0 14 (.istore_n 2), oK 15 (.iconst 0) (.int 0), o0 16 (.istore_n 3), oK 17 (.iconst 0) (.int 0), o0 18 (.istore 4), oN 20 .nop [2]]),
  (20, true, [true, true, true, true, true, false, false], [o0 20 (.iload 4), oK 22 (.iconst 1) (.int 1), o0 23 (.aload_n 0), oN 24 (.getfield 85) [6, 3, 825], o0 27 .ishl, oN 28 (.if_icmp .ge 103) [9], o0 31 (.aload_n 0), oN 32 (.getfield 7) [6, 0, 822], oK 35 (.bipush 26) (.int 26), o0 37 .iaload, o0 38 (.aload_n 0), o0 39 (.iload 4), o0 41 (.aload_n 0), oN 42 (.getfield 7) [6, 0, 822], oK 45 (.bipush 26) (.int 26), o0 47 .iaload, oC 48 (.invokevirtual 222) [1112] c_X6_takenBy, oK 51 (.iconst (-1)) (.int (-1)), o0 52 .ixor, o0 53 .iand, o0 54 (.istore 5), o0 56 (.iload 4), o0 58 (.aload_n 0), oN 59 (.getfield 7) [6, 0, 822], oK 62 (.bipush 26) (.int 26), o0 64 .iaload, oK 65 (.iconst (-1)) (.int (-1)), o0 66 .ixor, o0 67 .iand, oN 68 (.ifCond .ne 27) [3], o0 71 (.iload 4), oC 73 (.invokestatic 219) [1105] c_X6_bitsOf, o0 76 (.iload_n 2), oN 77 (.if_icmp .ge 18) [3], o0 80 (.aload_n 0), o0 81 (.iload 5), o0 83 (.iload 5), oC 85 (.invokevirtual 208) [1096] c_X6_doClash, oN 88 (.ifCond .ne 7) [3], oK 91 (.iconst 1) (.int 1), oN 92 (.goto 4) [4]]),
  (95, false, [true, true, true, true, true, false, false], [oK 95 (.iconst 0) (.int 0), oN 96 .nop [4]]),
  (96, false, [true, true, true, true, true, false, false], [o0 96 (.istore 6), o0 98 (.iload 6), oN 100 (.ifCond .eq 8) [5], o0 103 (.iload 4), oN 105 (.goto 4) [6]]),
  (108, false, [true, true, true, true, true, false, true], [o0 108 (.iload_n 3), oN 109 .nop [6]]),
  (109, false, [true, true, true, false, true, false, true], [o0 109 (.istore_n 3), o0 110 (.iload 6), oN 112 (.ifCond .eq 11) [7], o0 115 (.iload 4), oC 117 (.invokestatic 219) [1105] c_X6_bitsOf, oN 120 (.goto 4) [8]]),
  (123, false, [true, true, true, true, true, false, false], [o0 123 (.iload_n 2), oN 124 .nop [8]]),
  (124, false, [true, true, false, true, true, false, false], [o0 124 (.istore_n 2), oK 125 (.iinc 4 1) (.int 1), oN 128 (.goto (-108)) [2]]),
  (131, false, [false, true, true, true, false, false, false], [o0 131 (.iload_n 1), oN 132 (.ifCond .ne 7) [10], o0 135 (.iload_n 2), oN 136 (.goto 4) [11]]),
  (139, false, [false, false, false, true, false, false, false], [o0 139 (.iload_n 3), oN 140 .nop [11]]),
  (140, false, [false, false, false, false, false, false, false], [o0 140 .ireturn])]
set_option maxRecDepth 100000 in
theorem ck_X6_rid : s_ck RX6 cX6_rid 7 3 71 k_X6_rid = true := by decide +kernel

set_option maxRecDepth 100000 in
set_option maxHeartbeats 1000000 in
theorem ok_X6_rid : s_Ok c_X6_rid := by
  refine s_ok_of k_X6_rid (by decide +kernel) sta_X6_rid ck_X6_rid (And.intro ok_X6_in (And.intro ok_X6_takenBy (And.intro ok_X6_bitsOf (And.intro ok_X6_doClash (And.intro ok_X6_bitsOf trivial))))) ?_
  rintro vs L ⟨s, A, z, n, rfl, rfl, hn, hn8⟩
  refine ⟨rfl, fun G hG => ?_⟩
  have h28 := p_2le n hn8
  have h20 : 0 < 2 ^ n := Nat.two_pow_pos n
  have e3 : (s 3).toNatClampNeg = n := by rw [hn, nI_clamp (by omega)]
  obtain ⟨cl, hcl⟩ : ∃ cl, cl = fun i => A 1 (18 + i) := ⟨_, rfl⟩
  obtain ⟨nd, hnd⟩ : ∃ nd, nd = fun i => A 1 (10 + i) := ⟨_, rfl⟩
  have fin : ∀ a : Int32, a = r_mrid cl nd n (A 1 26) z → s_PP (some .int) true c_X6_rid.2.2.2.2.2 [.ref 0, .int z] (mdW s A) (some (.int a)) (mdW s A) := fun a ha => ⟨rfl, by rw [ha, ← e3, hcl, hnd]; rfl, fun _ => rfl⟩
  refine hG 0 _ _ _ (And.intro ⟨_, _, _, rfl⟩ ?_)
  intro r hr
  obtain ⟨b, hb⟩ : ∃ b, b = p_in64 z.toInt64 0 (1 : Int32).toInt64 := ⟨_, rfl⟩
  obtain rfl : r = some (.int b) := by rw [hb]; exact hr
  refine And.intro (fun h => ?_) (fun h => ?_)
  · have h : z < 0 ∨ 1 < z := (p_rng _ _).mp (hb.symm.trans h)
    exact fin _ (by rw [r_mrid, if_pos h])
  have h : ¬ (z < 0 ∨ 1 < z) := fun q => h (hb.trans ((p_rng _ _).mpr q))
  have loop : ∀ (k i : Nat) (x a1 a2 : Int32), i + k = 2 ^ n → x = nI i → (a1, a2) = p_mr cl nd n (A 1 26) i → G 2 [some (.ref 0), some (.int z), some (.int a1), some (.int a2), some (.int x), none, none] [] (mdW s A) := by
    intro k
    induction k with
    | zero =>
      intro i x a1 a2 hi hx ha
      have hq : (a1, a2) = p_mr cl nd n (A 1 26) (2 ^ n) := by rw [ha, show i = 2 ^ n by omega]
      have q1 : a1 = (p_mr cl nd n (A 1 26) (2 ^ n)).1 := by rw [← hq]
      have q2 : a2 = (p_mr cl nd n (A 1 26) (2 ^ n)).2 := by rw [← hq]
      refine hG 2 _ _ _ (And.intro (fun h2 => ?_) (fun h2 => ?_))
      · have h2 : x < (1 : Int32) <<< (s 3 &&& 31) := h2
        rw [hx, hn, p_2n n (by omega), nI_ltI (by omega) (by omega)] at h2; omega
      · refine And.intro (fun h4 => ?_) (fun h4 => ?_)
        · exact fin _ (by rw [r_mrid, if_neg h, if_pos h4, q1])
        · exact fin _ (by rw [r_mrid, if_neg h, if_neg h4, q2])
    | succ k ih =>
      intro i x a1 a2 hi hx ha
      have next : ∀ b1 b2 : Int32, (b1, b2) = p_mrS cl nd n (A 1 26) x (a1, a2) → G 2 [some (.ref 0), some (.int z), some (.int b1), some (.int b2), some (.int (x + 1)), none, none] [] (mdW s A) := fun b1 b2 hb => ih (i + 1) _ _ _ (by omega) (by rw [hx, nI_1]) (by rw [hb, p_mr, ← ha, ← hx])
      refine hG 2 _ _ _ (And.intro (fun h2 => ?_) (fun h2 => ?_))
      · refine And.intro (vi159 26 (by omega)) (And.intro (vi159 26 (by omega)) (And.intro ⟨s, A, _, _, n, rfl, rfl, hn, hn8⟩ ?_))
        intro r hr
        obtain ⟨t, ht⟩ : ∃ t, t = p_tk nd n x (A 1 26) n := ⟨_, rfl⟩
        obtain rfl : r = some (.int t) := by rw [ht, hnd, ← e3]; exact hr
        obtain ⟨g, hg⟩ : ∃ g, g = A 1 26 &&& (t ^^^ (-1)) := ⟨_, rfl⟩
        have hgt : A 1 26 &&& (p_tk nd n x (A 1 26) n ^^^ (-1)) = g := by rw [← ht, hg]
        refine And.intro (vi159 26 (by omega)) (And.intro (fun h2 => ?_) (fun h2 => ?_))
        · have h2 : x &&& (A 1 26 ^^^ (-1)) = 0 := h2
          refine And.intro ⟨_, rfl⟩ ?_
          intro r hr
          obtain ⟨c, hc⟩ : ∃ c, c = p_bo x 8 := ⟨_, rfl⟩
          obtain rfl : r = some (.int c) := by rw [hc]; exact hr
          refine And.intro (fun h3 => ?_) (fun h3 => ?_)
          · have h3 : p_bo x 8 < a1 := by rw [← hc]; exact h3
            refine And.intro ⟨s, A, _, _, n, rfl, rfl, hn, hn8⟩ ?_
            intro r hr
            obtain ⟨d, hd⟩ : ∃ d, d = if p_ga cl n g &&& g = 0 then (0 : Int32) else 1 := ⟨_, rfl⟩
            obtain rfl : r = some (.int d) := by rw [hd, hcl, ← e3, hg]; exact hr
            refine And.intro (fun h4 => ?_) (fun h4 => ?_)
            · have h4 : d = 0 := h4
              have h5 : p_ga cl n g &&& g = 0 := by
                by_cases q : p_ga cl n g &&& g = 0
                · exact q
                · rw [hd, if_neg q] at h4; exact absurd h4 (by decide)
              refine And.intro (fun z => absurd z (by decide)) (fun _ => ?_)
              refine And.intro (fun z => absurd z (by decide)) (fun _ => ?_)
              refine And.intro ⟨_, rfl⟩ ?_
              intro r hr
              obtain rfl : r = some (.int (p_bo x 8)) := hr
              exact next _ _ (by rw [p_mrS, if_pos h2, if_pos h3, hgt, if_pos h5])
            · have h4 : ¬ d = 0 := h4
              have h5 : ¬ p_ga cl n g &&& g = 0 := fun q => h4 (by rw [hd, if_pos q])
              refine And.intro (fun _ => ?_) (fun q => absurd rfl q)
              refine And.intro (fun _ => ?_) (fun q => absurd rfl q)
              exact next _ _ (by rw [p_mrS, if_pos h2, if_pos h3, hgt, if_neg h5])
          · have h3 : ¬ p_bo x 8 < a1 := by rw [← hc]; exact h3
            refine And.intro (fun _ => ?_) (fun q => absurd rfl q)
            refine And.intro (fun _ => ?_) (fun q => absurd rfl q)
            exact next _ _ (by rw [p_mrS, if_pos h2, if_neg h3])
        · have h2 : ¬ x &&& (A 1 26 ^^^ (-1)) = 0 := h2
          refine And.intro (fun _ => ?_) (fun q => absurd rfl q)
          refine And.intro (fun _ => ?_) (fun q => absurd rfl q)
          exact next _ _ (by rw [p_mrS, if_neg h2])
      · have h2 : ¬ x < (1 : Int32) <<< (s 3 &&& 31) := h2
        rw [hx, hn, p_2n n (by omega), nI_ltI (by omega) (by omega)] at h2; omega
  exact loop (2 ^ n) 0 0 1000000 0 (by omega) nI_0.symm rfl
def p_mgo (st : Nat → Int32) (n : Nat) (w : Int32) : Int32 := p_hb (p_fw (fun i => st (10 + i)) n (st (10 + w.toNatClampNeg))) w
theorem p_hb_01 (x i : Int32) : p_hb x i = 0 ∨ p_hb x i = 1 := by
  rw [← p_hb_v]; exact p_and1 _
def c_X6_goesRound : sCtr := ((yX6_goesRound, cX6_goesRound, 2, (some .boolean)), (7, 1, 2, 47), true,
  mdfp,
  fun vs L => ∃ (s : Nat → Int32) (A : Nat → Nat → Int32) (w : Int32) (j n : Nat), vs = [.ref 0, .int w] ∧ L = mdW s A ∧ s 3 = nI n ∧ n ≤ 8 ∧ w = nI j ∧ j < 8,
  fun vs L r _ => r = some (.int (p_mgo (bF L 1) (oI L 0 3).toNatClampNeg (vI vs 1))))
theorem sta_X6_goesRound : s_Sta c_X6_goesRound := ⟨⟨by decide +kernel, by decide +kernel, by decide +kernel⟩, List.mem_of_getElem? (i := 1182) (by decide +kernel), List.mem_of_getElem? (i := 70) (by decide +kernel), ⟨List.mem_of_getElem? (i := 1181) (by decide +kernel), List.mem_of_getElem? (i := 60) (by decide +kernel), Or.inl ⟨_, rfl, rfl⟩⟩⟩

def k_X6_goesRound : List sBk := [
  (0, false, [true, true], [o0 0 (.aload_n 0), o0 1 (.aload_n 0), oN 2 (.getfield 7) [6, 0, 822], oK 5 (.bipush 10) (.int 10), o0 7 (.iload_n 1), o0 8 .iadd, o0 9 .iaload, oC 10 (.invokevirtual 189) [1019] c_X6_follow, o0 13 (.iload_n 1), o0 14 .ishr, oK 15 (.iconst 1) (.int 1), o0 16 .iand, oK 17 (.iconst 1) (.int 1), oN 18 (.if_icmp .ne 7) [1], oK 21 (.iconst 1) (.int 1), oN 22 (.goto 4) [2]]),
  (25, false, [false, false], [oK 25 (.iconst 0) (.int 0), oN 26 .nop [2]]),
  (26, false, [false, false], [o0 26 .ireturn])]
set_option maxRecDepth 100000 in
theorem ck_X6_goesRound : s_ck RX6 cX6_goesRound 2 2 47 k_X6_goesRound = true := by decide +kernel

set_option maxRecDepth 100000 in
set_option maxHeartbeats 1000000 in
theorem ok_X6_goesRound : s_Ok c_X6_goesRound := by
  refine s_ok_of k_X6_goesRound (by decide +kernel) sta_X6_goesRound ck_X6_goesRound (And.intro ok_X6_follow trivial) ?_
  rintro vs L ⟨s, A, w, j, n, rfl, rfl, hn, hn8, hw, hj⟩
  refine ⟨rfl, fun G hG => ?_⟩
  have fin : ∀ b : Int32, b = p_mgo (A 1) (s 3).toNatClampNeg w → (b = 0 ∨ b = 1) ∧ s_PP (some .boolean) true c_X6_goesRound.2.2.2.2.2 [.ref 0, .int w] (mdW s A) (some (.int b)) (mdW s A) := fun b hb => ⟨by rw [hb]; exact p_hb_01 _ _, rfl, by rw [hb]; rfl, fun _ => rfl⟩
  have e : (10 : Int32) + w = nI (10 + j) := by rw [hw]; exact nI_add 10 j
  have ec : ((10 : Int32) + w).toNatClampNeg = 10 + w.toNatClampNeg := by rw [e, hw, nI_clamp (by omega), nI_clamp (by omega)]
  refine hG 0 _ _ _ (And.intro ?_ (And.intro ⟨s, A, _, n, rfl, rfl, hn, hn8⟩ ?_))
  · show vp_in ((10 : Int32) + w) 159
    rw [e]; exact vi159 _ (by omega)
  intro r hr
  obtain ⟨g, hg⟩ : ∃ g, g = p_fw (fun i => A 1 (10 + i)) (s 3).toNatClampNeg (A 1 (10 + w.toNatClampNeg)) := ⟨_, rfl⟩
  obtain rfl : r = some (.int g) := by rw [hg, ← ec]; exact hr
  refine And.intro (fun h => ?_) (fun h => ?_)
  · have h : (g >>> (w &&& 31)) &&& 1 = 1 := h
    exact fin _ (by rw [p_mgo, ← hg, ← p_hb_v, h])
  · have h : ¬ (g >>> (w &&& 31)) &&& 1 = 1 := h
    exact fin _ (by rw [p_mgo, ← hg, p_hb_0.mpr h])
end
section
/-! ===== WishClerkModel: keeping, sheets, counts ===== -/
def q_cpk (st : Nat → Int32) (a b i : Nat) : Nat → Int32 := fun j => if a ≤ j ∧ j < a + i then st (b + (j - a)) else st j
theorem q_cpk0 (st : Nat → Int32) (a b : Nat) : q_cpk st a b 0 = st := by
  funext j
  rw [q_cpk, if_neg (by omega)]
theorem q_cpkS (st : Nat → Int32) (a b i : Nat) (h : b + i < a ∨ a + i ≤ b + i) : upd (q_cpk st a b i) (a + i) (q_cpk st a b i (b + i)) = q_cpk st a b (i + 1) := by
  funext j
  have e : q_cpk st a b i (b + i) = st (b + i) := by
    rw [q_cpk, if_neg (by omega)]
  rw [e, upd]
  by_cases hj : j = a + i
  · rw [if_pos hj, q_cpk, if_pos (by omega), show j - a = i by omega]
  · rw [if_neg hj]
    unfold q_cpk
    by_cases h2 : a ≤ j ∧ j < a + i
    · rw [if_pos h2, if_pos (by omega)]
    · rw [if_neg h2, if_neg (by omega)]
def c_X6_copies : sCtr := ((yX6_copies, cX6_copies, 4, none), (7, 2, 0, 0), false,
  mdfp,
  fun vs L => ∃ (s : Nat → Int32) (A : Nat → Nat → Int32) (x y : Int32) (a b : Nat), vs = [.ref 0, .int x, .int y] ∧ L = mdW s A ∧ x = nI a ∧ y = nI b ∧ a + 53 ≤ 159 ∧ b + 53 ≤ 159 ∧ (b + 53 ≤ a ∨ a ≤ b),
  fun vs L r L' => r = none ∧ L' = mdU L (q_cpk (bF L 1) (vI vs 1).toNatClampNeg (vI vs 2).toNatClampNeg 53))
theorem sta_X6_copies : s_Sta c_X6_copies := ⟨⟨by decide +kernel, by decide +kernel, by decide +kernel⟩, List.mem_of_getElem? (i := 1221) (by decide +kernel), List.mem_of_getElem? (i := 70) (by decide +kernel), ⟨List.mem_of_getElem? (i := 1220) (by decide +kernel), List.mem_of_getElem? (i := 62) (by decide +kernel), Or.inl ⟨_, rfl, rfl⟩⟩⟩

def k_X6_copies : List sBk := [
  (0, false, [true, true, true, false], [oK 0 (.iconst 0) (.int 0), o0 1 (.istore_n 3), oN 2 .nop [1]]),
  (2, true, [true, true, true, true], [o0 2 (.iload_n 3), oK 3 (.bipush 53) (.int 53), oN 5 (.if_icmp .ge 25) [2], o0 8 (.aload_n 0), oN 9 (.getfield 7) [6, 0, 822], o0 12 (.iload_n 1), o0 13 (.iload_n 3), o0 14 .iadd, o0 15 (.aload_n 0), oN 16 (.getfield 7) [6, 0, 822], o0 19 (.iload_n 2), o0 20 (.iload_n 3), o0 21 .iadd, o0 22 .iaload, o0 23 .iastore, oK 24 (.iinc 3 1) (.int 1), oN 27 (.goto (-25)) [1]]),
  (30, false, [false, false, false, false], [o0 30 .return_])]
set_option maxRecDepth 100000 in
theorem ck_X6_copies : s_ck RX6 cX6_copies 4 0 0 k_X6_copies = true := by decide +kernel

set_option maxRecDepth 100000 in
set_option maxHeartbeats 1000000 in
theorem ok_X6_copies : s_Ok c_X6_copies := by
  refine s_ok_of k_X6_copies (by decide +kernel) sta_X6_copies ck_X6_copies trivial ?_
  rintro vs L ⟨s, A, x, y, a, b, rfl, rfl, hx, hy, ha, hb, hd⟩
  refine ⟨rfl, fun G hG => ?_⟩
  have loop : ∀ (k i : Nat) (z : Int32) (f : Nat → Int32), i + k = 53 → z = nI i → f = q_cpk (A 1) a b i → G 1 [some (.ref 0), some (.int x), some (.int y), some (.int z)] [] (mdW s (va_up A 1 f)) := by
    intro k
    induction k with
    | zero =>
      intro i z f hi hz hf
      refine hG 1 _ _ _ (And.intro (fun h => ?_) (fun h => ?_))
      · rw [hz, show (53 : Int32) = nI 53 from rfl, nI_ltI (by omega) (by omega)] at h; omega
      · refine ⟨rfl, ⟨rfl, ?_⟩, fun h => by cases h⟩
        show mdW s (va_up A 1 f) = mdW s (va_up A 1 (q_cpk (A 1) x.toNatClampNeg y.toNatClampNeg 53))
        rw [hx, hy, nI_clamp (by omega), nI_clamp (by omega), hf, show i = 53 by omega]
    | succ k ih =>
      intro i z f hi hz hf
      refine hG 1 _ _ _ (And.intro (fun h => ?_) (fun h => ?_))
      · have e1 : x + z = nI (a + i) := by rw [hx, hz, nI_add]
        have e2 : y + z = nI (b + i) := by rw [hy, hz, nI_add]
        refine And.intro ?_ (And.intro ?_ ?_)
        · show vp_in (y + z) 159
          rw [e2]; exact vi159 _ (by omega)
        · show vp_in (x + z) 159
          rw [e1]; exact vi159 _ (by omega)
        · exact ih (i + 1) _ (upd f (x + z).toNatClampNeg (f (y + z).toNatClampNeg)) (by omega) (by rw [hz, nI_1]) (by
            rw [e1, e2, nI_clamp (by omega), nI_clamp (by omega), hf]
            exact q_cpkS _ _ _ _ (by omega))
      · rw [hz, show (53 : Int32) = nI 53 from rfl, nI_ltI (by omega) (by omega)] at h; omega
  have l := loop 53 0 0 (A 1) (by omega) nI_0.symm (q_cpk0 _ _ _).symm
  rw [va_up1] at l
  exact hG 0 _ _ _ l
def r_mkeep (ke : Nat → Int32) (z : Int32) : Int32 := if z < 0 ∨ 1 < z then -1 else if ke z.toNatClampNeg = 0 then 0 else 1
def q_mkeepK (ke : Nat → Int32) (z : Int32) : Nat → Int32 := fun j => if z < 0 ∨ 1 < z then ke j else upd ke z.toNatClampNeg 1 j
def q_mkeep (st : Nat → Int32) (z : Int32) : Nat → Int32 := fun j => if z < 0 ∨ 1 < z then st j else q_cpk st (53 * (z.toNatClampNeg + 1)) 0 53 j
theorem p_01 {z : Int32} (h : ¬ (z < 0 ∨ 1 < z)) : z = nI 0 ∨ z = nI 1 := by
  obtain ⟨j, hj, rfl⟩ := nI_of (fun q => h (Or.inl q))
  have : ¬ 1 < j := fun q => h (Or.inr ((nI_ltI (a := 1) (by omega) hj).mpr q))
  rcases (show j = 0 ∨ j = 1 by omega) with rfl | rfl
  · exact Or.inl rfl
  · exact Or.inr rfl
def c_X6_keep : sCtr := ((yX6_keep, cX6_keep, 3, (some .int)), (7, 1, 1, 25), false,
  mdfp,
  fun vs L => ∃ (s : Nat → Int32) (A : Nat → Nat → Int32) (z : Int32), vs = [.ref 0, .int z] ∧ L = mdW s A,
  fun vs L r L' => r = some (.int (r_mkeep (bF L 2) (vI vs 1))) ∧ L' = mdW (oI L 0) (va_up (va_up (bF L) 2 (q_mkeepK (bF L 2) (vI vs 1))) 1 (q_mkeep (bF L 1) (vI vs 1))))
theorem sta_X6_keep : s_Sta c_X6_keep := ⟨⟨by decide +kernel, by decide +kernel, by decide +kernel⟩, List.mem_of_getElem? (i := 1217) (by decide +kernel), List.mem_of_getElem? (i := 70) (by decide +kernel), ⟨List.mem_of_getElem? (i := 1215) (by decide +kernel), List.mem_of_getElem? (i := 1216) (by decide +kernel), Or.inl ⟨_, rfl, rfl⟩⟩⟩

def k_X6_keep : List sBk := [
  (0, false, [true, true, false], [o0 0 (.iload_n 1), o0 1 .i2l, oK 2 (.lconst 0) (.long 0), oK 3 (.lconst 1) (.long 1), oC 4 (.invokestatic 90) [921] c_X6_in, oN 7 (.ifCond .ne 5) [1], oK 10 (.iconst (-1)) (.int (-1)), o0 11 .ireturn]),
  (12, false, [true, true, false], [o0 12 (.aload_n 0), oN 13 (.getfield 13) [6, 1, 823], o0 16 (.iload_n 1), o0 17 .baload, oC 18 (.invokestatic 150) [976] c_X6_flag, o0 21 (.istore_n 2), o0 22 (.aload_n 0), oN 23 (.getfield 13) [6, 1, 823], o0 26 (.iload_n 1), oK 27 (.iconst 1) (.int 1), o0 28 .bastore, o0 29 (.aload_n 0), oK 30 (.bipush 53) (.int 53), o0 32 (.iload_n 1), oK 33 (.iconst 1) (.int 1), o0 34 .iadd, o0 35 .imul, oK 36 (.iconst 0) (.int 0), oC 37 (.invokevirtual 264) [1218] c_X6_copies, o0 40 (.iload_n 2), o0 41 .ireturn])]
set_option maxRecDepth 100000 in
theorem ck_X6_keep : s_ck RX6 cX6_keep 3 1 25 k_X6_keep = true := by decide +kernel

set_option maxRecDepth 100000 in
set_option maxHeartbeats 1000000 in
theorem ok_X6_keep : s_Ok c_X6_keep := by
  refine s_ok_of k_X6_keep (by decide +kernel) sta_X6_keep ck_X6_keep (And.intro ok_X6_in (And.intro ok_X6_flag (And.intro ok_X6_copies trivial))) ?_
  rintro vs L ⟨s, A, z, rfl, rfl⟩
  refine ⟨rfl, fun G hG => ?_⟩
  have fin : ∀ (a : Int32) (L2 : sH), a = r_mkeep (A 2) z → L2 = mdW s (va_up (va_up A 2 (q_mkeepK (A 2) z)) 1 (q_mkeep (A 1) z)) → s_PP (some .int) false c_X6_keep.2.2.2.2.2 [.ref 0, .int z] (mdW s A) (some (.int a)) L2 := fun a L2 ha hL => ⟨rfl, ⟨by rw [ha]; rfl, by rw [hL]; rfl⟩, fun h => by cases h⟩
  refine hG 0 _ _ _ (And.intro ⟨_, _, _, rfl⟩ ?_)
  intro r hr
  obtain ⟨b, hb⟩ : ∃ b, b = p_in64 z.toInt64 0 (1 : Int32).toInt64 := ⟨_, rfl⟩
  obtain rfl : r = some (.int b) := by rw [hb]; exact hr
  refine And.intro (fun h => ?_) (fun h => ?_)
  · have h : z < 0 ∨ 1 < z := (p_rng _ _).mp (hb.symm.trans h)
    refine fin _ _ (by rw [r_mkeep, if_pos h]) ?_
    rw [show q_mkeepK (A 2) z = A 2 by funext j; rw [q_mkeepK, if_pos h], va_upI, show q_mkeep (A 1) z = A 1 by funext j; rw [q_mkeep, if_pos h], va_up1]
  have h : ¬ (z < 0 ∨ 1 < z) := fun q => h (hb.trans ((p_rng _ _).mpr q))
  have hin : vp_in z 2 := by
    rcases p_01 h with rfl | rfl
    · exact vp_in_nI (by omega) (by omega)
    · exact vp_in_nI (by omega) (by omega)
  have he : (53 : Int32) * (z + 1) = nI (53 * (z.toNatClampNeg + 1)) := by
    rcases p_01 h with rfl | rfl <;> rfl
  have hz1 : z.toNatClampNeg ≤ 1 := by
    rcases p_01 h with rfl | rfl <;> decide
  refine And.intro hin (And.intro ⟨_, rfl⟩ ?_)
  intro r hr
  obtain rfl : r = some (.int (if A 2 z.toNatClampNeg = 0 then 0 else 1)) := hr
  refine And.intro hin (And.intro ⟨s, va_up A 2 (upd (A 2) z.toNatClampNeg 1), _, _, 53 * (z.toNatClampNeg + 1), 0, rfl, rfl, he, rfl, by omega, by omega, by omega⟩ ?_)
  rintro r L' ⟨hr, hL⟩
  obtain rfl : r = none := hr
  obtain rfl : L' = mdW s (va_up (va_up A 2 (upd (A 2) z.toNatClampNeg 1)) 1 (q_cpk (A 1) (53 * (z.toNatClampNeg + 1)) 0 53)) := by
    have e : ((53 : Int32) * (z + 1)).toNatClampNeg = 53 * (z.toNatClampNeg + 1) := by rw [he, nI_clamp (by omega)]
    rw [← e]; exact hL
  exact fin _ _ (by rw [r_mkeep, if_neg h]) (by rw [show q_mkeepK (A 2) z = upd (A 2) z.toNatClampNeg 1 by funext j; rw [q_mkeepK, if_neg h], show q_mkeep (A 1) z = q_cpk (A 1) (53 * (z.toNatClampNeg + 1)) 0 53 by funext j; rw [q_mkeep, if_neg h]]; rfl)
def r_mback (st ke : Nat → Int32) (z : Int32) : Int32 := if z < 0 ∨ 1 < z then -1 else if ke z.toNatClampNeg = 0 then -2 else st (53 * (z.toNatClampNeg + 1) + 26)
def q_mback (st ke : Nat → Int32) (z : Int32) : Nat → Int32 := fun j => if z < 0 ∨ 1 < z then st j else if ke z.toNatClampNeg = 0 then st j else q_cpk st 0 (53 * (z.toNatClampNeg + 1)) 53 j
def c_X6_back : sCtr := ((yX6_back, cX6_back, 2, (some .int)), (7, 1, 1, 25), false,
  mdfp,
  fun vs L => ∃ (s : Nat → Int32) (A : Nat → Nat → Int32) (z : Int32), vs = [.ref 0, .int z] ∧ L = mdW s A,
  fun vs L r L' => r = some (.int (r_mback (bF L 1) (bF L 2) (vI vs 1))) ∧ L' = mdU L (q_mback (bF L 1) (bF L 2) (vI vs 1)))
theorem sta_X6_back : s_Sta c_X6_back := ⟨⟨by decide +kernel, by decide +kernel, by decide +kernel⟩, List.mem_of_getElem? (i := 1225) (by decide +kernel), List.mem_of_getElem? (i := 70) (by decide +kernel), ⟨List.mem_of_getElem? (i := 1223) (by decide +kernel), List.mem_of_getElem? (i := 1224) (by decide +kernel), Or.inl ⟨_, rfl, rfl⟩⟩⟩

def k_X6_back : List sBk := [
  (0, false, [true, true], [o0 0 (.iload_n 1), o0 1 .i2l, oK 2 (.lconst 0) (.long 0), oK 3 (.lconst 1) (.long 1), oC 4 (.invokestatic 90) [921] c_X6_in, oN 7 (.ifCond .ne 5) [1], oK 10 (.iconst (-1)) (.int (-1)), o0 11 .ireturn]),
  (12, false, [true, true], [o0 12 (.aload_n 0), oN 13 (.getfield 13) [6, 1, 823], o0 16 (.iload_n 1), o0 17 .baload, oN 18 (.ifCond .ne 6) [2], oK 21 (.bipush (-2)) (.int (-2)), o0 23 .ireturn]),
  (24, false, [true, true], [o0 24 (.aload_n 0), oK 25 (.iconst 0) (.int 0), oK 26 (.bipush 53) (.int 53), o0 28 (.iload_n 1), oK 29 (.iconst 1) (.int 1), o0 30 .iadd, o0 31 .imul, oC 32 (.invokevirtual 264) [1218] c_X6_copies, o0 35 (.aload_n 0), oN 36 (.getfield 7) [6, 0, 822], oK 39 (.bipush 26) (.int 26), o0 41 .iaload, o0 42 .ireturn])]
set_option maxRecDepth 100000 in
theorem ck_X6_back : s_ck RX6 cX6_back 2 1 25 k_X6_back = true := by decide +kernel

set_option maxRecDepth 100000 in
set_option maxHeartbeats 1000000 in
theorem ok_X6_back : s_Ok c_X6_back := by
  refine s_ok_of k_X6_back (by decide +kernel) sta_X6_back ck_X6_back (And.intro ok_X6_in (And.intro ok_X6_copies trivial)) ?_
  rintro vs L ⟨s, A, z, rfl, rfl⟩
  refine ⟨rfl, fun G hG => ?_⟩
  have fin : ∀ (a : Int32) (L2 : sH), a = r_mback (A 1) (A 2) z → L2 = mdW s (va_up A 1 (q_mback (A 1) (A 2) z)) → s_PP (some .int) false c_X6_back.2.2.2.2.2 [.ref 0, .int z] (mdW s A) (some (.int a)) L2 := fun a L2 ha hL => ⟨rfl, ⟨by rw [ha]; rfl, by rw [hL]; rfl⟩, fun h => by cases h⟩
  have same : q_mback (A 1) (A 2) z = A 1 → mdW s A = mdW s (va_up A 1 (q_mback (A 1) (A 2) z)) := fun h => by rw [h, va_up1]
  refine hG 0 _ _ _ (And.intro ⟨_, _, _, rfl⟩ ?_)
  intro r hr
  obtain ⟨b, hb⟩ : ∃ b, b = p_in64 z.toInt64 0 (1 : Int32).toInt64 := ⟨_, rfl⟩
  obtain rfl : r = some (.int b) := by rw [hb]; exact hr
  refine And.intro (fun h => ?_) (fun h => ?_)
  · have h : z < 0 ∨ 1 < z := (p_rng _ _).mp (hb.symm.trans h)
    exact fin _ _ (by rw [r_mback, if_pos h]) (same (by funext j; rw [q_mback, if_pos h]))
  have h : ¬ (z < 0 ∨ 1 < z) := fun q => h (hb.trans ((p_rng _ _).mpr q))
  have hin : vp_in z 2 := by
    rcases p_01 h with rfl | rfl
    · exact vp_in_nI (by omega) (by omega)
    · exact vp_in_nI (by omega) (by omega)
  have he : (53 : Int32) * (z + 1) = nI (53 * (z.toNatClampNeg + 1)) := by
    rcases p_01 h with rfl | rfl <;> rfl
  have hz1 : z.toNatClampNeg ≤ 1 := by
    rcases p_01 h with rfl | rfl <;> decide
  refine And.intro hin (And.intro (fun h2 => ?_) (fun h2 => ?_))
  · have h2 : A 2 z.toNatClampNeg = 0 := h2
    exact fin _ _ (by rw [r_mback, if_neg h, if_pos h2]) (same (by funext j; rw [q_mback, if_neg h, if_pos h2]))
  have h2 : ¬ A 2 z.toNatClampNeg = 0 := h2
  refine And.intro ⟨s, A, _, _, 0, 53 * (z.toNatClampNeg + 1), rfl, rfl, rfl, he, by omega, by omega, by omega⟩ ?_
  rintro r L' ⟨hr, hL⟩
  obtain rfl : r = none := hr
  obtain rfl : L' = mdW s (va_up A 1 (q_cpk (A 1) 0 (53 * (z.toNatClampNeg + 1)) 53)) := by
    have e : ((53 : Int32) * (z + 1)).toNatClampNeg = 53 * (z.toNatClampNeg + 1) := by rw [he, nI_clamp (by omega)]
    rw [← e]; exact hL
  refine And.intro (vi159 26 (by omega)) ?_
  refine fin _ _ ?_ (by rw [show q_mback (A 1) (A 2) z = q_cpk (A 1) 0 (53 * (z.toNatClampNeg + 1)) 53 by funext j; rw [q_mback, if_neg h, if_neg h2]]; rfl)
  show q_cpk (A 1) 0 (53 * (z.toNatClampNeg + 1)) 53 26 = _
  rw [r_mback, if_neg h, if_neg h2, q_cpk, if_pos (by omega)]
def c_X6_torn : sCtr := ((yX6_torn, cX6_torn, 1, (some .int)), (7, 0, 0, 0), true,
  mdfp,
  fun vs L => ∃ (s : Nat → Int32) (A : Nat → Nat → Int32), vs = [.ref 0] ∧ L = mdW s A,
  fun _ L r _ => r = some (.int (oI L 0 30)))
theorem sta_X6_torn : s_Sta c_X6_torn := ⟨⟨by decide +kernel, by decide +kernel, by decide +kernel⟩, List.mem_of_getElem? (i := 1247) (by decide +kernel), List.mem_of_getElem? (i := 70) (by decide +kernel), ⟨List.mem_of_getElem? (i := 1245) (by decide +kernel), List.mem_of_getElem? (i := 1246) (by decide +kernel), Or.inl ⟨_, rfl, rfl⟩⟩⟩

def k_X6_torn : List sBk := [
  (0, false, [true], [o0 0 (.aload_n 0), oN 1 (.getfield 277) [6, 30, 852], o0 4 .ireturn])]
set_option maxRecDepth 100000 in
theorem ck_X6_torn : s_ck RX6 cX6_torn 1 0 0 k_X6_torn = true := by decide +kernel

set_option maxRecDepth 100000 in
set_option maxHeartbeats 1000000 in
theorem ok_X6_torn : s_Ok c_X6_torn := by
  refine s_ok_of k_X6_torn (by decide +kernel) sta_X6_torn ck_X6_torn trivial ?_
  rintro vs L ⟨s, A, rfl, rfl⟩
  exact ⟨rfl, fun G hG => hG 0 _ _ _ ⟨rfl, rfl, fun _ => rfl⟩⟩
def p_isS (k l : Int32) : Int32 := if k < 0 ∨ 3 < k then 0 else if l < 0 ∨ 2 < l then 0 else 1
def c_X6_isSheet : sCtr := ((yX6_isSheet, cX6_isSheet, 2, (some .boolean)), (0, 2, 1, 25), true,
  fun _ _ => [],
  fun vs _ => ∃ k l : Int32, vs = [.int k, .int l],
  fun vs _ r _ => r = some (.int (p_isS (vI vs 0) (vI vs 1))))
theorem sta_X6_isSheet : s_Sta c_X6_isSheet := ⟨⟨by decide +kernel, by decide +kernel, by decide +kernel⟩, List.mem_of_getElem? (i := 1232) (by decide +kernel), List.mem_of_getElem? (i := 70) (by decide +kernel), List.mem_of_getElem? (i := 1231) (by decide +kernel)⟩

def k_X6_isSheet : List sBk := [
  (0, false, [true, true], [o0 0 (.iload_n 0), o0 1 .i2l, oK 2 (.lconst 0) (.long 0), oV 3 (.ldc2_w 250) [1195] (.long 3), oC 6 (.invokestatic 90) [921] c_X6_in, oN 9 (.ifCond .eq 19) [1], o0 12 (.iload_n 1), o0 13 .i2l, oK 14 (.lconst 0) (.long 0), oV 15 (.ldc2_w 267) [1233] (.long 2), oC 18 (.invokestatic 90) [921] c_X6_in, oN 21 (.ifCond .eq 7) [1], oK 24 (.iconst 1) (.int 1), oN 25 (.goto 4) [2]]),
  (28, false, [false, false], [oK 28 (.iconst 0) (.int 0), oN 29 .nop [2]]),
  (29, false, [false, false], [o0 29 .ireturn])]
set_option maxRecDepth 100000 in
theorem ck_X6_isSheet : s_ck RX6 cX6_isSheet 2 1 25 k_X6_isSheet = true := by decide +kernel

set_option maxRecDepth 100000 in
set_option maxHeartbeats 1000000 in
theorem ok_X6_isSheet : s_Ok c_X6_isSheet := by
  refine s_ok_of k_X6_isSheet (by decide +kernel) sta_X6_isSheet ck_X6_isSheet (And.intro ok_X6_in (And.intro ok_X6_in trivial)) ?_
  rintro vs L ⟨k, l, rfl⟩
  refine ⟨rfl, fun G hG => ?_⟩
  have fin : ∀ a : Int32, a = 0 ∨ a = 1 → a = p_isS k l → (a = 0 ∨ a = 1) ∧ s_PP (some .boolean) true c_X6_isSheet.2.2.2.2.2 [.int k, .int l] L (some (.int a)) L := fun a h01 ha => ⟨h01, rfl, by rw [ha]; rfl, fun _ => rfl⟩
  refine hG 0 _ _ _ (And.intro ⟨_, _, _, rfl⟩ ?_)
  intro r hr
  obtain ⟨b, hb⟩ : ∃ b, b = p_in64 k.toInt64 0 (3 : Int32).toInt64 := ⟨_, rfl⟩
  obtain rfl : r = some (.int b) := by rw [hb]; exact hr
  refine And.intro (fun h => ?_) (fun h => ?_)
  · have h : k < 0 ∨ 3 < k := (p_rng _ _).mp (hb.symm.trans h)
    exact fin _ (Or.inl rfl) (by rw [p_isS, if_pos h])
  have h : ¬ (k < 0 ∨ 3 < k) := fun q => h (hb.trans ((p_rng _ _).mpr q))
  refine And.intro ⟨_, _, _, rfl⟩ ?_
  intro r hr
  obtain ⟨b, hb⟩ : ∃ b, b = p_in64 l.toInt64 0 (2 : Int32).toInt64 := ⟨_, rfl⟩
  obtain rfl : r = some (.int b) := by rw [hb]; exact hr
  refine And.intro (fun h2 => ?_) (fun h2 => ?_)
  · have h2 : l < 0 ∨ 2 < l := (p_rng _ _).mp (hb.symm.trans h2)
    exact fin _ (Or.inl rfl) (by rw [p_isS, if_neg h, if_pos h2])
  have h2 : ¬ (l < 0 ∨ 2 < l) := fun q => h2 (hb.trans ((p_rng _ _).mpr q))
  exact fin _ (Or.inr rfl) (by rw [p_isS, if_neg h, if_neg h2])
def r_mcount (s st ke la si : Nat → Int32) (x : Int32) : Int32 := if x = 0 then p_bo (st 0) 8 else if x = 1 then p_bo (st 26) 8 else if x = 2 then st 36 else if x = 3 then (if ke 0 = 0 then 0 else 1) + (if ke 1 = 0 then 0 else 1) else if x = 4 then s 15 else if x = 5 then (if la 0 = -4 then -4 else si 0) else if x = 6 then p_bo (st 27) 8 else if x = 7 then p_bo (st 1) 8 else -1
def c_X6_count : sCtr := ((yX6_count, cX6_count, 2, (some .int)), (7, 1, 1, 22), true,
  mdfp,
  fun vs L => ∃ (s : Nat → Int32) (A : Nat → Nat → Int32) (x : Int32), vs = [.ref 0, .int x] ∧ L = mdW s A,
  fun vs L r _ => r = some (.int (r_mcount (oI L 0) (bF L 1) (bF L 2) (bF L 14) (bF L 15) (vI vs 1))))
theorem sta_X6_count : s_Sta c_X6_count := ⟨⟨by decide +kernel, by decide +kernel, by decide +kernel⟩, List.mem_of_getElem? (i := 1251) (by decide +kernel), List.mem_of_getElem? (i := 70) (by decide +kernel), ⟨List.mem_of_getElem? (i := 1249) (by decide +kernel), List.mem_of_getElem? (i := 1250) (by decide +kernel), Or.inl ⟨_, rfl, rfl⟩⟩⟩

def k_X6_count : List sBk := [
  (0, false, [true, true], [o0 0 (.iload_n 1), oN 1 (.tableswitch 145 0 7 #[47, 57, 68, 76, 96, 101, 124, 135]) [11, 1, 2, 3, 4, 5, 6, 9, 10]]),
  (48, false, [true, false], [o0 48 (.aload_n 0), oN 49 (.getfield 7) [6, 0, 822], oK 52 (.iconst 0) (.int 0), o0 53 .iaload, oC 54 (.invokestatic 219) [1105] c_X6_bitsOf, o0 57 .ireturn]),
  (58, false, [true, false], [o0 58 (.aload_n 0), oN 59 (.getfield 7) [6, 0, 822], oK 62 (.bipush 26) (.int 26), o0 64 .iaload, oC 65 (.invokestatic 219) [1105] c_X6_bitsOf, o0 68 .ireturn]),
  (69, false, [true, false], [o0 69 (.aload_n 0), oN 70 (.getfield 7) [6, 0, 822], oK 73 (.bipush 36) (.int 36), o0 75 .iaload, o0 76 .ireturn]),
  (77, false, [true, false], [o0 77 (.aload_n 0), oN 78 (.getfield 13) [6, 1, 823], oK 81 (.iconst 0) (.int 0), o0 82 .baload, oC 83 (.invokestatic 150) [976] c_X6_flag, o0 86 (.aload_n 0), oN 87 (.getfield 13) [6, 1, 823], oK 90 (.iconst 1) (.int 1), o0 91 .baload, oC 92 (.invokestatic 150) [976] c_X6_flag, o0 95 .iadd, o0 96 .ireturn]),
  (97, false, [true, false], [o0 97 (.aload_n 0), oN 98 (.getfield 94) [6, 15, 837], o0 101 .ireturn]),
  (102, false, [true, false], [o0 102 (.aload_n 0), oN 103 (.getfield 50) [6, 27, 849], oK 106 (.iconst 0) (.int 0), o0 107 .iaload, oK 108 (.bipush (-4)) (.int (-4)), oN 110 (.if_icmp .ne 8) [7], oK 113 (.bipush (-4)) (.int (-4)), oN 115 (.goto 9) [8]]),
  (118, false, [true, false], [o0 118 (.aload_n 0), oN 119 (.getfield 53) [6, 28, 850], oK 122 (.iconst 0) (.int 0), o0 123 .iaload, oN 124 .nop [8]]),
  (124, false, [false, false], [o0 124 .ireturn]),
  (125, false, [true, false], [o0 125 (.aload_n 0), oN 126 (.getfield 7) [6, 0, 822], oK 129 (.bipush 27) (.int 27), o0 131 .iaload, oC 132 (.invokestatic 219) [1105] c_X6_bitsOf, o0 135 .ireturn]),
  (136, false, [true, false], [o0 136 (.aload_n 0), oN 137 (.getfield 7) [6, 0, 822], oK 140 (.iconst 1) (.int 1), o0 141 .iaload, oC 142 (.invokestatic 219) [1105] c_X6_bitsOf, o0 145 .ireturn]),
  (146, false, [false, false], [oK 146 (.iconst (-1)) (.int (-1)), o0 147 .ireturn])]
set_option maxRecDepth 100000 in
theorem ck_X6_count : s_ck RX6 cX6_count 2 1 22 k_X6_count = true := by decide +kernel

set_option maxRecDepth 100000 in
set_option maxHeartbeats 1000000 in
theorem ok_X6_count : s_Ok c_X6_count := by
  refine s_ok_of k_X6_count (by decide +kernel) sta_X6_count ck_X6_count (And.intro ok_X6_bitsOf (And.intro ok_X6_bitsOf (And.intro ok_X6_flag (And.intro ok_X6_flag (And.intro ok_X6_bitsOf (And.intro ok_X6_bitsOf trivial)))))) ?_
  rintro vs L ⟨s, A, x, rfl, rfl⟩
  refine ⟨rfl, fun G hG => ?_⟩
  have fin : ∀ a : Int32, a = r_mcount s (A 1) (A 2) (A 14) (A 15) x → s_PP (some .int) true c_X6_count.2.2.2.2.2 [.ref 0, .int x] (mdW s A) (some (.int a)) (mdW s A) := fun a ha => ⟨rfl, by rw [ha]; rfl, fun _ => rfl⟩
  refine hG 0 _ _ _ (And.intro ?_ ?_)
  · refine And.intro ?_ (And.intro ?_ (And.intro ?_ (And.intro ?_ (And.intro ?_ (And.intro ?_ (And.intro ?_ (And.intro ?_ trivial)))))))
    · intro h; obtain rfl := h
      refine And.intro (vi159 0 (by omega)) (And.intro ⟨_, rfl⟩ ?_)
      intro r hr
      obtain rfl : r = some (.int (p_bo (A 1 0) 8)) := hr
      exact fin _ rfl
    · intro h; obtain rfl := h
      refine And.intro (vi159 26 (by omega)) (And.intro ⟨_, rfl⟩ ?_)
      intro r hr
      obtain rfl : r = some (.int (p_bo (A 1 26) 8)) := hr
      exact fin _ rfl
    · intro h; obtain rfl := h
      exact And.intro (vi159 36 (by omega)) (fin _ rfl)
    · intro h; obtain rfl := h
      refine And.intro (vp_in_nI (n := 0) (N := 2) (by decide) (by decide)) (And.intro ⟨_, rfl⟩ ?_)
      intro r hr
      obtain rfl : r = some (.int (if A 2 0 = 0 then 0 else 1)) := hr
      refine And.intro (vp_in_nI (n := 1) (N := 2) (by decide) (by decide)) (And.intro ⟨_, rfl⟩ ?_)
      intro r hr
      obtain rfl : r = some (.int (if A 2 1 = 0 then 0 else 1)) := hr
      exact fin _ rfl
    · intro h; obtain rfl := h
      exact fin _ rfl
    · intro h; obtain rfl := h
      refine And.intro (vp_in_nI (n := 0) (N := 4) (by decide) (by decide)) (And.intro (fun h2 => ?_) (fun h2 => ?_))
      · have h2 : A 14 0 = -4 := h2
        exact fin _ (by show _ = if A 14 0 = -4 then (-4 : Int32) else A 15 0; rw [if_pos h2])
      · have h2 : ¬ A 14 0 = -4 := h2
        exact And.intro (vp_in_nI (n := 0) (N := 4) (by decide) (by decide)) (fin _ (by show _ = if A 14 0 = -4 then (-4 : Int32) else A 15 0; rw [if_neg h2]; rfl))
    · intro h; obtain rfl := h
      refine And.intro (vi159 27 (by omega)) (And.intro ⟨_, rfl⟩ ?_)
      intro r hr
      obtain rfl : r = some (.int (p_bo (A 1 27) 8)) := hr
      exact fin _ rfl
    · intro h; obtain rfl := h
      refine And.intro (vi159 1 (by omega)) (And.intro ⟨_, rfl⟩ ?_)
      intro r hr
      obtain rfl : r = some (.int (p_bo (A 1 1) 8)) := hr
      exact fin _ rfl
  · intro h
    have t := fun k hk => tab_out h k hk
    exact fin _ (by rw [r_mcount, if_neg (t 0 (by decide)), if_neg (t 1 (by decide)), if_neg (t 2 (by decide)), if_neg (t 3 (by decide)), if_neg (t 4 (by decide)), if_neg (t 5 (by decide)), if_neg (t 6 (by decide)), if_neg (t 7 (by decide))])
end
section
/-! ===== WishClerkModel: sheets ===== -/
theorem p_isS_ne {k l : Int32} (h : ¬ p_isS k l = 0) : ∃ K, K < 4 ∧ k = nI K := by
  unfold p_isS at h
  by_cases h1 : k < 0 ∨ 3 < k
  · rw [if_pos h1] at h; exact absurd rfl h
  · obtain ⟨j, hj, rfl⟩ := nI_of (fun q => h1 (Or.inl q))
    exact ⟨j, by
      have : ¬ 3 < j := fun q => h1 (Or.inr ((nI_ltI (a := 3) (by omega) hj).mpr q))
      omega, rfl⟩
def q_zk (f : Nat → Int32) (a i : Nat) : Nat → Int32 := fun j => if a ≤ j ∧ j < a + i then 0 else f j
theorem q_zk0 (f : Nat → Int32) (a : Nat) : q_zk f a 0 = f := by
  funext j
  rw [q_zk, if_neg (by omega)]
theorem q_zkS (f : Nat → Int32) (a i : Nat) : upd (q_zk f a i) (a + i) 0 = q_zk f a (i + 1) := by
  funext j
  rw [upd]
  by_cases hj : j = a + i
  · rw [if_pos hj, q_zk, if_pos (by omega)]
  · rw [if_neg hj]
    unfold q_zk
    by_cases h2 : a ≤ j ∧ j < a + i
    · rw [if_pos h2, if_pos (by omega)]
    · rw [if_neg h2, if_neg (by omega)]
def r_msheet (k l n : Int32) : Int32 := if p_isS k l = 0 then -1 else if 40 < n then -1 else if n < 0 then -14 else 1
/-- lanes, sizes, cells -/
def q_msh (A : Nat → Nat → Int32) (k l n : Int32) : Nat → Nat → Int32 := fun i => if r_msheet k l n = 1 then va_up (va_up (va_up A 14 (upd (A 14) k.toNatClampNeg l)) 15 (upd (A 15) k.toNatClampNeg n)) 16 (q_zk (A 16) (40 * k.toNatClampNeg) 40) i else A i
def c_X6_sheet : sCtr := ((yX6_sheet, cX6_sheet, 5, (some .int)), (7, 3, 2, 46), false,
  mdfp,
  fun vs L => ∃ (s : Nat → Int32) (A : Nat → Nat → Int32) (k l n : Int32), vs = [.ref 0, .int k, .int l, .int n] ∧ L = mdW s A,
  fun vs L r L' => r = some (.int (r_msheet (vI vs 1) (vI vs 2) (vI vs 3))) ∧ L' = mdW (oI L 0) (q_msh (bF L) (vI vs 1) (vI vs 2) (vI vs 3)))
theorem sta_X6_sheet : s_Sta c_X6_sheet := ⟨⟨by decide +kernel, by decide +kernel, by decide +kernel⟩, List.mem_of_getElem? (i := 1229) (by decide +kernel), List.mem_of_getElem? (i := 70) (by decide +kernel), ⟨List.mem_of_getElem? (i := 1227) (by decide +kernel), List.mem_of_getElem? (i := 1228) (by decide +kernel), Or.inl ⟨_, rfl, rfl⟩⟩⟩

def k_X6_sheet : List sBk := [
  (0, false, [true, true, true, true, false], [o0 0 (.iload_n 1), o0 1 (.iload_n 2), oC 2 (.invokestatic 269) [1230] c_X6_isSheet, oN 5 (.ifCond .eq 9) [1], o0 8 (.iload_n 3), oK 9 (.bipush 40) (.int 40), oN 11 (.if_icmp .le 5) [2], oN 14 .nop [1]]),
  (14, false, [false, false, false, false, false], [oK 14 (.iconst (-1)) (.int (-1)), o0 15 .ireturn]),
  (16, false, [true, true, true, true, false], [o0 16 (.iload_n 3), oN 17 (.ifCond .ge 6) [3], oK 20 (.bipush (-14)) (.int (-14)), o0 22 .ireturn]),
  (23, false, [true, true, true, true, false], [o0 23 (.aload_n 0), oN 24 (.getfield 50) [6, 27, 849], o0 27 (.iload_n 1), o0 28 (.iload_n 2), o0 29 .iastore, o0 30 (.aload_n 0), oN 31 (.getfield 53) [6, 28, 850], o0 34 (.iload_n 1), o0 35 (.iload_n 3), o0 36 .iastore, oK 37 (.iconst 0) (.int 0), o0 38 (.istore 4), oN 40 .nop [4]]),
  (40, true, [true, true, false, false, true], [o0 40 (.iload 4), oK 42 (.bipush 40) (.int 40), oN 44 (.if_icmp .ge 22) [5], o0 47 (.aload_n 0), oN 48 (.getfield 56) [6, 29, 851], oK 51 (.bipush 40) (.int 40), o0 53 (.iload_n 1), o0 54 .imul, o0 55 (.iload 4), o0 57 .iadd, oK 58 (.iconst 0) (.int 0), o0 59 .iastore, oK 60 (.iinc 4 1) (.int 1), oN 63 (.goto (-23)) [4]]),
  (66, false, [false, false, false, false, false], [oK 66 (.iconst 1) (.int 1), o0 67 .ireturn])]
set_option maxRecDepth 100000 in
theorem ck_X6_sheet : s_ck RX6 cX6_sheet 5 2 46 k_X6_sheet = true := by decide +kernel

set_option maxRecDepth 100000 in
set_option maxHeartbeats 1000000 in
theorem ok_X6_sheet : s_Ok c_X6_sheet := by
  refine s_ok_of k_X6_sheet (by decide +kernel) sta_X6_sheet ck_X6_sheet (And.intro ok_X6_isSheet trivial) ?_
  rintro vs L ⟨s, A, k, l, n, rfl, rfl⟩
  refine ⟨rfl, fun G hG => ?_⟩
  have fin : ∀ (a : Int32) (L2 : sH), a = r_msheet k l n → L2 = mdW s (q_msh A k l n) → s_PP (some .int) false c_X6_sheet.2.2.2.2.2 [.ref 0, .int k, .int l, .int n] (mdW s A) (some (.int a)) L2 := fun a L2 ha hL => ⟨rfl, ⟨by rw [ha]; rfl, by rw [hL]; rfl⟩, fun h => by cases h⟩
  have no : ∀ a : Int32, a = r_msheet k l n → ¬ a = 1 → s_PP (some .int) false c_X6_sheet.2.2.2.2.2 [.ref 0, .int k, .int l, .int n] (mdW s A) (some (.int a)) (mdW s A) := fun a ha h1 => fin a _ ha (by rw [show q_msh A k l n = A by funext i; rw [q_msh, ← ha, if_neg h1]])
  refine hG 0 _ _ _ (And.intro ⟨_, _, rfl⟩ ?_)
  intro r hr
  obtain rfl : r = some (.int (p_isS k l)) := hr
  refine And.intro (fun h => ?_) (fun h => ?_)
  · exact no _ (by rw [r_msheet, if_pos h]) (by decide)
  refine And.intro (fun h2 => ?_) (fun h2 => ?_)
  · exact no _ (by rw [r_msheet, if_neg h, if_pos h2]) (by decide)
  refine And.intro (fun h3 => ?_) (fun h3 => ?_)
  · exact no _ (by rw [r_msheet, if_neg h, if_neg h2, if_pos h3]) (by decide)
  have hr1 : r_msheet k l n = 1 := by rw [r_msheet, if_neg h, if_neg h2, if_neg h3]
  obtain ⟨K, hK, hk⟩ := p_isS_ne h
  have hin : vp_in k 4 := by rw [hk]; exact vp_in_nI (by omega) (by omega)
  have hkc : k.toNatClampNeg = K := by rw [hk, nI_clamp (by omega)]
  obtain ⟨B, hB⟩ : ∃ B, B = va_up (va_up A 14 (upd (A 14) k.toNatClampNeg l)) 15 (upd (A 15) k.toNatClampNeg n) := ⟨_, rfl⟩
  have loop : ∀ (r i : Nat) (x : Int32) (f : Nat → Int32), i + r = 40 → x = nI i → f = q_zk (A 16) (40 * K) i → G 4 [some (.ref 0), some (.int k), none, none, some (.int x)] [] (mdW s (va_up B 16 f)) := by
    intro r
    induction r with
    | zero =>
      intro i x f hi hx hf
      refine hG 4 _ _ _ (And.intro (fun q => ?_) (fun q => ?_))
      · rw [hx, show (40 : Int32) = nI 40 from rfl, nI_ltI (by omega) (by omega)] at q; omega
      · exact fin _ _ hr1.symm (by rw [show q_msh A k l n = va_up B 16 f by funext i2; rw [q_msh, if_pos hr1, hB, hf, hkc, show i = 40 by omega]])
    | succ r ih =>
      intro i x f hi hx hf
      refine hG 4 _ _ _ (And.intro (fun q => ?_) (fun q => ?_))
      · have e : (40 : Int32) * k + x = nI (40 * K + i) := by rw [hk, hx, show (40 : Int32) = nI 40 from rfl, nI_mul, nI_add]
        refine And.intro ?_ ?_
        · show vp_in ((40 : Int32) * k + x) 160
          rw [e]; exact vp_in_nI (by omega) (by omega)
        · exact ih (i + 1) _ (upd f ((40 : Int32) * k + x).toNatClampNeg 0) (by omega) (by rw [hx, nI_1]) (by rw [e, nI_clamp (by omega), hf, q_zkS])
      · rw [hx, show (40 : Int32) = nI 40 from rfl, nI_ltI (by omega) (by omega)] at q; omega
  have l0 := loop 40 0 0 (A 16) (by omega) nI_0.symm (q_zk0 _ _).symm
  rw [hB] at l0
  exact And.intro hin (And.intro hin l0)
theorem p_in_nB {n : Nat} {p : Int32} (hn : n ≤ 256) (h : ¬ p_in (nI n) p = 0) : ∃ j, j < n ∧ p = nI j := by
  unfold p_in at h
  by_cases h1 : p < 0
  · rw [if_pos h1] at h; exact absurd rfl h
  · rw [if_neg h1] at h
    by_cases h2 : p < nI n
    · obtain ⟨j, hj, rfl⟩ := nI_of h1
      exact ⟨j, (nI_ltI hj (by omega)).mp h2, rfl⟩
    · rw [if_neg h2] at h; exact absurd rfl h
def r_mlay (la si : Nat → Int32) (k i : Int32) : Int32 := if p_isS k 0 = 0 then -1 else if la k.toNatClampNeg = -4 then -11 else if p_in (si k.toNatClampNeg) i = 0 then -12 else 1
def p_nar (ln v : Int32) : Int32 := if ln = 0 then v.toInt8.toInt32 else if ln = 1 then v.toInt16.toInt32 else v
def q_mlay (la si ce : Nat → Int32) (k i v : Int32) : Nat → Int32 := fun j => if r_mlay la si k i = 1 then upd ce (40 * k.toNatClampNeg + i.toNatClampNeg) (p_nar (la k.toNatClampNeg) v) j else ce j
def c_X6_lay : sCtr := ((yX6_lay, cX6_lay, 4, (some .int)), (7, 3, 2, 46), false,
  mdfp,
  fun vs L => ∃ (s : Nat → Int32) (A : Nat → Nat → Int32) (k i v : Int32), vs = [.ref 0, .int k, .int i, .int v] ∧ L = mdW s A ∧ ∀ K, K < 4 → ∃ m, m ≤ 40 ∧ A 15 K = nI m,
  fun vs L r L' => r = some (.int (r_mlay (bF L 14) (bF L 15) (vI vs 1) (vI vs 2))) ∧ L' = mdW (oI L 0) (va_up (bF L) 16 (q_mlay (bF L 14) (bF L 15) (bF L 16) (vI vs 1) (vI vs 2) (vI vs 3))))
theorem sta_X6_lay : s_Sta c_X6_lay := ⟨⟨by decide +kernel, by decide +kernel, by decide +kernel⟩, List.mem_of_getElem? (i := 1237) (by decide +kernel), List.mem_of_getElem? (i := 70) (by decide +kernel), ⟨List.mem_of_getElem? (i := 1235) (by decide +kernel), List.mem_of_getElem? (i := 1236) (by decide +kernel), Or.inl ⟨_, rfl, rfl⟩⟩⟩

def k_X6_lay : List sBk := [
  (0, false, [true, true, true, true], [o0 0 (.iload_n 1), oK 1 (.iconst 0) (.int 0), oC 2 (.invokestatic 269) [1230] c_X6_isSheet, oN 5 (.ifCond .ne 5) [1], oK 8 (.iconst (-1)) (.int (-1)), o0 9 .ireturn]),
  (10, false, [true, true, true, true], [o0 10 (.aload_n 0), oN 11 (.getfield 50) [6, 27, 849], o0 14 (.iload_n 1), o0 15 .iaload, oK 16 (.bipush (-4)) (.int (-4)), oN 18 (.if_icmp .ne 6) [2], oK 21 (.bipush (-11)) (.int (-11)), o0 23 .ireturn]),
  (24, false, [true, true, true, true], [o0 24 (.iload_n 2), o0 25 .i2l, oK 26 (.lconst 0) (.long 0), o0 27 (.aload_n 0), oN 28 (.getfield 53) [6, 28, 850], o0 31 (.iload_n 1), o0 32 .iaload, oK 33 (.iconst 1) (.int 1), o0 34 .isub, o0 35 .i2l, oC 36 (.invokestatic 90) [921] c_X6_in, oN 39 (.ifCond .ne 6) [3], oK 42 (.bipush (-12)) (.int (-12)), o0 44 .ireturn]),
  (45, false, [true, true, true, true], [o0 45 (.aload_n 0), oN 46 (.getfield 56) [6, 29, 851], oK 49 (.bipush 40) (.int 40), o0 51 (.iload_n 1), o0 52 .imul, o0 53 (.iload_n 2), o0 54 .iadd, o0 55 (.aload_n 0), oN 56 (.getfield 50) [6, 27, 849], o0 59 (.iload_n 1), o0 60 .iaload, oN 61 (.ifCond .ne 8) [4], o0 64 (.iload_n 3), o0 65 .i2b, oN 66 (.goto 19) [6]]),
  (69, false, [true, true, false, true], [o0 69 (.aload_n 0), oN 70 (.getfield 50) [6, 27, 849], o0 73 (.iload_n 1), o0 74 .iaload, oK 75 (.iconst 1) (.int 1), oN 76 (.if_icmp .ne 8) [5], o0 79 (.iload_n 3), o0 80 .i2s, oN 81 (.goto 4) [6]]),
  (84, false, [false, false, false, true], [o0 84 (.iload_n 3), oN 85 .nop [6]]),
  (85, false, [false, false, false, false], [o0 85 .iastore, oK 86 (.iconst 1) (.int 1), o0 87 .ireturn])]
set_option maxRecDepth 100000 in
theorem ck_X6_lay : s_ck RX6 cX6_lay 4 2 46 k_X6_lay = true := by decide +kernel

set_option maxRecDepth 100000 in
set_option maxHeartbeats 1000000 in
theorem ok_X6_lay : s_Ok c_X6_lay := by
  refine s_ok_of k_X6_lay (by decide +kernel) sta_X6_lay ck_X6_lay (And.intro ok_X6_isSheet (And.intro ok_X6_in trivial)) ?_
  rintro vs L ⟨s, A, k, i, v, rfl, rfl, hs⟩
  refine ⟨rfl, fun G hG => ?_⟩
  have fin : ∀ (a : Int32) (L2 : sH), a = r_mlay (A 14) (A 15) k i → L2 = mdW s (va_up A 16 (q_mlay (A 14) (A 15) (A 16) k i v)) → s_PP (some .int) false c_X6_lay.2.2.2.2.2 [.ref 0, .int k, .int i, .int v] (mdW s A) (some (.int a)) L2 := fun a L2 ha hL => ⟨rfl, ⟨by rw [ha]; rfl, by rw [hL]; rfl⟩, fun h => by cases h⟩
  have no : ∀ a : Int32, a = r_mlay (A 14) (A 15) k i → ¬ a = 1 → s_PP (some .int) false c_X6_lay.2.2.2.2.2 [.ref 0, .int k, .int i, .int v] (mdW s A) (some (.int a)) (mdW s A) := fun a ha h1 => fin a _ ha (by rw [show q_mlay (A 14) (A 15) (A 16) k i v = A 16 by funext j; rw [q_mlay, ← ha, if_neg h1], va_upI])
  refine hG 0 _ _ _ (And.intro ⟨_, _, rfl⟩ ?_)
  intro r hr
  obtain rfl : r = some (.int (p_isS k 0)) := hr
  refine And.intro (fun h => ?_) (fun h => ?_)
  · exact no _ (by rw [r_mlay, if_pos h]) (by decide)
  obtain ⟨K, hK, hk⟩ := p_isS_ne h
  have hin : vp_in k 4 := by rw [hk]; exact vp_in_nI (by omega) (by omega)
  have hkc : k.toNatClampNeg = K := by rw [hk, nI_clamp (by omega)]
  refine And.intro hin (And.intro (fun h2 => ?_) (fun h2 => ?_))
  · have h2 : A 14 k.toNatClampNeg = -4 := h2
    exact no _ (by rw [r_mlay, if_neg h, if_pos h2]) (by decide)
  have h2 : ¬ A 14 k.toNatClampNeg = -4 := h2
  obtain ⟨m, hm40, hm⟩ := hs K hK
  refine And.intro hin (And.intro ⟨_, _, _, rfl⟩ ?_)
  intro r hr
  obtain ⟨b, hb⟩ : ∃ b, b = p_in (A 15 k.toNatClampNeg) i := ⟨_, rfl⟩
  obtain rfl : r = some (.int b) := by
    have h1 : r = some (.int (p_in64 i.toInt64 0 (A 15 k.toNatClampNeg - 1).toInt64)) := hr
    rw [h1, hb, hkc, hm, p_in64_in i (by omega)]
  refine And.intro (fun h3 => ?_) (fun h3 => ?_)
  · have h3 : b = 0 := h3
    exact no _ (by rw [r_mlay, if_neg h, if_neg h2, ← hb, if_pos h3]) (by decide)
  have h3 : ¬ b = 0 := h3
  have h4 := h3
  rw [hb, hkc, hm] at h4
  obtain ⟨j, hj, hi⟩ := p_in_nB (by omega) h4
  have hr1 : r_mlay (A 14) (A 15) k i = 1 := by rw [r_mlay, if_neg h, if_neg h2, ← hb, if_neg h3]
  have e : (40 : Int32) * k + i = nI (40 * K + j) := by rw [hk, hi, show (40 : Int32) = nI 40 from rfl, nI_mul, nI_add]
  have ec : ((40 : Int32) * k + i).toNatClampNeg = 40 * k.toNatClampNeg + i.toNatClampNeg := by rw [e, hk, hi, nI_clamp (by omega), nI_clamp (by omega), nI_clamp (by omega)]
  have hin2 : vp_in ((40 : Int32) * k + i) 160 := by rw [e]; exact vp_in_nI (by omega) (by omega)
  have last : ∀ z : Int32, z = p_nar (A 14 k.toNatClampNeg) v → s_PP (some .int) false c_X6_lay.2.2.2.2.2 [.ref 0, .int k, .int i, .int v] (mdW s A) (some (.int 1)) (mdW s (va_up A 16 (upd (A 16) ((40 : Int32) * k + i).toNatClampNeg z))) := fun z hz => fin _ _ hr1.symm (by rw [show q_mlay (A 14) (A 15) (A 16) k i v = upd (A 16) ((40 : Int32) * k + i).toNatClampNeg z by funext j; rw [q_mlay, if_pos hr1, ec, hz]])
  refine And.intro hin (And.intro (fun h5 => ?_) (fun h5 => ?_))
  · have h5 : A 14 k.toNatClampNeg = 0 := h5
    exact And.intro hin2 (last _ (by rw [p_nar, if_pos h5]))
  have h5 : ¬ A 14 k.toNatClampNeg = 0 := h5
  refine And.intro hin (And.intro (fun h6 => ?_) (fun h6 => ?_))
  · have h6 : A 14 k.toNatClampNeg = 1 := h6
    exact And.intro hin2 (last _ (by rw [p_nar, if_neg h5, if_pos h6]))
  have h6 : ¬ A 14 k.toNatClampNeg = 1 := h6
  exact And.intro hin2 (last _ (by rw [p_nar, if_neg h5, if_neg h6]))
end
section
/-! ===== WishClerkModel: reading a sheet, asking by a seed ===== -/
def p_mfa (ln sz la : Int32) (a : Int64) : Int32 := if ln = -4 then 1 else if ln = la then (if a < 0 then 2 else if a < sz.toInt64 then 0 else 2) else 3
/-- answer, what is changed, the fault (none: it stays) -/
def p_mrR (y : Int32) (N : Nat) (ln sz la f h0 l0 k : Int32) (ce : Nat → Int32) : Nat → Nat → (Nat → Int32) → Int32 × (Nat → Int32) × Option Int32
  | 0, c, st => (nI c, st, some 0)
  | r + 1, c, st =>
    if p_mfa ln sz la (f.toInt64 + (nI c).toInt64) = 0 then
      (if r_mask st y N (ce ((40 : Int32) * k + f + nI c).toNatClampNeg) < 0 then (-20 - nI c, upd (upd (q_mask st y N (ce ((40 : Int32) * k + f + nI c).toNatClampNeg)) 26 h0) 0 l0, none)
       else p_mrR y N ln sz la f h0 l0 k ce r (c + 1) (q_mask st y N (ce ((40 : Int32) * k + f + nI c).toNatClampNeg)))
    else (nI c, st, some (p_mfa ln sz la (f.toInt64 + (nI c).toInt64)))
theorem q_mask_o {st : Nat → Int32} {y : Int32} {n : Nat} {w : Int32} {j : Nat} (h1 : j ≠ 26) (h2 : j ≠ 0) : q_mask st y n w j = st j := by
  have e : ∀ a b : Int32, upd (upd st 26 a) 0 b j = st j := fun a b => by rw [upd, if_neg h2, upd, if_neg h1]
  unfold q_mask
  by_cases h3 : p_in y w = 0
  · rw [if_pos h3]
  rw [if_neg h3]
  by_cases h4 : p_hb (st 26) w = 0
  · rw [if_pos h4]
    by_cases h5 : 0 < r_mrefuses st y n w
    · rw [if_pos h5]
    · rw [if_neg h5, e]
  · rw [if_neg h4]
def p_mrq (y : Int32) (st la si ce : Nat → Int32) (k l f n : Int32) : Int32 × (Nat → Int32) × Option Int32 := p_mrR y y.toNatClampNeg (la k.toNatClampNeg) (si k.toNatClampNeg) l f (st 26) (st 0) k ce n.toNatClampNeg 0 st
def p_mrn (k l n : Int32) : Int32 := if p_isS k l = 0 then 0 else if n < 0 ∨ 20 < n then 0 else 1
def r_mread (y : Int32) (st la si ce : Nat → Int32) (k l f n : Int32) : Int32 := if p_mrn k l n = 0 then -1 else (p_mrq y st la si ce k l f n).1
def q_mread (y : Int32) (st la si ce : Nat → Int32) (k l f n : Int32) : Nat → Int32 := fun j => if p_mrn k l n = 0 then st j else (p_mrq y st la si ce k l f n).2.1 j
def t_mread (y t : Int32) (st la si ce : Nat → Int32) (k l f n : Int32) : Int32 := if p_mrn k l n = 0 then t else (p_mrq y st la si ce k l f n).2.2.getD t
theorem p_64f {f : Int32} {c m : Nat} (hc : c < 100) (hm : m ≤ 40) (h1 : ¬ f.toInt64 + (nI c).toInt64 < 0) (h2 : f.toInt64 + (nI c).toInt64 < (nI m).toInt64) : ∃ j, j < m ∧ f + nI c = nI j := by
  have e : (f.toInt64 + (nI c).toInt64).toInt = f.toInt + c := by
    rw [Int64.toInt_add, Int32.toInt_toInt64, Int32.toInt_toInt64, nI_toInt (by omega)]
    have a1 := Int32.le_toInt f
    have a2 := Int32.toInt_lt f
    rw [Int.bmod_eq_of_le (by omega) (by omega)]
  rw [Int64.lt_iff_toInt_lt, e, Int32.toInt_toInt64, nI_toInt (by omega)] at h2
  rw [Int64.lt_iff_toInt_lt, e, Int64.toInt_zero] at h1
  refine ⟨(f.toInt + c).toNat, by omega, ?_⟩
  apply Int32.toInt_inj.mp
  rw [Int32.toInt_add, nI_toInt (by omega), nI_toInt (by omega), Int.bmod_eq_of_le (by omega) (by omega)]
  omega
def c_X6_read : sCtr := ((yX6_read, cX6_read, 12, (some .int)), (7, 4, 5, 119), false,
  mdfp,
  fun vs L => ∃ (s : Nat → Int32) (A : Nat → Nat → Int32) (k l f n : Int32) (ny d : Nat), vs = [.ref 0, .int k, .int l, .int f, .int n] ∧ L = mdW s A ∧ (∀ K, K < 4 → ∃ m, m ≤ 40 ∧ A 15 K = nI m) ∧ s 3 = nI ny ∧ ny ≤ 8 ∧ A 1 28 = nI d ∧ d ≤ 8,
  fun vs L r L' => r = some (.int (r_mread (oI L 0 3) (bF L 1) (bF L 14) (bF L 15) (bF L 16) (vI vs 1) (vI vs 2) (vI vs 3) (vI vs 4))) ∧ L' = mdW (upd (oI L 0) 30 (t_mread (oI L 0 3) (oI L 0 30) (bF L 1) (bF L 14) (bF L 15) (bF L 16) (vI vs 1) (vI vs 2) (vI vs 3) (vI vs 4))) (va_up (bF L) 1 (q_mread (oI L 0 3) (bF L 1) (bF L 14) (bF L 15) (bF L 16) (vI vs 1) (vI vs 2) (vI vs 3) (vI vs 4))))
theorem sta_X6_read : s_Sta c_X6_read := ⟨⟨by decide +kernel, by decide +kernel, by decide +kernel⟩, List.mem_of_getElem? (i := 1241) (by decide +kernel), List.mem_of_getElem? (i := 70) (by decide +kernel), ⟨List.mem_of_getElem? (i := 1239) (by decide +kernel), List.mem_of_getElem? (i := 1240) (by decide +kernel), Or.inl ⟨_, rfl, rfl⟩⟩⟩

def k_X6_read : List sBk := [
  (0, false, [true, true, true, true, true, false, false, false, false, false, false, false], [o0 0 (.iload_n 1), o0 1 (.iload_n 2), oC 2 (.invokestatic 269) [1230] c_X6_isSheet, oN 5 (.ifCond .eq 16) [1], o0 8 (.iload 4), o0 10 .i2l, oK 11 (.lconst 0) (.long 0), oV 12 (.ldc2_w 272) [1242] (.long 20), oC 15 (.invokestatic 90) [921] c_X6_in, oN 18 (.ifCond .ne 5) [2], oN 21 .nop [1]]),
  (21, false, [false, false, false, false, false, false, false, false, false, false, false, false], [oK 21 (.iconst (-1)) (.int (-1)), o0 22 .ireturn]),
  (23, false, [true, true, true, true, true, false, false, false, false, false, false, false], [o0 23 (.aload_n 0), oN 24 (.getfield 7) [6, 0, 822], oK 27 (.bipush 26) (.int 26), o0 29 .iaload, o0 30 (.istore 5), o0 32 (.aload_n 0), oN 33 (.getfield 7) [6, 0, 822], oK 36 (.iconst 0) (.int 0), o0 37 .iaload, o0 38 (.istore 6), oK 40 (.iconst 0) (.int 0), o0 41 (.istore 7), oK 43 (.iconst 0) (.int 0), o0 44 (.istore 8), oK 46 (.iconst 0) (.int 0), o0 47 (.istore 9), oN 49 .nop [3]]),
  (49, true, [true, true, true, true, true, true, true, true, true, true, false, false], [o0 49 (.iload 9), o0 51 (.iload 4), oN 53 (.if_icmp .ge 130) [11], o0 56 (.iload 7), oN 58 (.ifCond .ne 125) [11], o0 61 (.iload_n 3), o0 62 .i2l, o0 63 (.iload 9), o0 65 .i2l, o0 66 .ladd, o0 67 (.lstore 10), o0 69 (.aload_n 0), oN 70 (.getfield 50) [6, 27, 849], o0 73 (.iload_n 1), o0 74 .iaload, oK 75 (.bipush (-4)) (.int (-4)), oN 77 (.if_icmp .ne 7) [4], oK 80 (.iconst 1) (.int 1), oN 81 (.goto 42) [8]]),
  (84, false, [true, true, true, true, true, true, true, false, true, true, true, false], [o0 84 (.aload_n 0), oN 85 (.getfield 50) [6, 27, 849], o0 88 (.iload_n 1), o0 89 .iaload, o0 90 (.iload_n 2), oN 91 (.if_icmp .eq 7) [5], oK 94 (.iconst 3) (.int 3), oN 95 (.goto 28) [8]]),
  (98, false, [true, true, true, true, true, true, true, false, true, true, true, false], [o0 98 (.lload 10), oK 100 (.lconst 0) (.long 0), o0 101 .lcmp, oN 102 (.ifCond .lt 16) [6], o0 105 (.lload 10), o0 107 (.aload_n 0), oN 108 (.getfield 53) [6, 28, 850], o0 111 (.iload_n 1), o0 112 .iaload, o0 113 .i2l, o0 114 .lcmp, oN 115 (.ifCond .lt 7) [7], oN 118 .nop [6]]),
  (118, false, [true, true, true, true, true, true, true, false, true, true, false, false], [oK 118 (.iconst 2) (.int 2), oN 119 (.goto 4) [8]]),
  (122, false, [true, true, true, true, true, true, true, false, true, true, false, false], [oK 122 (.iconst 0) (.int 0), oN 123 .nop [8]]),
  (123, false, [true, true, true, true, true, true, true, false, true, true, false, false], [o0 123 (.istore 7), o0 125 (.iload 7), oN 127 (.ifCond .ne 50) [10], o0 130 (.aload_n 0), o0 131 (.aload_n 0), oN 132 (.getfield 56) [6, 29, 851], oK 135 (.bipush 40) (.int 40), o0 137 (.iload_n 1), o0 138 .imul, o0 139 (.iload_n 3), o0 140 .iadd, o0 141 (.iload 9), o0 143 .iadd, o0 144 .iaload, oC 145 (.invokevirtual 274) [1243] c_X6_ask, oN 148 (.ifCond .ge 26) [9], o0 151 (.aload_n 0), oN 152 (.getfield 7) [6, 0, 822], oK 155 (.bipush 26) (.int 26), o0 157 (.iload 5), o0 159 .iastore, o0 160 (.aload_n 0), oN 161 (.getfield 7) [6, 0, 822], oK 164 (.iconst 0) (.int 0), o0 165 (.iload 6), o0 167 .iastore, oK 168 (.bipush (-20)) (.int (-20)), o0 170 (.iload 9), o0 172 .isub, o0 173 .ireturn]),
  (174, false, [true, true, true, true, true, true, true, true, true, true, false, false], [oK 174 (.iinc 8 1) (.int 1), oN 177 .nop [10]]),
  (177, false, [true, true, true, true, true, true, true, true, true, true, false, false], [oK 177 (.iinc 9 1) (.int 1), oN 180 (.goto (-131)) [3]]),
  (183, false, [true, false, false, false, false, false, false, true, true, false, false, false], [o0 183 (.aload_n 0), o0 184 (.iload 7), oN 186 (.putfield 277) [6, 30, 852], o0 189 (.iload 8), o0 191 .ireturn])]
set_option maxRecDepth 100000 in
theorem ck_X6_read : s_ck RX6 cX6_read 12 5 119 k_X6_read = true := by decide +kernel

set_option maxRecDepth 100000 in
set_option maxHeartbeats 1000000 in
theorem ok_X6_read : s_Ok c_X6_read := by
  refine s_ok_of k_X6_read (by decide +kernel) sta_X6_read ck_X6_read (And.intro ok_X6_isSheet (And.intro ok_X6_in (And.intro ok_X6_ask trivial))) ?_
  rintro vs L ⟨s, A, k, l, f, n, ny, d, rfl, rfl, hs, hn, hn8, hd, hd8⟩
  refine ⟨rfl, fun G hG => ?_⟩
  have fin : ∀ (a : Int32) (L2 : sH), a = r_mread (s 3) (A 1) (A 14) (A 15) (A 16) k l f n → L2 = mdW (upd s 30 (t_mread (s 3) (s 30) (A 1) (A 14) (A 15) (A 16) k l f n)) (va_up A 1 (q_mread (s 3) (A 1) (A 14) (A 15) (A 16) k l f n)) → s_PP (some .int) false c_X6_read.2.2.2.2.2 [.ref 0, .int k, .int l, .int f, .int n] (mdW s A) (some (.int a)) L2 := fun a L2 ha hL => ⟨rfl, ⟨by rw [ha]; rfl, by rw [hL]; rfl⟩, fun h => by cases h⟩
  have no : p_mrn k l n = 0 → s_PP (some .int) false c_X6_read.2.2.2.2.2 [.ref 0, .int k, .int l, .int f, .int n] (mdW s A) (some (.int (-1))) (mdW s A) := fun h => fin _ _ (by rw [r_mread, if_pos h]) (by rw [show q_mread (s 3) (A 1) (A 14) (A 15) (A 16) k l f n = A 1 by funext j; rw [q_mread, if_pos h], t_mread, if_pos h, va_up1, upd_I])
  refine hG 0 _ _ _ (And.intro ⟨_, _, rfl⟩ ?_)
  intro r hr
  obtain rfl : r = some (.int (p_isS k l)) := hr
  refine And.intro (fun h => ?_) (fun h => ?_)
  · exact no (by rw [p_mrn, if_pos h])
  refine And.intro ⟨_, _, _, rfl⟩ ?_
  intro r hr
  obtain ⟨b, hb⟩ : ∃ b, b = p_in64 n.toInt64 0 (20 : Int32).toInt64 := ⟨_, rfl⟩
  obtain rfl : r = some (.int b) := by rw [hb]; exact hr
  refine And.intro (fun h2 => ?_) (fun h2 => ?_)
  · have h2 : n < 0 ∨ 20 < n := (p_rng _ _).mp (hb.symm.trans h2)
    exact no (by rw [p_mrn, if_neg h, if_pos h2])
  have h2 : ¬ (n < 0 ∨ 20 < n) := fun q => h2 (hb.trans ((p_rng _ _).mpr q))
  have hmn : ¬ p_mrn k l n = 0 := by rw [p_mrn, if_neg h, if_neg h2]; decide
  obtain ⟨K, hK, hk⟩ := p_isS_ne h
  have hin : vp_in k 4 := by rw [hk]; exact vp_in_nI (by omega) (by omega)
  have hkc : k.toNatClampNeg = K := by rw [hk, nI_clamp (by omega)]
  obtain ⟨M, hM2, hM⟩ := nI_of (fun q => h2 (Or.inl q))
  have hM20 : M ≤ 20 := by
    have : ¬ 20 < M := fun q => h2 (Or.inr (by rw [hM]; exact (nI_ltI (a := 20) (by omega) hM2).mpr q))
    omega
  have hnc : n.toNatClampNeg = M := by rw [hM, nI_clamp hM2]
  obtain ⟨m, hm40, hm⟩ := hs K hK
  obtain ⟨y, hy⟩ : ∃ y, y = s 3 := ⟨_, rfl⟩
  obtain ⟨N, hN⟩ : ∃ N, N = (s 3).toNatClampNeg := ⟨_, rfl⟩
  have hP : p_mrq (s 3) (A 1) (A 14) (A 15) (A 16) k l f n = p_mrR y N (A 14 K) (A 15 K) l f (A 1 26) (A 1 0) k (A 16) M 0 (A 1) := by rw [p_mrq, hkc, hnc, ← hy, hN, hy]
  have fin2 : ∀ (a : Int32) (g : Nat → Int32) (o : Option Int32) (t : Int32), p_mrR y N (A 14 K) (A 15 K) l f (A 1 26) (A 1 0) k (A 16) M 0 (A 1) = (a, g, o) → t = o.getD (s 30) → s_PP (some .int) false c_X6_read.2.2.2.2.2 [.ref 0, .int k, .int l, .int f, .int n] (mdW s A) (some (.int a)) (mdW (upd s 30 t) (va_up A 1 g)) := fun a g o t hq ht => fin _ _ (by rw [r_mread, if_neg hmn, hP, hq]) (by rw [t_mread, if_neg hmn, hP, hq, ht, show q_mread (s 3) (A 1) (A 14) (A 15) (A 16) k l f n = g by funext j; rw [q_mread, if_neg hmn, hP, hq]])
  have out : ∀ (ft cn x : Int32) (g : Nat → Int32), ¬ ft = 0 → p_mrR y N (A 14 K) (A 15 K) l f (A 1 26) (A 1 0) k (A 16) M 0 (A 1) = (cn, g, some ft) → G 3 [some (.ref 0), some (.int k), some (.int l), some (.int f), some (.int n), some (.int (A 1 26)), some (.int (A 1 0)), some (.int ft), some (.int cn), some (.int x), none, none] [] (mdW s (va_up A 1 g)) := by
    intro ft cn x g hft hq
    refine hG 3 _ _ _ (And.intro (fun _ => ?_) (fun _ => ?_))
    · refine And.intro (fun z => absurd z hft) (fun _ => ?_)
      exact fin2 _ _ _ _ hq rfl
    · exact fin2 _ _ _ _ hq rfl
  have loop : ∀ (r c : Nat) (x : Int32) (g : Nat → Int32), c + r = M → x = nI c → g 28 = nI d → p_mrR y N (A 14 K) (A 15 K) l f (A 1 26) (A 1 0) k (A 16) r c g = p_mrR y N (A 14 K) (A 15 K) l f (A 1 26) (A 1 0) k (A 16) M 0 (A 1) → G 3 [some (.ref 0), some (.int k), some (.int l), some (.int f), some (.int n), some (.int (A 1 26)), some (.int (A 1 0)), some (.int 0), some (.int x), some (.int x), none, none] [] (mdW s (va_up A 1 g)) := by
    intro r
    induction r with
    | zero =>
      intro c x g hc hx hg hq
      refine hG 3 _ _ _ (And.intro (fun q => ?_) (fun q => ?_))
      · have q : x < n := q
        rw [hx, hM, nI_ltI (by omega) (by omega)] at q; omega
      · exact fin2 _ _ (some 0) _ (by rw [← hq, hx]; rfl) rfl
    | succ r ih =>
      intro c x g hc hx hg hq
      have bad : ∀ ft : Int32, ft = p_mfa (A 14 K) (A 15 K) l (f.toInt64 + x.toInt64) → ¬ ft = 0 → G 3 [some (.ref 0), some (.int k), some (.int l), some (.int f), some (.int n), some (.int (A 1 26)), some (.int (A 1 0)), some (.int ft), some (.int x), some (.int (x + 1)), none, none] [] (mdW s (va_up A 1 g)) := fun ft hf h0 => out _ _ _ _ h0 (by rw [← hq, p_mrR, ← hx, ← hf, if_neg h0])
      refine hG 3 _ _ _ (And.intro (fun q => ?_) (fun q => ?_))
      · refine And.intro (fun _ => ?_) (fun z => absurd rfl z)
        refine And.intro hin (And.intro (fun h3 => ?_) (fun h3 => ?_))
        · have h3 : A 14 K = -4 := by rw [← hkc]; exact h3
          refine And.intro (fun z => absurd z (by decide)) (fun _ => ?_)
          exact bad 1 (by rw [p_mfa, if_pos h3]) (by decide)
        have h3 : ¬ A 14 K = -4 := by rw [← hkc]; exact h3
        refine And.intro hin (And.intro (fun h4 => ?_) (fun h4 => ?_))
        · have h4 : A 14 K = l := by rw [← hkc]; exact h4
          refine And.intro (fun h5 => ?_) (fun h5 => ?_)
          · have h5 : f.toInt64 + x.toInt64 < 0 := (lg_cmp_lt _ _).mp h5
            refine And.intro (fun z => absurd z (by decide)) (fun _ => ?_)
            exact bad 2 (by rw [p_mfa, if_neg h3, if_pos h4, if_pos h5]) (by decide)
          have h5 : ¬ f.toInt64 + x.toInt64 < 0 := fun q => h5 ((lg_cmp_lt _ _).mpr q)
          refine And.intro hin (And.intro (fun h6 => ?_) (fun h6 => ?_))
          · have h6 : f.toInt64 + x.toInt64 < (A 15 K).toInt64 := by rw [← hkc]; exact (lg_cmp_lt _ _).mp h6
            have hz : p_mfa (A 14 K) (A 15 K) l (f.toInt64 + x.toInt64) = 0 := by rw [p_mfa, if_neg h3, if_pos h4, if_neg h5, if_pos h6]
            obtain ⟨j, hj, hfj⟩ := p_64f (f := f) (c := c) (m := m) (by omega) hm40 (by rw [← hx]; exact h5) (by rw [← hx, ← hm]; exact h6)
            have e : (40 : Int32) * k + f + x = nI (40 * K + j) := by
              rw [Int32.add_assoc, hx, hfj, hk, show (40 : Int32) = nI 40 from rfl, nI_mul, nI_add]
            obtain ⟨w, hw⟩ : ∃ w, w = A 16 ((40 : Int32) * k + f + x).toNatClampNeg := ⟨_, rfl⟩
            refine And.intro (fun _ => ?_) (fun z => absurd rfl z)
            refine And.intro ?_ (And.intro ⟨s, va_up A 1 g, _, ny, d, rfl, rfl, hn, hn8, hg, hd8⟩ ?_)
            · show vp_in ((40 : Int32) * k + f + x) 160
              rw [e]; exact vp_in_nI (by omega) (by omega)
            rintro r0 L' ⟨hr, hL⟩
            obtain ⟨a, ha⟩ : ∃ a, a = r_mask g y N w := ⟨_, rfl⟩
            obtain ⟨g2, hg2⟩ : ∃ g2, g2 = q_mask g y N w := ⟨_, rfl⟩
            obtain rfl : r0 = some (.int a) := by rw [ha, hw, hN, hy]; exact hr
            obtain rfl : L' = mdW s (va_up A 1 g2) := by rw [hg2, hw, hN, hy]; exact hL
            refine And.intro (fun h7 => ?_) (fun h7 => ?_)
            · have h7 : a < 0 := h7
              refine And.intro (vi159 26 (by omega)) (And.intro (vi159 0 (by omega)) ?_)
              have t := fin2 (-20 - x) (upd (upd g2 26 (A 1 26)) 0 (A 1 0)) none (s 30) (by rw [← hq, p_mrR, ← hx, if_pos hz, ← hw, ← ha, if_pos h7, hg2]) rfl
              rw [upd_I] at t
              exact t
            · have h7 : ¬ a < 0 := h7
              exact ih (c + 1) _ g2 (by omega) (by rw [hx, nI_1]) (by rw [hg2, q_mask_o (by decide) (by decide), hg]) (by rw [← hq, p_mrR, ← hx, if_pos hz, ← hw, ← ha, if_neg h7, hg2])
          · have h6 : ¬ f.toInt64 + x.toInt64 < (A 15 K).toInt64 := fun q => h6 (by rw [← hkc] at q; exact (lg_cmp_lt _ _).mpr q)
            refine And.intro (fun z => absurd z (by decide)) (fun _ => ?_)
            exact bad 2 (by rw [p_mfa, if_neg h3, if_pos h4, if_neg h5, if_neg h6]) (by decide)
        · have h4 : ¬ A 14 K = l := by rw [← hkc]; exact h4
          refine And.intro (fun z => absurd z (by decide)) (fun _ => ?_)
          exact bad 3 (by rw [p_mfa, if_neg h3, if_neg h4]) (by decide)
      · have q : ¬ x < n := q
        rw [hx, hM, nI_ltI (by omega) (by omega)] at q; omega
  have l0 := loop M 0 0 (A 1) (by omega) nI_0.symm hd rfl
  rw [va_up1] at l0
  exact And.intro (vi159 26 (by omega)) (And.intro (vi159 0 (by omega)) l0)
end
section
/-! ===== WishClerkModel: asking by a seed ===== -/
def p_mwr (y sd : Int32) : Int32 := ((sd >>> ((16 : Int32) &&& 31)) &&& 32767) - ((sd >>> ((16 : Int32) &&& 31)) &&& 32767) / y * y
/-- what holds, who lives, how often refused, the seed -/
def p_mwS (on nd cl : Nat → Int32) (y : Int32) (n : Nat) (li ba : Int32) (d : Nat) (q : Int32 × Int32 × Int32 × Int32) : Int32 × Int32 × Int32 × Int32 :=
  if p_hb q.1 (p_mwr y (q.2.2.2 * 1103515245 + 12345)) = 0 then
    (if p_re on nd cl n li ba (p_mwr y (q.2.2.2 * 1103515245 + 12345)) q.1 q.2.1 d = 0 then (q.1 ||| p_fw nd n ((1 : Int32) <<< (p_mwr y (q.2.2.2 * 1103515245 + 12345) &&& 31)), q.2.1 ||| p_ga on n (p_fw nd n ((1 : Int32) <<< (p_mwr y (q.2.2.2 * 1103515245 + 12345) &&& 31))), q.2.2.1, q.2.2.2 * 1103515245 + 12345) else (q.1, q.2.1, q.2.2.1 + 1, q.2.2.2 * 1103515245 + 12345))
  else (q.1 &&& (p_tk nd n ((1 : Int32) <<< (p_mwr y (q.2.2.2 * 1103515245 + 12345) &&& 31)) q.1 n ^^^ (-1)), q.2.1, q.2.2.1, q.2.2.2 * 1103515245 + 12345)
def p_mw (on nd cl : Nat → Int32) (y : Int32) (n : Nat) (li ba : Int32) (d : Nat) (h l sd : Int32) : Nat → Int32 × Int32 × Int32 × Int32
  | 0 => (h, l, 0, sd)
  | k + 1 => p_mwS on nd cl y n li ba d (p_mw on nd cl y n li ba d h l sd k)
def p_mwq (st : Nat → Int32) (y sd t : Int32) : Int32 × Int32 × Int32 × Int32 := p_mw (fun i => st (2 + i)) (fun i => st (10 + i)) (fun i => st (18 + i)) y y.toNatClampNeg (st 27) (st 1) (st 28).toNatClampNeg (st 26) (st 0) sd t.toNatClampNeg
def r_mwild (st : Nat → Int32) (y sd t z : Int32) : Int32 := if t < 1 then -1 else if 60 < t then -1 else if z < 0 ∨ 1 < z then -1 else if y = 0 then -2 else if z = 0 then (p_mwq st y sd t).2.1 else (p_mwq st y sd t).2.2.1
def c_X6_wild : sCtr := ((yX6_wild, cX6_wild, 10, (some .int)), (7, 3, 3, 75), true,
  mdfp,
  fun vs L => ∃ (s : Nat → Int32) (A : Nat → Nat → Int32) (sd t z : Int32) (n d : Nat), vs = [.ref 0, .int sd, .int t, .int z] ∧ L = mdW s A ∧ s 3 = nI n ∧ n ≤ 8 ∧ A 1 28 = nI d ∧ d ≤ 8,
  fun vs L r _ => r = some (.int (r_mwild (bF L 1) (oI L 0 3) (vI vs 1) (vI vs 2) (vI vs 3))))
theorem sta_X6_wild : s_Sta c_X6_wild := ⟨⟨by decide +kernel, by decide +kernel, by decide +kernel⟩, List.mem_of_getElem? (i := 1211) (by decide +kernel), List.mem_of_getElem? (i := 70) (by decide +kernel), ⟨List.mem_of_getElem? (i := 1209) (by decide +kernel), List.mem_of_getElem? (i := 1210) (by decide +kernel), Or.inl ⟨_, rfl, rfl⟩⟩⟩

def k_X6_wild : List sBk := [
  (0, false, [true, true, true, true, false, false, false, false, false, false], [o0 0 (.iload_n 2), o0 1 .i2l, oK 2 (.lconst 1) (.long 1), oV 3 (.ldc2_w 261) [1212] (.long 60), oC 6 (.invokestatic 90) [921] c_X6_in, oN 9 (.ifCond .eq 13) [1], o0 12 (.iload_n 3), o0 13 .i2l, oK 14 (.lconst 0) (.long 0), oK 15 (.lconst 1) (.long 1), oC 16 (.invokestatic 90) [921] c_X6_in, oN 19 (.ifCond .ne 5) [2], oN 22 .nop [1]]),
  (22, false, [false, false, false, false, false, false, false, false, false, false], [oK 22 (.iconst (-1)) (.int (-1)), o0 23 .ireturn]),
  (24, false, [true, true, true, true, false, false, false, false, false, false], [o0 24 (.aload_n 0), oN 25 (.getfield 85) [6, 3, 825], oN 28 (.ifCond .ne 6) [3], oK 31 (.bipush (-2)) (.int (-2)), o0 33 .ireturn]),
  (34, false, [true, true, true, true, false, false, false, false, false, false], [o0 34 (.aload_n 0), oN 35 (.getfield 7) [6, 0, 822], oK 38 (.bipush 26) (.int 26), o0 40 .iaload, o0 41 (.istore 4), o0 43 (.aload_n 0), oN 44 (.getfield 7) [6, 0, 822], oK 47 (.iconst 0) (.int 0), o0 48 .iaload, o0 49 (.istore 5), oK 51 (.iconst 0) (.int 0), o0 52 (.istore 6), o0 54 (.iload_n 1), o0 55 (.istore 7), oK 57 (.iconst 0) (.int 0), o0 58 (.istore 8), oN 60 .nop [4]]),
  (60, true, [true, false, true, true, true, true, true, true, true, false], [o0 60 (.iload 8), o0 62 (.iload_n 2), oN 63 (.if_icmp .ge 132) [8], o0 66 (.iload 7), oV 68 (.ldc_w 263) [1213] (.int 1103515245), o0 71 .imul, oK 72 (.sipush 12345) (.int 12345), o0 75 .iadd, o0 76 (.istore 7), o0 78 (.iload 7), oK 80 (.bipush 16) (.int 16), o0 82 .ishr, oK 83 (.sipush 32767) (.int 32767), o0 86 .iand, o0 87 (.aload_n 0), oN 88 (.getfield 85) [6, 3, 825], o0 91 .irem, o0 92 (.istore 9), o0 94 (.iload 4), o0 96 (.iload 9), o0 98 .ishr, oK 99 (.iconst 1) (.int 1), o0 100 .iand, oK 101 (.iconst 1) (.int 1), oN 102 (.if_icmp .ne 23) [5], o0 105 (.iload 4), o0 107 (.aload_n 0), oK 108 (.iconst 1) (.int 1), o0 109 (.iload 9), o0 111 .ishl, o0 112 (.iload 4), oC 114 (.invokevirtual 222) [1112] c_X6_takenBy, oK 117 (.iconst (-1)) (.int (-1)), o0 118 .ixor, o0 119 .iand, o0 120 (.istore 4), oN 122 (.goto 67) [7]]),
  (125, false, [true, false, true, true, true, true, true, true, true, true], [o0 125 (.aload_n 0), o0 126 (.iload 9), o0 128 (.iload 4), o0 130 (.iload 5), o0 132 (.aload_n 0), oN 133 (.getfield 7) [6, 0, 822], oK 136 (.bipush 28) (.int 28), o0 138 .iaload, o0 139 (.aload_n 0), oN 140 (.getfield 7) [6, 0, 822], oK 143 (.bipush 27) (.int 27), o0 145 .iaload, oC 146 (.invokevirtual 212) [1092] c_X6_refusal, oN 149 (.ifCond .ne 37) [6], o0 152 (.iload 4), o0 154 (.aload_n 0), oK 155 (.iconst 1) (.int 1), o0 156 (.iload 9), o0 158 .ishl, oC 159 (.invokevirtual 189) [1019] c_X6_follow, o0 162 .ior, o0 163 (.istore 4), o0 165 (.iload 5), o0 167 (.aload_n 0), oK 168 (.iconst 2) (.int 2), o0 169 (.aload_n 0), oK 170 (.iconst 1) (.int 1), o0 171 (.iload 9), o0 173 .ishl, oC 174 (.invokevirtual 189) [1019] c_X6_follow, oC 177 (.invokevirtual 182) [1023] c_X6_allOf, o0 180 .ior, o0 181 (.istore 5), oN 183 (.goto 6) [7]]),
  (186, false, [true, false, true, true, true, true, true, true, true, false], [oK 186 (.iinc 6 1) (.int 1), oN 189 .nop [7]]),
  (189, false, [true, false, true, true, true, true, true, true, true, false], [oK 189 (.iinc 8 1) (.int 1), oN 192 (.goto (-132)) [4]]),
  (195, false, [false, false, false, true, false, true, true, false, false, false], [o0 195 (.iload_n 3), oN 196 (.ifCond .ne 8) [9], o0 199 (.iload 5), oN 201 (.goto 5) [10]]),
  (204, false, [false, false, false, false, false, false, true, false, false, false], [o0 204 (.iload 6), oN 206 .nop [10]]),
  (206, false, [false, false, false, false, false, false, false, false, false, false], [o0 206 .ireturn])]
set_option maxRecDepth 100000 in
theorem ck_X6_wild : s_ck RX6 cX6_wild 10 3 75 k_X6_wild = true := by decide +kernel

set_option maxRecDepth 100000 in
set_option maxHeartbeats 1000000 in
theorem ok_X6_wild : s_Ok c_X6_wild := by
  refine s_ok_of k_X6_wild (by decide +kernel) sta_X6_wild ck_X6_wild (And.intro ok_X6_in (And.intro ok_X6_in (And.intro ok_X6_takenBy (And.intro ok_X6_refusal (And.intro ok_X6_follow (And.intro ok_X6_follow (And.intro ok_X6_allOf trivial))))))) ?_
  rintro vs L ⟨s, A, sd, t, z, n, d, rfl, rfl, hn, hn8, hd, hd8⟩
  refine ⟨rfl, fun G hG => ?_⟩
  have e3 : (s 3).toNatClampNeg = n := by rw [hn, nI_clamp (by omega)]
  have ed : (A 1 28).toNatClampNeg = d := by rw [hd, nI_clamp (by omega)]
  have fin : ∀ a : Int32, a = r_mwild (A 1) (s 3) sd t z → s_PP (some .int) true c_X6_wild.2.2.2.2.2 [.ref 0, .int sd, .int t, .int z] (mdW s A) (some (.int a)) (mdW s A) := fun a ha => ⟨rfl, by rw [ha]; rfl, fun _ => rfl⟩
  refine hG 0 _ _ _ (And.intro ⟨_, _, _, rfl⟩ ?_)
  intro r hr
  obtain ⟨b, hb⟩ : ∃ b, b = if t < 1 then (0 : Int32) else if 60 < t then 0 else 1 := ⟨_, rfl⟩
  obtain rfl : r = some (.int b) := by
    rw [hb, ← p_in64_i]; exact hr
  refine And.intro (fun h => ?_) (fun h => ?_)
  · have h : b = 0 := h
    refine fin _ ?_
    rw [r_mwild]
    by_cases h1 : t < 1
    · rw [if_pos h1]
    · rw [if_neg h1]
      by_cases h2 : 60 < t
      · rw [if_pos h2]
      · rw [hb, if_neg h1, if_neg h2] at h; exact absurd h (by decide)
  have h : ¬ b = 0 := h
  have h1 : ¬ t < 1 := fun q => h (by rw [hb, if_pos q])
  have h2 : ¬ 60 < t := fun q => h (by rw [hb, if_neg h1, if_pos q])
  refine And.intro ⟨_, _, _, rfl⟩ ?_
  intro r hr
  obtain ⟨b2, hb2⟩ : ∃ b, b = p_in64 z.toInt64 0 (1 : Int32).toInt64 := ⟨_, rfl⟩
  obtain rfl : r = some (.int b2) := by rw [hb2]; exact hr
  refine And.intro (fun h3 => ?_) (fun h3 => ?_)
  · have h3 : z < 0 ∨ 1 < z := (p_rng _ _).mp (hb2.symm.trans h3)
    exact fin _ (by rw [r_mwild, if_neg h1, if_neg h2, if_pos h3])
  have h3 : ¬ (z < 0 ∨ 1 < z) := fun q => h3 (hb2.trans ((p_rng _ _).mpr q))
  refine And.intro (fun h4 => ?_) (fun h4 => ?_)
  · have h4 : s 3 = 0 := h4
    exact fin _ (by rw [r_mwild, if_neg h1, if_neg h2, if_neg h3, if_pos h4])
  have h4 : ¬ s 3 = 0 := h4
  obtain ⟨M, hM2, hM⟩ := nI_of (x := t) (fun q => h1 (by
    have a := Int32.lt_iff_toInt_lt.mp q
    rw [Int32.lt_iff_toInt_lt]
    have z0 : (0 : Int32).toInt = 0 := rfl
    have z1 : (1 : Int32).toInt = 1 := rfl
    omega))
  obtain ⟨on, hon⟩ : ∃ on, on = fun i => A 1 (2 + i) := ⟨_, rfl⟩
  obtain ⟨nd, hnd⟩ : ∃ nd, nd = fun i => A 1 (10 + i) := ⟨_, rfl⟩
  obtain ⟨cl, hcl⟩ : ∃ cl, cl = fun i => A 1 (18 + i) := ⟨_, rfl⟩
  have hP : p_mwq (A 1) (s 3) sd t = p_mw on nd cl (s 3) n (A 1 27) (A 1 1) d (A 1 26) (A 1 0) sd M := by
    rw [p_mwq, e3, ed, hM, nI_clamp hM2, hon, hnd, hcl]
  have loop : ∀ (k i : Nat) (x a1 a2 a3 a4 : Int32), i + k = M → x = nI i → (a1, a2, a3, a4) = p_mw on nd cl (s 3) n (A 1 27) (A 1 1) d (A 1 26) (A 1 0) sd i → G 4 [some (.ref 0), none, some (.int t), some (.int z), some (.int a1), some (.int a2), some (.int a3), some (.int a4), some (.int x), none] [] (mdW s A) := by
    intro k
    induction k with
    | zero =>
      intro i x a1 a2 a3 a4 hi hx ha
      have hq : p_mwq (A 1) (s 3) sd t = (a1, a2, a3, a4) := by rw [hP, ha, show i = M by omega]
      refine hG 4 _ _ _ (And.intro (fun q => ?_) (fun q => ?_))
      · have q : x < t := q
        rw [hx, hM, nI_ltI (by omega) (by omega)] at q; omega
      · refine And.intro (fun h5 => ?_) (fun h5 => ?_)
        · exact fin _ (by rw [r_mwild, if_neg h1, if_neg h2, if_neg h3, if_neg h4, if_pos h5, hq])
        · exact fin _ (by rw [r_mwild, if_neg h1, if_neg h2, if_neg h3, if_neg h4, if_neg h5, hq])
    | succ k ih =>
      intro i x a1 a2 a3 a4 hi hx ha
      have next : ∀ b1 b2 b3 b4 : Int32, (b1, b2, b3, b4) = p_mwS on nd cl (s 3) n (A 1 27) (A 1 1) d (a1, a2, a3, a4) → G 4 [some (.ref 0), none, some (.int t), some (.int z), some (.int b1), some (.int b2), some (.int b3), some (.int b4), some (.int (x + 1)), none] [] (mdW s A) := fun b1 b2 b3 b4 hb => ih (i + 1) _ _ _ _ _ (by omega) (by rw [hx, nI_1]) (by rw [hb, p_mw, ← ha])
      obtain ⟨w, hw⟩ : ∃ w, w = p_mwr (s 3) (a4 * 1103515245 + 12345) := ⟨_, rfl⟩
      obtain ⟨g, hg⟩ : ∃ g, g = p_fw nd n ((1 : Int32) <<< (w &&& 31)) := ⟨_, rfl⟩
      refine hG 4 _ _ _ (And.intro (fun q => ?_) (fun q => ?_))
      · refine And.intro h4 ?_
        refine And.intro (fun h5 => ?_) (fun h5 => ?_)
        · have h5 : (a1 >>> (p_mwr (s 3) (a4 * 1103515245 + 12345) &&& 31)) &&& 1 = 1 := h5
          rw [← hw] at h5
          have h5 : ¬ p_hb a1 w = 0 := fun q => p_hb_0.mp q h5
          refine And.intro ⟨s, A, _, _, n, rfl, rfl, hn, hn8⟩ ?_
          intro r hr
          obtain ⟨tk, htk⟩ : ∃ tk, tk = p_tk nd n ((1 : Int32) <<< (w &&& 31)) a1 n := ⟨_, rfl⟩
          obtain rfl : r = some (.int tk) := by
            have h6 : r = some (.int (p_tk (fun i => A 1 (10 + i)) (s 3).toNatClampNeg ((1 : Int32) <<< (p_mwr (s 3) (a4 * 1103515245 + 12345) &&& 31)) a1 (s 3).toNatClampNeg)) := hr
            rw [h6, htk, hnd, e3, hw]
          exact next _ _ _ _ (by rw [p_mwS]; show _ = if p_hb a1 (p_mwr (s 3) (a4 * 1103515245 + 12345)) = 0 then _ else _; rw [← hw, if_neg h5, htk])
        · have h5 : ¬ (a1 >>> (p_mwr (s 3) (a4 * 1103515245 + 12345) &&& 31)) &&& 1 = 1 := h5
          rw [← hw] at h5
          have h5 : p_hb a1 w = 0 := p_hb_0.mpr h5
          refine And.intro (vi159 28 (by omega)) (And.intro (vi159 27 (by omega)) (And.intro ⟨s, A, _, _, _, _, _, n, d, rfl, rfl, hn, hn8, hd, hd8⟩ ?_))
          intro r hr
          obtain ⟨re, hre⟩ : ∃ re, re = p_re on nd cl n (A 1 27) (A 1 1) w a1 a2 d := ⟨_, rfl⟩
          obtain rfl : r = some (.int re) := by
            have h6 : r = some (.int (p_re (fun i => A 1 (2 + i)) (fun i => A 1 (10 + i)) (fun i => A 1 (18 + i)) (s 3).toNatClampNeg (A 1 27) (A 1 1) (p_mwr (s 3) (a4 * 1103515245 + 12345)) a1 a2 (A 1 28).toNatClampNeg)) := hr
            rw [h6, hre, hon, hnd, hcl, e3, ed, hw]
          refine And.intro (fun h6 => ?_) (fun h6 => ?_)
          · have h6 : re = 0 := h6
            refine And.intro ⟨s, A, _, n, rfl, rfl, hn, hn8⟩ ?_
            intro r hr
            obtain rfl : r = some (.int g) := by
              have h7 : r = some (.int (p_fw (fun i => A 1 (10 + i)) (s 3).toNatClampNeg ((1 : Int32) <<< (p_mwr (s 3) (a4 * 1103515245 + 12345) &&& 31)))) := hr
              rw [h7, hg, hnd, e3, hw]
            refine And.intro ⟨s, A, _, n, rfl, rfl, hn, hn8⟩ ?_
            intro r hr
            obtain rfl : r = some (.int g) := by
              have h7 : r = some (.int (p_fw (fun i => A 1 (10 + i)) (s 3).toNatClampNeg ((1 : Int32) <<< (p_mwr (s 3) (a4 * 1103515245 + 12345) &&& 31)))) := hr
              rw [h7, hg, hnd, e3, hw]
            refine And.intro ⟨s, A, 2, _, n, rfl, rfl, hn, hn8, by omega⟩ ?_
            intro r hr
            obtain rfl : r = some (.int (p_ga on n g)) := by
              have h7 : r = some (.int (p_ga (fun i => A 1 (2 + i)) (s 3).toNatClampNeg g)) := hr
              rw [h7, hon, e3]
            exact next _ _ _ _ (by rw [p_mwS]; show _ = if p_hb a1 (p_mwr (s 3) (a4 * 1103515245 + 12345)) = 0 then (if p_re on nd cl n (A 1 27) (A 1 1) (p_mwr (s 3) (a4 * 1103515245 + 12345)) a1 a2 d = 0 then (a1 ||| p_fw nd n ((1 : Int32) <<< (p_mwr (s 3) (a4 * 1103515245 + 12345) &&& 31)), a2 ||| p_ga on n (p_fw nd n ((1 : Int32) <<< (p_mwr (s 3) (a4 * 1103515245 + 12345) &&& 31))), a3, a4 * 1103515245 + 12345) else _) else _; rw [← hw, if_pos h5, ← hre, if_pos h6, ← hg])
          · have h6 : ¬ re = 0 := h6
            exact next _ _ _ _ (by rw [p_mwS]; show _ = if p_hb a1 (p_mwr (s 3) (a4 * 1103515245 + 12345)) = 0 then (if p_re on nd cl n (A 1 27) (A 1 1) (p_mwr (s 3) (a4 * 1103515245 + 12345)) a1 a2 d = 0 then _ else (a1, a2, a3 + 1, a4 * 1103515245 + 12345)) else _; rw [← hw, if_pos h5, ← hre, if_neg h6])
      · have q : ¬ x < t := q
        rw [hx, hM, nI_ltI (by omega) (by omega)] at q; omega
  have l0 := loop M 0 0 (A 1 26) (A 1 0) 0 sd (by omega) nI_0.symm rfl
  exact And.intro (vi159 26 (by omega)) (And.intro (vi159 0 (by omega)) l0)
end
section
/-! ===== WishClerkModel: dates ===== -/
def p_mdl (d : Nat → Int32) (x : Int32) : Nat → Int32
  | 0 => 0
  | j + 1 => if p_hb x (nI j) = 0 then p_mdl d x j else if p_mdl d x j < d j then d j else p_mdl d x j
def p_md1 (ye nd : Nat → Int32) (g : Int32) (n : Nat) (d : Nat → Int32) : Nat → Nat → Int32
  | 0 => d
  | i + 1 => upd (p_md1 ye nd g n d i) i (ye i + (if p_hb g (nI i) = 0 then 0 else p_mdl (p_md1 ye nd g n d i) (nd i) n))
def p_mdr (ye nd : Nat → Int32) (g : Int32) (n : Nat) (d : Nat → Int32) : Nat → Nat → Int32
  | 0 => q_zk d 0 n
  | r + 1 => p_md1 ye nd g n (p_mdr ye nd g n d r) n
/-- does one of them go round -/
def p_mdg (st : Nat → Int32) (n : Nat) (g : Int32) : Nat → Nat → Int32
  | 0, _ => 0
  | r + 1, i => if p_hb g (nI i) = 0 then p_mdg st n g r (i + 1) else if p_mgo st n (nI i) = 0 then p_mdg st n g r (i + 1) else 1
def r_mdate (y : Int32) (n : Nat) (st ye d : Nat → Int32) (w : Int32) : Int32 := if p_in y w = 0 then -1 else if p_mdg st n (p_fw (fun i => st (10 + i)) n ((1 : Int32) <<< (w &&& 31))) n 0 = 0 then p_mdr ye (fun i => st (10 + i)) (p_fw (fun i => st (10 + i)) n ((1 : Int32) <<< (w &&& 31))) n d 8 w.toNatClampNeg else -4
def c_X6_date : sCtr := ((yX6_date, cX6_date, 7, (some .int)), (7, 1, 3, 68), false,
  mdfp,
  fun vs L => ∃ (s : Nat → Int32) (A : Nat → Nat → Int32) (w : Int32) (n : Nat), vs = [.ref 0, .int w] ∧ L = mdW s A ∧ s 3 = nI n ∧ n ≤ 8,
  fun vs L r L' => r = some (.int (r_mdate (oI L 0 3) (oI L 0 3).toNatClampNeg (bF L 1) (bF L 3) (bF L 13) (vI vs 1))) ∧ ∃ f, L' = mdW (oI L 0) (va_up (bF L) 13 f))
theorem sta_X6_date : s_Sta c_X6_date := ⟨⟨by decide +kernel, by decide +kernel, by decide +kernel⟩, List.mem_of_getElem? (i := 1178) (by decide +kernel), List.mem_of_getElem? (i := 70) (by decide +kernel), ⟨List.mem_of_getElem? (i := 1176) (by decide +kernel), List.mem_of_getElem? (i := 1177) (by decide +kernel), Or.inl ⟨_, rfl, rfl⟩⟩⟩

def k_X6_date : List sBk := [
  (0, false, [true, true, false, false, false, false, false], [o0 0 (.aload_n 0), o0 1 (.iload_n 1), oC 2 (.invokevirtual 185) [1015] c_X6_isWish, oN 5 (.ifCond .ne 5) [1], oK 8 (.iconst (-1)) (.int (-1)), o0 9 .ireturn]),
  (10, false, [true, true, false, false, false, false, false], [o0 10 (.aload_n 0), oK 11 (.iconst 1) (.int 1), o0 12 (.iload_n 1), o0 13 .ishl, oC 14 (.invokevirtual 189) [1019] c_X6_follow, o0 17 (.istore_n 2), oK 18 (.iconst 0) (.int 0), o0 19 (.istore_n 3), oN 20 .nop [2]]),
  (20, true, [true, true, true, true, false, false, false], [o0 20 (.iload_n 3), o0 21 (.aload_n 0), oN 22 (.getfield 85) [6, 3, 825], oN 25 (.if_icmp .ge 36) [4], o0 28 (.iload_n 2), o0 29 (.iload_n 3), o0 30 .ishr, oK 31 (.iconst 1) (.int 1), o0 32 .iand, oK 33 (.iconst 1) (.int 1), oN 34 (.if_icmp .ne 14) [3], o0 37 (.aload_n 0), o0 38 (.iload_n 3), oC 39 (.invokevirtual 247) [1179] c_X6_goesRound, oN 42 (.ifCond .eq 6) [3], oK 45 (.bipush (-4)) (.int (-4)), o0 47 .ireturn]),
  (48, false, [true, true, true, true, false, false, false], [o0 48 (.aload_n 0), oN 49 (.getfield 47) [6, 26, 848], o0 52 (.iload_n 3), oK 53 (.iconst 0) (.int 0), o0 54 .iastore, oK 55 (.iinc 3 1) (.int 1), oN 58 (.goto (-38)) [2]]),
  (61, false, [true, true, true, false, false, false, false], [oK 61 (.iconst 0) (.int 0), o0 62 (.istore_n 3), oN 63 .nop [5]]),
  (63, true, [true, true, true, true, false, false, false], [o0 63 (.iload_n 3), oK 64 (.bipush 8) (.int 8), oN 66 (.if_icmp .ge 120) [12], oK 69 (.iconst 0) (.int 0), o0 70 (.istore 4), oN 72 .nop [6]]),
  (72, true, [true, true, true, true, true, false, false], [o0 72 (.iload 4), o0 74 (.aload_n 0), oN 75 (.getfield 85) [6, 3, 825], oN 78 (.if_icmp .ge 102) [11], oK 81 (.iconst 0) (.int 0), o0 82 (.istore 5), oK 84 (.iconst 0) (.int 0), o0 85 (.istore 6), oN 87 .nop [7]]),
  (87, true, [true, true, true, true, true, true, true], [o0 87 (.iload 6), o0 89 (.aload_n 0), oN 90 (.getfield 85) [6, 3, 825], oN 93 (.if_icmp .ge 64) [10], o0 96 (.iload_n 2), o0 97 (.iload 4), o0 99 .ishr, oK 100 (.iconst 1) (.int 1), o0 101 .iand, oK 102 (.iconst 1) (.int 1), oN 103 (.if_icmp .ne 54) [10], o0 106 (.aload_n 0), oN 107 (.getfield 7) [6, 0, 822], oK 110 (.bipush 10) (.int 10), o0 112 (.iload 4), o0 114 .iadd, o0 115 .iaload, o0 116 (.iload 6), o0 118 .ishr, oK 119 (.iconst 1) (.int 1), o0 120 .iand, oK 121 (.iconst 1) (.int 1), oN 122 (.if_icmp .ne 25) [8], o0 125 (.aload_n 0), oN 126 (.getfield 47) [6, 26, 848], o0 129 (.iload 6), o0 131 .iaload, o0 132 (.iload 5), oN 134 (.if_icmp .le 13) [8], o0 137 (.aload_n 0), oN 138 (.getfield 47) [6, 26, 848], o0 141 (.iload 6), o0 143 .iaload, oN 144 (.goto 5) [9]]),
  (147, false, [true, true, true, true, true, true, true], [o0 147 (.iload 5), oN 149 .nop [9]]),
  (149, false, [true, true, true, true, true, false, true], [o0 149 (.istore 5), oK 151 (.iinc 6 1) (.int 1), oN 154 (.goto (-67)) [7]]),
  (157, false, [true, true, true, true, true, true, false], [o0 157 (.aload_n 0), oN 158 (.getfield 47) [6, 26, 848], o0 161 (.iload 4), o0 163 (.aload_n 0), oN 164 (.getfield 17) [6, 4, 826], o0 167 (.iload 4), o0 169 .iaload, o0 170 (.iload 5), o0 172 .iadd, o0 173 .iastore, oK 174 (.iinc 4 1) (.int 1), oN 177 (.goto (-105)) [6]]),
  (180, false, [true, true, true, true, false, false, false], [oK 180 (.iinc 3 1) (.int 1), oN 183 (.goto (-120)) [5]]),
  (186, false, [true, true, false, false, false, false, false], [o0 186 (.aload_n 0), oN 187 (.getfield 47) [6, 26, 848], o0 190 (.iload_n 1), o0 191 .iaload, o0 192 .ireturn])]
set_option maxRecDepth 100000 in
theorem ck_X6_date : s_ck RX6 cX6_date 7 3 68 k_X6_date = true := by decide +kernel

set_option maxRecDepth 100000 in
set_option maxHeartbeats 1000000 in
theorem ok_X6_date : s_Ok c_X6_date := by
  refine s_ok_of k_X6_date (by decide +kernel) sta_X6_date ck_X6_date (And.intro ok_X6_isWish (And.intro ok_X6_follow (And.intro ok_X6_goesRound trivial))) ?_
  rintro vs L ⟨s, A, w, n, rfl, rfl, hn, hn8⟩
  refine ⟨rfl, fun G hG => ?_⟩
  have e3 : (s 3).toNatClampNeg = n := by rw [hn, nI_clamp (by omega)]
  have fin : ∀ (a : Int32) (f : Nat → Int32), a = r_mdate (s 3) n (A 1) (A 3) (A 13) w → s_PP (some .int) false c_X6_date.2.2.2.2.2 [.ref 0, .int w] (mdW s A) (some (.int a)) (mdW s (va_up A 13 f)) := fun a f ha => ⟨rfl, ⟨by rw [ha, ← e3]; rfl, f, rfl⟩, fun h => by cases h⟩
  refine hG 0 _ _ _ (And.intro ⟨s, A, w, n, rfl, rfl, hn, hn8⟩ ?_)
  intro r hr
  obtain rfl : r = some (.int (p_in (s 3) w)) := hr
  refine And.intro (fun h => ?_) (fun h => ?_)
  · have t := fin (-1) (A 13) (by rw [r_mdate, if_pos h])
    rw [va_upI] at t
    exact t
  have h4 := h
  rw [hn] at h4
  obtain ⟨jw, hjw, hw⟩ := p_in_ne hn8 h4
  refine And.intro ⟨s, A, _, n, rfl, rfl, hn, hn8⟩ ?_
  intro r hr
  obtain ⟨nd, hnd⟩ : ∃ nd, nd = fun i => A 1 (10 + i) := ⟨_, rfl⟩
  obtain ⟨g, hg⟩ : ∃ g, g = p_fw nd n ((1 : Int32) <<< (w &&& 31)) := ⟨_, rfl⟩
  obtain rfl : r = some (.int g) := by rw [hg, hnd, ← e3]; exact hr
  have hP : ∀ a : Int32, a = (if p_mdg (A 1) n g n 0 = 0 then p_mdr (A 3) nd g n (A 13) 8 w.toNatClampNeg else -4) → a = r_mdate (s 3) n (A 1) (A 3) (A 13) w := fun a ha => by rw [ha, r_mdate, if_neg h, hg, hnd]
  have l7 : ∀ (c x : Int32) (i : Nat) (f : Nat → Int32), i < n → x = nI i → (∀ v : Int32, v = (if p_hb g (nI i) = 0 then 0 else p_mdl f (nd i) n) → G 6 [some (.ref 0), some (.int w), some (.int g), some (.int c), some (.int (x + 1)), none, none] [] (mdW s (va_up A 13 (upd f i (A 3 i + v))))) → ∀ (k j : Nat) (z v : Int32), j + k = n → z = nI j → (p_hb g (nI i) = 0 → j = 0) → v = p_mdl f (nd i) j → G 7 [some (.ref 0), some (.int w), some (.int g), some (.int c), some (.int x), some (.int v), some (.int z)] [] (mdW s (va_up A 13 f)) := by
    intro c x i f hi hx next k
    have hxi : vp_in x 8 := by rw [hx]; exact vp_in_nI (by omega) (by omega)
    have hxc : x.toNatClampNeg = i := by rw [hx, nI_clamp (by omega)]
    have e : (10 : Int32) + x = nI (10 + i) := by rw [hx]; exact nI_add 10 i
    have last : ∀ v : Int32, v = (if p_hb g (nI i) = 0 then 0 else p_mdl f (nd i) n) → vp_in x 8 ∧ vp_in x 8 ∧ G 6 [some (.ref 0), some (.int w), some (.int g), some (.int c), some (.int (x + 1)), none, none] [] (mdW s (va_up A 13 (upd f x.toNatClampNeg (A 3 x.toNatClampNeg + v)))) := fun v hv => ⟨hxi, hxi, by rw [hxc]; exact next v hv⟩
    induction k with
    | zero =>
      intro j z v hj hz h0 hv
      refine hG 7 _ _ _ (And.intro (fun q => ?_) (fun q => ?_))
      · have q : z < s 3 := q
        rw [hz, hn, nI_ltI (by omega) (by omega)] at q; omega
      · refine last v ?_
        by_cases hb : p_hb g (nI i) = 0
        · rw [if_pos hb, hv, h0 hb]; rfl
        · rw [if_neg hb, hv, show j = n by omega]
    | succ k ih =>
      intro j z v hj hz h0 hv
      have hzi : vp_in z 8 := by rw [hz]; exact vp_in_nI (by omega) (by omega)
      have hzc : z.toNatClampNeg = j := by rw [hz, nI_clamp (by omega)]
      refine hG 7 _ _ _ (And.intro (fun q => ?_) (fun q => ?_))
      · refine And.intro (fun h1 => ?_) (fun h1 => ?_)
        · have h1 : ¬ p_hb g (nI i) = 0 := by rw [← hx]; exact fun q => p_hb_0.mp q h1
          have nx : ∀ u : Int32, u = p_mdl f (nd i) (j + 1) → G 7 [some (.ref 0), some (.int w), some (.int g), some (.int c), some (.int x), some (.int u), some (.int (z + 1))] [] (mdW s (va_up A 13 f)) := fun u hu => ih (j + 1) _ _ (by omega) (by rw [hz, nI_1]) (fun q => absurd q h1) hu
          refine And.intro ?_ (And.intro (fun h2 => ?_) (fun h2 => ?_))
          · show vp_in ((10 : Int32) + x) 159
            rw [e]; exact vi159 _ (by omega)
          · have h2 : ¬ p_hb (A 1 ((10 : Int32) + x).toNatClampNeg) z = 0 := fun q => p_hb_0.mp q h2
            have h2 : ¬ p_hb (nd i) (nI j) = 0 := by rw [e, nI_clamp (by omega), hz] at h2; rw [hnd]; exact h2
            refine And.intro hzi (And.intro (fun h3 => ?_) (fun h3 => ?_))
            · have h3 : p_mdl f (nd i) j < f j := by rw [← hv, ← hzc]; exact h3
              refine And.intro hzi (nx _ ?_)
              show f z.toNatClampNeg = _
              rw [hzc, p_mdl, if_neg h2, if_pos h3]
            · have h3 : ¬ p_mdl f (nd i) j < f j := by rw [← hv, ← hzc]; exact h3
              exact nx _ (by rw [p_mdl, if_neg h2, if_neg h3, hv])
          · have h2 : p_hb (A 1 ((10 : Int32) + x).toNatClampNeg) z = 0 := p_hb_0.mpr h2
            have h2 : p_hb (nd i) (nI j) = 0 := by rw [e, nI_clamp (by omega), hz] at h2; rw [hnd]; exact h2
            exact nx _ (by rw [p_mdl, if_pos h2, hv])
        · have h1 : p_hb g (nI i) = 0 := by rw [← hx]; exact p_hb_0.mpr h1
          exact last v (by rw [if_pos h1, hv, h0 h1]; rfl)
      · have q : ¬ z < s 3 := q
        rw [hz, hn, nI_ltI (by omega) (by omega)] at q; omega
  have l6 : ∀ (c : Int32) (d : Nat → Int32), (∀ f, f = p_md1 (A 3) nd g n d n → G 5 [some (.ref 0), some (.int w), some (.int g), some (.int (c + 1)), none, none, none] [] (mdW s (va_up A 13 f))) → ∀ (k i : Nat) (x : Int32) (f : Nat → Int32), i + k = n → x = nI i → f = p_md1 (A 3) nd g n d i → G 6 [some (.ref 0), some (.int w), some (.int g), some (.int c), some (.int x), none, none] [] (mdW s (va_up A 13 f)) := by
    intro c d next k
    induction k with
    | zero =>
      intro i x f hi hx hf
      refine hG 6 _ _ _ (And.intro (fun q => ?_) (fun q => ?_))
      · have q : x < s 3 := q
        rw [hx, hn, nI_ltI (by omega) (by omega)] at q; omega
      · exact next f (by rw [hf, show i = n by omega])
    | succ k ih =>
      intro i x f hi hx hf
      refine hG 6 _ _ _ (And.intro (fun q => ?_) (fun q => ?_))
      · exact l7 c x i f (by omega) hx (fun v hv => ih (i + 1) _ _ (by omega) (by rw [hx, nI_1]) (by rw [p_md1, ← hf, hv])) n 0 0 0 (by omega) nI_0.symm (fun _ => rfl) rfl
      · have q : ¬ x < s 3 := q
        rw [hx, hn, nI_ltI (by omega) (by omega)] at q; omega
  have l5 : p_mdg (A 1) n g n 0 = 0 → ∀ (k r : Nat) (c : Int32) (f : Nat → Int32), r + k = 8 → c = nI r → f = p_mdr (A 3) nd g n (A 13) r → G 5 [some (.ref 0), some (.int w), some (.int g), some (.int c), none, none, none] [] (mdW s (va_up A 13 f)) := by
    intro hgo k
    induction k with
    | zero =>
      intro r c f hr hc hf
      refine hG 5 _ _ _ (And.intro (fun q => ?_) (fun q => ?_))
      · rw [hc, show (8 : Int32) = nI 8 from rfl, nI_ltI (by omega) (by omega)] at q; omega
      · refine And.intro ?_ (fin _ f (hP _ ?_))
        · show vp_in w 8
          rw [hw]; exact vp_in_nI (by omega) (by omega)
        · show f w.toNatClampNeg = _
          rw [if_pos hgo, hf, show r = 8 by omega]
    | succ k ih =>
      intro r c f hr hc hf
      refine hG 5 _ _ _ (And.intro (fun q => ?_) (fun q => ?_))
      · exact l6 c f (fun f2 hf2 => ih (r + 1) _ _ (by omega) (by rw [hc, nI_1]) (by rw [hf2, hf, p_mdr])) n 0 0 f (by omega) nI_0.symm rfl
      · rw [hc, show (8 : Int32) = nI 8 from rfl, nI_ltI (by omega) (by omega)] at q; omega
  have l2 : ∀ (k i : Nat) (x : Int32) (f : Nat → Int32), i + k = n → x = nI i → f = q_zk (A 13) 0 i → p_mdg (A 1) n g k i = p_mdg (A 1) n g n 0 → G 2 [some (.ref 0), some (.int w), some (.int g), some (.int x), none, none, none] [] (mdW s (va_up A 13 f)) := by
    intro k
    induction k with
    | zero =>
      intro i x f hi hx hf hq
      refine hG 2 _ _ _ (And.intro (fun q => ?_) (fun q => ?_))
      · have q : x < s 3 := q
        rw [hx, hn, nI_ltI (by omega) (by omega)] at q; omega
      · exact l5 (by rw [← hq]; rfl) 8 0 0 f (by omega) nI_0.symm (by rw [hf, p_mdr, show i = n by omega])
    | succ k ih =>
      intro i x f hi hx hf hq
      have hxi : vp_in x 8 := by rw [hx]; exact vp_in_nI (by omega) (by omega)
      have hxc : x.toNatClampNeg = i := by rw [hx, nI_clamp (by omega)]
      have nx : p_mdg (A 1) n g k (i + 1) = p_mdg (A 1) n g n 0 → vp_in x 8 ∧ G 2 [some (.ref 0), some (.int w), some (.int g), some (.int (x + 1)), none, none, none] [] (mdW s (va_up A 13 (upd f x.toNatClampNeg 0))) := fun hq2 => ⟨hxi, ih (i + 1) _ _ (by omega) (by rw [hx, nI_1]) (by rw [hxc, hf, ← q_zkS, Nat.zero_add]) hq2⟩
      refine hG 2 _ _ _ (And.intro (fun q => ?_) (fun q => ?_))
      · refine And.intro (fun h1 => ?_) (fun h1 => ?_)
        · have h1 : ¬ p_hb g (nI i) = 0 := by rw [← hx]; exact fun q => p_hb_0.mp q h1
          refine And.intro ⟨s, va_up A 13 f, x, i, n, rfl, rfl, hn, hn8, hx, by omega⟩ ?_
          intro r hr
          obtain ⟨o, ho⟩ : ∃ o, o = p_mgo (A 1) n (nI i) := ⟨_, rfl⟩
          obtain rfl : r = some (.int o) := by rw [ho, ← e3, ← hx]; exact hr
          refine And.intro (fun h2 => ?_) (fun h2 => ?_)
          · have h2 : p_mgo (A 1) n (nI i) = 0 := by rw [← ho]; exact h2
            exact nx (by rw [← hq, p_mdg, if_neg h1, if_pos h2])
          · have h2 : ¬ p_mgo (A 1) n (nI i) = 0 := by rw [← ho]; exact h2
            exact fin _ f (hP _ (by rw [← hq, p_mdg, if_neg h1, if_neg h2, if_neg (by decide)]))
        · have h1 : p_hb g (nI i) = 0 := by rw [← hx]; exact p_hb_0.mpr h1
          exact nx (by rw [← hq, p_mdg, if_pos h1])
      · have q : ¬ x < s 3 := q
        rw [hx, hn, nI_ltI (by omega) (by omega)] at q; omega
  have l0 := l2 n 0 0 (A 13) (by omega) nI_0.symm (q_zk0 _ _).symm rfl
  rw [va_upI] at l0
  exact l0
end
section
/-! ===== WishClerkModel: the greatest common divisor ===== -/
def p_gcd (a b : Int64) : Int64 := Int64.ofInt (Int.gcd a.toInt b.toInt)
theorem p_rem {a b : Int64} (ha : 0 ≤ a.toInt) (hb : 0 < b.toInt) : (a - a / b * b).toInt = a.toInt % b.toInt := by
  have a2 := Int64.toInt_lt a
  have b2 := Int64.toInt_lt b
  have d0 : 0 ≤ a.toInt / b.toInt := Int.ediv_nonneg ha (by omega)
  have d1 : a.toInt / b.toInt ≤ a.toInt := Int.ediv_le_self _ ha
  have d2 : a.toInt / b.toInt * b.toInt ≤ a.toInt := Int.ediv_mul_le _ (by omega)
  have d3 : 0 ≤ a.toInt / b.toInt * b.toInt := Int.mul_nonneg d0 (by omega)
  have e1 : (a / b).toInt = a.toInt / b.toInt := by
    rw [Int64.toInt_div, Int.tdiv_eq_ediv_of_nonneg ha, Int.bmod_eq_of_le (by omega) (by omega)]
  have e2 : (a / b * b).toInt = a.toInt / b.toInt * b.toInt := by
    rw [Int64.toInt_mul, e1, Int.bmod_eq_of_le (by omega) (by omega)]
  rw [Int64.toInt_sub, e2, Int.bmod_eq_of_le (by omega) (by omega), Int.emod_def, Int.mul_comm b.toInt]
theorem p_gcdr {a b : Int} (ha : 0 ≤ a) (hb : 0 ≤ b) : Int.gcd b (a % b) = Int.gcd a b := by
  obtain ⟨x, rfl⟩ := Int.eq_ofNat_of_zero_le ha
  obtain ⟨y, rfl⟩ := Int.eq_ofNat_of_zero_le hb
  show Nat.gcd y (((x : Int) % (y : Int)).natAbs) = Nat.gcd x y
  rw [show (x : Int) % (y : Int) = ((x % y : Nat) : Int) from rfl, Int.natAbs_natCast, Nat.gcd_comm, ← Nat.gcd_rec, Nat.gcd_comm]
def c_X6_common : sCtr := ((yX6_common, cX6_common, 10, (some .long)), (0, 2, 0, 0), true,
  fun _ _ => [],
  fun vs _ => ∃ a b : Int64, vs = [.long a, .long b] ∧ 0 ≤ a.toInt ∧ 0 ≤ b.toInt,
  fun vs _ r _ => r = some (.long (p_gcd (vJ vs 0) (vJ vs 1))))
theorem sta_X6_common : s_Sta c_X6_common := ⟨⟨by decide +kernel, by decide +kernel, by decide +kernel⟩, List.mem_of_getElem? (i := 1207) (by decide +kernel), List.mem_of_getElem? (i := 70) (by decide +kernel), List.mem_of_getElem? (i := 1206) (by decide +kernel)⟩

def k_X6_common : List sBk := [
  (0, false, [true, false, true, false, false, false, false, false, false, false], [o0 0 (.lload_n 0), o0 1 (.lstore 4), o0 3 (.lload_n 2), o0 4 (.lstore 6), oN 6 .nop [1]]),
  (6, true, [false, false, false, false, true, false, true, false, false, false], [o0 6 (.lload 6), oK 8 (.lconst 0) (.long 0), o0 9 .lcmp, oN 10 (.ifCond .eq 21) [2], o0 13 (.lload 4), o0 15 (.lload 6), o0 17 .lrem, o0 18 (.lstore 8), o0 20 (.lload 6), o0 22 (.lstore 4), o0 24 (.lload 8), o0 26 (.lstore 6), oN 28 (.goto (-22)) [1]]),
  (31, false, [false, false, false, false, true, false, false, false, false, false], [o0 31 (.lload 4), o0 33 .lreturn])]
set_option maxRecDepth 100000 in
theorem ck_X6_common : s_ck RX6 cX6_common 10 0 0 k_X6_common = true := by decide +kernel

set_option maxRecDepth 100000 in
set_option maxHeartbeats 1000000 in
theorem ok_X6_common : s_Ok c_X6_common := by
  refine s_ok_of k_X6_common (by decide +kernel) sta_X6_common ck_X6_common trivial ?_
  rintro vs L ⟨a0, b0, rfl, ha0, hb0⟩
  refine ⟨rfl, fun G hG => ?_⟩
  have loop : ∀ (m : Nat) (a b : Int64), 0 ≤ a.toInt → 0 ≤ b.toInt → b.toInt < m → Int.gcd a.toInt b.toInt = Int.gcd a0.toInt b0.toInt → G 1 [none, none, none, none, some (.long a), none, some (.long b), none, none, none] [] L := by
    intro m
    induction m with
    | zero => intro a b _ hb hm _; omega
    | succ m ih =>
      intro a b ha hb hm hq
      refine hG 1 _ _ _ (And.intro (fun h => ?_) (fun h => ?_))
      · have h : b = 0 := (lg_cmp_eq _ _).mp h
        refine ⟨rfl, ?_, fun _ => rfl⟩
        show some (Value.long a) = some (Value.long (p_gcd a0 b0))
        rw [p_gcd, ← hq, h, Int64.toInt_zero, Int.gcd_zero_right, Int.natAbs_of_nonneg ha, Int64.ofInt_toInt]
      · have h : ¬ b = 0 := fun q => h ((lg_cmp_eq _ _).mpr q)
        have hb1 : 0 < b.toInt := by
          rcases Int.lt_or_eq_of_le hb with q | q
          · exact q
          · exact absurd (Int64.toInt_inj.mp (q.symm.trans Int64.toInt_zero.symm)) h
        have er := p_rem ha hb1
        refine And.intro h ?_
        refine ih b _ hb ?_ ?_ ?_
        · rw [er]; exact Int.emod_nonneg _ (by omega)
        · rw [er]
          have := Int.emod_lt_of_pos a.toInt hb1
          omega
        · rw [er, ← hq, p_gcdr ha hb]
  exact hG 0 _ _ _ (loop (b0.toInt.toNat + 1) a0 b0 ha0 hb0 (by omega) rfl)
end
section
/-! ===== WishClerkModel: odds ===== -/
theorem p_gcd_ne {a b : Int64} (ha : 0 < a.toInt) : ¬ p_gcd a b = 0 := by
  intro h
  have a2 := Int64.toInt_lt a
  have g0 : 0 < Int.gcd a.toInt b.toInt := Int.gcd_pos_of_ne_zero_left _ (by omega)
  have g1 : (Int.gcd a.toInt b.toInt : Int) ≤ a.toInt := Int.le_of_dvd ha (Int.gcd_dvd_left ..)
  have hs : ((Int64.size : Nat) : Int) = 18446744073709551616 := rfl
  have e : (p_gcd a b).toInt = Int.gcd a.toInt b.toInt := by
    rw [p_gcd, Int64.toInt_ofInt, Int.bmod_eq_of_le (by omega) (by omega)]
  rw [h, Int64.toInt_zero] at e
  omega
theorem p_mulB {x y : Int64} {X : Int} (hx : 0 ≤ x.toInt) (hX : x.toInt ≤ X) (hy : 0 ≤ y.toInt) (hY : y.toInt ≤ 10) (h6 : X ≤ 1000000) : 0 ≤ (x * y).toInt ∧ (x * y).toInt ≤ X * 10 := by
  have m0 : 0 ≤ x.toInt * y.toInt := Int.mul_nonneg hx hy
  have m1 : x.toInt * y.toInt ≤ X * 10 := Int.mul_le_mul hX hY hy (by omega)
  rw [Int64.toInt_mul, Int.bmod_eq_of_le (by omega) (by omega)]
  exact ⟨m0, m1⟩
def p_m10 : Nat → Int64
  | 0 => 1
  | k + 1 => p_m10 k * 10
theorem p_m10_pos : ∀ k, k ≤ 6 → 0 < (p_m10 k).toInt := by decide +kernel
def p_mof (g v : Int32) (i : Nat) : Int64 := if p_hb g (nI i) = 0 then ((10 : Int32) - v).toInt64 else v.toInt64
def p_moh (on nd cl : Nat → Int32) (n : Nat) (l0 h0 li ba : Int32) (d : Nat) (g w : Int32) (i : Nat) (h : Int32) : Int32 :=
  if p_hb h w = 0 then (if p_hb g (nI i) = 0 then (if p_re on nd cl n li ba w h (p_lb on nd n l0 h0 h) d = 0 then h ||| p_fw nd n ((1 : Int32) <<< (w &&& 31)) else h) else h ||| p_fw nd n ((1 : Int32) <<< (w &&& 31))) else h
def p_mo (on nd cl pl : Nat → Int32) (n : Nat) (l0 h0 li ba : Int32) (d : Nat) (v g : Int32) : Nat → Int32 × Int64
  | 0 => (h0, 1)
  | i + 1 => (p_moh on nd cl n l0 h0 li ba d g (pl i) i (p_mo on nd cl pl n l0 h0 li ba d v g i).1, (p_mo on nd cl pl n l0 h0 li ba d v g i).2 * p_mof g v i)
def p_mot (on nd cl pl : Nat → Int32) (n : Nat) (l0 h0 li ba : Int32) (d : Nat) (v p : Int32) (m : Nat) : Nat → Int64
  | 0 => 0
  | k + 1 => p_mot on nd cl pl n l0 h0 li ba d v p m k + (if p_hb (p_lb on nd n l0 h0 (p_mo on nd cl pl n l0 h0 li ba d v (nI k) m).1) p = 0 then 0 else (p_mo on nd cl pl n l0 h0 li ba d v (nI k) m).2)
theorem p_mofB {v : Int32} (h : ¬ (v < 0 ∨ 10 < v)) (g : Int32) (i : Nat) : 0 ≤ (p_mof g v i).toInt ∧ (p_mof g v i).toInt ≤ 10 := by
  obtain ⟨j, hj, rfl⟩ := nI_of (fun q => h (Or.inl q))
  have j10 : j ≤ 10 := by
    have : ¬ 10 < j := fun q => h (Or.inr ((nI_ltI (a := 10) (by omega) hj).mpr q))
    omega
  have e : ((10 : Int32) - nI j).toInt = 10 - j := by
    rw [Int32.toInt_sub, nI_toInt hj, show (10 : Int32).toInt = 10 from rfl, Int.bmod_eq_of_le (by omega) (by omega)]
  unfold p_mof
  by_cases q : p_hb g (nI i) = 0
  · rw [if_pos q, Int32.toInt_toInt64, e]; omega
  · rw [if_neg q, Int32.toInt_toInt64, nI_toInt hj]; omega
theorem p_moB {v : Int32} (h : ¬ (v < 0 ∨ 10 < v)) (on nd cl pl : Nat → Int32) (n : Nat) (l0 h0 li ba : Int32) (d : Nat) (g : Int32) : ∀ i, i ≤ 6 → 0 ≤ (p_mo on nd cl pl n l0 h0 li ba d v g i).2.toInt ∧ (p_mo on nd cl pl n l0 h0 li ba d v g i).2.toInt ≤ 10 ^ i
  | 0, _ => ⟨show 0 ≤ (1 : Int64).toInt by decide, show (1 : Int64).toInt ≤ 10 ^ 0 by decide⟩
  | i + 1, hi => by
    obtain ⟨a, b⟩ := p_moB h on nd cl pl n l0 h0 li ba d g i (by omega)
    obtain ⟨c, e⟩ := p_mofB h g i
    rw [p_mo]
    have h6 : (10 : Int) ^ i ≤ 1000000 := by
      rcases (show i = 0 ∨ i = 1 ∨ i = 2 ∨ i = 3 ∨ i = 4 ∨ i = 5 by omega) with rfl | rfl | rfl | rfl | rfl | rfl <;> decide
    exact p_mulB a b c e h6
theorem p_motB {v : Int32} (h : ¬ (v < 0 ∨ 10 < v)) (on nd cl pl : Nat → Int32) (n : Nat) (l0 h0 li ba : Int32) (d : Nat) (p : Int32) (m : Nat) (hm : m ≤ 6) : ∀ k, k ≤ 64 → 0 ≤ (p_mot on nd cl pl n l0 h0 li ba d v p m k).toInt ∧ (p_mot on nd cl pl n l0 h0 li ba d v p m k).toInt ≤ k * 1000000
  | 0, _ => ⟨show 0 ≤ (0 : Int64).toInt by decide, show (0 : Int64).toInt ≤ ((0 : Nat) : Int) * 1000000 by decide⟩
  | k + 1, hk => by
    obtain ⟨a, b⟩ := p_motB h on nd cl pl n l0 h0 li ba d p m hm k (by omega)
    obtain ⟨c, e⟩ := p_moB h on nd cl pl n l0 h0 li ba d (nI k) m hm
    have h6 : (10 : Int) ^ m ≤ 1000000 := by
      rcases (show m = 0 ∨ m = 1 ∨ m = 2 ∨ m = 3 ∨ m = 4 ∨ m = 5 ∨ m = 6 by omega) with rfl | rfl | rfl | rfl | rfl | rfl | rfl <;> decide
    rw [p_mot]
    by_cases q : p_hb (p_lb on nd n l0 h0 (p_mo on nd cl pl n l0 h0 li ba d v (nI k) m).1) p = 0
    · rw [if_pos q, Int64.add_zero]; omega
    · rw [if_neg q, Int64.toInt_add, Int.bmod_eq_of_le (by omega) (by omega)]; omega
def p_moT (st : Nat → Int32) (n : Nat) (v p : Int32) : Int64 := p_mot (fun i => st (2 + i)) (fun i => st (10 + i)) (fun i => st (18 + i)) (fun i => st (30 + i)) n (st 0) (st 26) (st 27) (st 1) (st 28).toNatClampNeg v p (st 29).toNatClampNeg (2 ^ (st 29).toNatClampNeg)
def p_moW (st : Nat → Int32) : Int64 := p_m10 (st 29).toNatClampNeg
def r_modds (st : Nat → Int32) (y : Int32) (n : Nat) (v p z : Int32) : Int64 := if v < 0 ∨ 10 < v then -1 else if p_in y p = 0 then -1 else if z < 0 ∨ 1 < z then -1 else if z = 0 then p_moT st n v p / p_gcd (p_moW st) (p_moT st n v p) else p_moW st / p_gcd (p_moW st) (p_moT st n v p)
def c_X6_odds : sCtr := ((yX6_odds, cX6_odds, 18, (some .long)), (7, 3, 3, 75), true,
  mdfp,
  fun vs L => ∃ (s : Nat → Int32) (A : Nat → Nat → Int32) (v p z : Int32) (m n d pl : Nat), vs = [.ref 0, .int v, .int p, .int z] ∧ L = mdW s A ∧ s 2 = nI m ∧ m ≤ 8 ∧ s 3 = nI n ∧ n ≤ 8 ∧ A 1 28 = nI d ∧ d ≤ 8 ∧ A 1 29 = nI pl ∧ pl ≤ 6,
  fun vs L r _ => r = some (.long (r_modds (bF L 1) (oI L 0 2) (oI L 0 3).toNatClampNeg (vI vs 1) (vI vs 2) (vI vs 3))))
theorem sta_X6_odds : s_Sta c_X6_odds := ⟨⟨by decide +kernel, by decide +kernel, by decide +kernel⟩, List.mem_of_getElem? (i := 1203) (by decide +kernel), List.mem_of_getElem? (i := 70) (by decide +kernel), ⟨List.mem_of_getElem? (i := 1201) (by decide +kernel), List.mem_of_getElem? (i := 1202) (by decide +kernel), Or.inl ⟨_, rfl, rfl⟩⟩⟩

def k_X6_odds : List sBk := [
  (0, false, [true, true, true, true, false, false, false, false, false, false, false, false, false, false, false, false, false, false], [o0 0 (.iload_n 1), o0 1 .i2l, oK 2 (.lconst 0) (.long 0), oV 3 (.ldc2_w 232) [1128] (.long 10), oC 6 (.invokestatic 90) [921] c_X6_in, oN 9 (.ifCond .eq 21) [1], o0 12 (.aload_n 0), o0 13 (.iload_n 2), oC 14 (.invokevirtual 192) [1035] c_X6_isOne, oN 17 (.ifCond .eq 13) [1], o0 20 (.iload_n 3), o0 21 .i2l, oK 22 (.lconst 0) (.long 0), oK 23 (.lconst 1) (.long 1), oC 24 (.invokestatic 90) [921] c_X6_in, oN 27 (.ifCond .ne 7) [2], oN 30 .nop [1]]),
  (30, false, [false, false, false, false, false, false, false, false, false, false, false, false, false, false, false, false, false, false], [oV 30 (.ldc2_w 255) [1204] (.long (-1)), o0 33 .lreturn]),
  (34, false, [true, true, true, true, false, false, false, false, false, false, false, false, false, false, false, false, false, false], [o0 34 (.aload_n 0), oN 35 (.getfield 7) [6, 0, 822], oK 38 (.bipush 29) (.int 29), o0 40 .iaload, o0 41 (.istore 4), oK 43 (.lconst 0) (.long 0), o0 44 (.lstore 5), oK 46 (.lconst 1) (.long 1), o0 47 (.lstore 7), oK 49 (.iconst 0) (.int 0), o0 50 (.istore 9), oN 52 .nop [3]]),
  (52, true, [true, true, true, true, true, true, false, true, false, true, false, false, false, false, false, false, false, false], [o0 52 (.iload 9), o0 54 (.iload 4), oN 56 (.if_icmp .ge 17) [4], o0 59 (.lload 7), oV 61 (.ldc2_w 232) [1128] (.long 10), o0 64 .lmul, o0 65 (.lstore 7), oK 67 (.iinc 9 1) (.int 1), oN 70 (.goto (-18)) [3]]),
  (73, false, [true, true, true, true, true, true, false, true, false, false, false, false, false, false, false, false, false, false], [oK 73 (.iconst 0) (.int 0), o0 74 (.istore 9), oN 76 .nop [5]]),
  (76, true, [true, true, true, true, true, true, false, true, false, true, false, false, false, false, false, false, false, false], [o0 76 (.iload 9), oK 78 (.iconst 1) (.int 1), o0 79 (.iload 4), o0 81 .ishl, oN 82 (.if_icmp .ge 199) [21], o0 85 (.aload_n 0), oN 86 (.getfield 7) [6, 0, 822], oK 89 (.bipush 26) (.int 26), o0 91 .iaload, o0 92 (.istore 10), oK 94 (.lconst 1) (.long 1), o0 95 (.lstore 11), oK 97 (.iconst 0) (.int 0), o0 98 (.istore 13), oN 100 .nop [6]]),
  (100, true, [true, true, true, true, true, true, false, true, false, true, true, true, false, true, false, false, false, false], [o0 100 (.iload 13), o0 102 (.iload 4), oN 104 (.if_icmp .ge 146) [18], o0 107 (.aload_n 0), oN 108 (.getfield 7) [6, 0, 822], oK 111 (.bipush 30) (.int 30), o0 113 (.iload 13), o0 115 .iadd, o0 116 .iaload, o0 117 (.istore 14), o0 119 (.iload 9), o0 121 (.iload 13), o0 123 .ishr, oK 124 (.iconst 1) (.int 1), o0 125 .iand, oK 126 (.iconst 1) (.int 1), oN 127 (.if_icmp .ne 7) [7], oK 130 (.iconst 1) (.int 1), oN 131 (.goto 4) [8]]),
  (134, false, [true, true, true, true, true, true, false, true, false, true, true, true, false, true, true, false, false, false], [oK 134 (.iconst 0) (.int 0), oN 135 .nop [8]]),
  (135, false, [true, true, true, true, true, true, false, true, false, true, true, true, false, true, true, false, false, false], [o0 135 (.istore 15), o0 137 (.iload 10), o0 139 (.iload 14), o0 141 .ishr, oK 142 (.iconst 1) (.int 1), o0 143 .iand, oN 144 (.ifCond .ne 7) [9], oK 147 (.iconst 1) (.int 1), oN 148 (.goto 4) [10]]),
  (151, false, [true, true, true, true, true, true, false, true, false, true, true, true, false, true, true, true, false, false], [oK 151 (.iconst 0) (.int 0), oN 152 .nop [10]]),
  (152, false, [true, true, true, true, true, true, false, true, false, true, true, true, false, true, true, true, false, false], [o0 152 (.istore 16), o0 154 (.iload 16), oN 156 (.ifCond .eq 43) [12], o0 159 (.iload 15), oN 161 (.ifCond .ne 34) [11], o0 164 (.aload_n 0), o0 165 (.iload 14), o0 167 (.iload 10), o0 169 (.aload_n 0), o0 170 (.iload 10), oC 172 (.invokevirtual 225) [1134] c_X6_livingBy, o0 175 (.aload_n 0), oN 176 (.getfield 7) [6, 0, 822], oK 179 (.bipush 28) (.int 28), o0 181 .iaload, o0 182 (.aload_n 0), oN 183 (.getfield 7) [6, 0, 822], oK 186 (.bipush 27) (.int 27), o0 188 .iaload, oC 189 (.invokevirtual 212) [1092] c_X6_refusal, oN 192 (.ifCond .ne 7) [12], oN 195 .nop [11]]),
  (195, false, [true, true, true, true, true, true, false, true, false, true, true, true, false, true, true, true, false, false], [oK 195 (.iconst 1) (.int 1), oN 196 (.goto 4) [13]]),
  (199, false, [true, true, true, true, true, true, false, true, false, true, true, true, false, true, true, true, false, false], [oK 199 (.iconst 0) (.int 0), oN 200 .nop [13]]),
  (200, false, [true, true, true, true, true, true, false, true, false, true, true, true, false, true, true, true, false, false], [o0 200 (.istore 17), o0 202 (.lload 11), o0 204 (.iload 15), oN 206 (.ifCond .eq 8) [14], o0 209 (.iload_n 1), o0 210 .i2l, oN 211 (.goto 8) [15]]),
  (214, false, [true, true, true, true, true, true, false, true, false, true, true, false, false, true, true, false, false, true], [oK 214 (.bipush 10) (.int 10), o0 216 (.iload_n 1), o0 217 .isub, o0 218 .i2l, oN 219 .nop [15]]),
  (219, false, [true, true, true, true, true, true, false, true, false, true, true, false, false, true, true, false, false, true], [o0 219 .lmul, o0 220 (.lstore 11), o0 222 (.iload 10), o0 224 (.iload 17), oN 226 (.ifCond .eq 14) [16], o0 229 (.aload_n 0), oK 230 (.iconst 1) (.int 1), o0 231 (.iload 14), o0 233 .ishl, oC 234 (.invokevirtual 189) [1019] c_X6_follow, oN 237 (.goto 4) [17]]),
  (240, false, [true, true, true, true, true, true, false, true, false, true, false, true, false, true, false, false, false, false], [oK 240 (.iconst 0) (.int 0), oN 241 .nop [17]]),
  (241, false, [true, true, true, true, true, true, false, true, false, true, false, true, false, true, false, false, false, false], [o0 241 .ior, o0 242 (.istore 10), oK 244 (.iinc 13 1) (.int 1), oN 247 (.goto (-147)) [6]]),
  (250, false, [true, true, true, true, true, true, false, true, false, true, true, true, false, false, false, false, false, false], [o0 250 (.lload 5), o0 252 (.aload_n 0), o0 253 (.iload 10), oC 255 (.invokevirtual 225) [1134] c_X6_livingBy, o0 258 (.iload_n 2), o0 259 .ishr, oK 260 (.iconst 1) (.int 1), o0 261 .iand, oK 262 (.iconst 1) (.int 1), oN 263 (.if_icmp .ne 8) [19], o0 266 (.lload 11), oN 268 (.goto 4) [20]]),
  (271, false, [true, true, true, true, true, false, false, true, false, true, false, false, false, false, false, false, false, false], [oK 271 (.lconst 0) (.long 0), oN 272 .nop [20]]),
  (272, false, [true, true, true, true, true, false, false, true, false, true, false, false, false, false, false, false, false, false], [o0 272 .ladd, o0 273 (.lstore 5), oK 275 (.iinc 9 1) (.int 1), oN 278 (.goto (-202)) [5]]),
  (281, false, [false, false, false, true, false, true, false, true, false, false, false, false, false, false, false, false, false, false], [o0 281 (.lload 7), o0 283 (.lload 5), oC 285 (.invokestatic 257) [1205] c_X6_common, o0 288 (.lstore 9), o0 290 (.iload_n 3), oN 291 (.ifCond .ne 11) [22], o0 294 (.lload 5), o0 296 (.lload 9), o0 298 .ldiv, oN 299 (.goto 8) [23]]),
  (302, false, [false, false, false, false, false, false, false, true, false, true, false, false, false, false, false, false, false, false], [o0 302 (.lload 7), o0 304 (.lload 9), o0 306 .ldiv, oN 307 .nop [23]]),
  (307, false, [false, false, false, false, false, false, false, false, false, false, false, false, false, false, false, false, false, false], [o0 307 .lreturn])]
set_option maxRecDepth 100000 in
theorem ck_X6_odds : s_ck RX6 cX6_odds 18 3 75 k_X6_odds = true := by decide +kernel

set_option maxRecDepth 100000 in
set_option maxHeartbeats 1000000 in
theorem ok_X6_odds : s_Ok c_X6_odds := by
  refine s_ok_of k_X6_odds (by decide +kernel) sta_X6_odds ck_X6_odds (And.intro ok_X6_in (And.intro ok_X6_isOne (And.intro ok_X6_in (And.intro ok_X6_livingBy (And.intro ok_X6_refusal (And.intro ok_X6_follow (And.intro ok_X6_livingBy (And.intro ok_X6_common trivial)))))))) ?_
  rintro vs L ⟨s, A, v, p, z, m, n, d, pl, rfl, rfl, hm, hm8, hn, hn8, hd, hd8, hp, hp6⟩
  refine ⟨rfl, fun G hG => ?_⟩
  have e3 : (s 3).toNatClampNeg = n := by rw [hn, nI_clamp (by omega)]
  have ed : (A 1 28).toNatClampNeg = d := by rw [hd, nI_clamp (by omega)]
  have ep : (A 1 29).toNatClampNeg = pl := by rw [hp, nI_clamp (by omega)]
  have h2p : 2 ^ pl ≤ 64 := Nat.pow_le_pow_right (n := 2) (by omega) hp6
  have fin : ∀ a : Int64, a = r_modds (A 1) (s 2) n v p z → s_PP (some .long) true c_X6_odds.2.2.2.2.2 [.ref 0, .int v, .int p, .int z] (mdW s A) (some (.long a)) (mdW s A) := fun a ha => ⟨rfl, by rw [ha, ← e3]; rfl, fun _ => rfl⟩
  refine hG 0 _ _ _ (And.intro ⟨_, _, _, rfl⟩ ?_)
  intro r hr
  obtain ⟨b, hb⟩ : ∃ b, b = p_in64 v.toInt64 0 (10 : Int32).toInt64 := ⟨_, rfl⟩
  obtain rfl : r = some (.int b) := by rw [hb]; exact hr
  refine And.intro (fun h => ?_) (fun h => ?_)
  · have h : v < 0 ∨ 10 < v := (p_rng _ _).mp (hb.symm.trans h)
    exact fin _ (by rw [r_modds, if_pos h])
  have h : ¬ (v < 0 ∨ 10 < v) := fun q => h (hb.trans ((p_rng _ _).mpr q))
  refine And.intro ⟨s, A, p, m, rfl, rfl, hm, hm8⟩ ?_
  intro r hr
  obtain rfl : r = some (.int (p_in (s 2) p)) := hr
  refine And.intro (fun h2 => ?_) (fun h2 => ?_)
  · exact fin _ (by rw [r_modds, if_neg h, if_pos h2])
  refine And.intro ⟨_, _, _, rfl⟩ ?_
  intro r hr
  obtain ⟨b2, hb2⟩ : ∃ b, b = p_in64 z.toInt64 0 (1 : Int32).toInt64 := ⟨_, rfl⟩
  obtain rfl : r = some (.int b2) := by rw [hb2]; exact hr
  refine And.intro (fun h3 => ?_) (fun h3 => ?_)
  · have h3 : z < 0 ∨ 1 < z := (p_rng _ _).mp (hb2.symm.trans h3)
    exact fin _ (by rw [r_modds, if_neg h, if_neg h2, if_pos h3])
  have h3 : ¬ (z < 0 ∨ 1 < z) := fun q => h3 (hb2.trans ((p_rng _ _).mpr q))
  obtain ⟨on, hon⟩ : ∃ on, on = fun i => A 1 (2 + i) := ⟨_, rfl⟩
  obtain ⟨nd, hnd⟩ : ∃ nd, nd = fun i => A 1 (10 + i) := ⟨_, rfl⟩
  obtain ⟨cl, hcl⟩ : ∃ cl, cl = fun i => A 1 (18 + i) := ⟨_, rfl⟩
  obtain ⟨pn, hpn⟩ : ∃ pn, pn = fun i => A 1 (30 + i) := ⟨_, rfl⟩
  have hT : p_moT (A 1) n v p = p_mot on nd cl pn n (A 1 0) (A 1 26) (A 1 27) (A 1 1) d v p pl (2 ^ pl) := by rw [p_moT, ed, ep, hon, hnd, hcl, hpn]
  have hW : p_moW (A 1) = p_m10 pl := by rw [p_moW, ep]
  have lb : ∀ (x : Int32) (r : Option Value), r = some (.int (p_lbM s A x)) → r = some (.int (p_lb on nd n (A 1 0) (A 1 26) x)) := fun x r h => by rw [h, p_lbM, e3, hon, hnd]; rfl
  have l6 : ∀ (T W : Int64) (gx : Int32), (∀ T2 : Int64, T2 = T + (if p_hb (p_lb on nd n (A 1 0) (A 1 26) (p_mo on nd cl pn n (A 1 0) (A 1 26) (A 1 27) (A 1 1) d v gx pl).1) p = 0 then 0 else (p_mo on nd cl pn n (A 1 0) (A 1 26) (A 1 27) (A 1 1) d v gx pl).2) → G 5 [some (.ref 0), some (.int v), some (.int p), some (.int z), some (.int (A 1 29)), some (.long T2), none, some (.long W), none, some (.int (gx + 1)), none, none, none, none, none, none, none, none] [] (mdW s A)) → ∀ (k i : Nat) (x h1 : Int32) (wt : Int64), i + k = pl → x = nI i → (h1, wt) = p_mo on nd cl pn n (A 1 0) (A 1 26) (A 1 27) (A 1 1) d v gx i → G 6 [some (.ref 0), some (.int v), some (.int p), some (.int z), some (.int (A 1 29)), some (.long T), none, some (.long W), none, some (.int gx), some (.int h1), some (.long wt), none, some (.int x), none, none, none, none] [] (mdW s A) := by
    intro T W gx next k
    induction k with
    | zero =>
      intro i x h1 wt hi hx ha
      have ha2 : p_mo on nd cl pn n (A 1 0) (A 1 26) (A 1 27) (A 1 1) d v gx pl = (h1, wt) := by rw [ha, show i = pl by omega]
      rw [ha2] at next
      refine hG 6 _ _ _ (And.intro (fun q => ?_) (fun q => ?_))
      · have q : x < A 1 29 := q
        rw [hx, hp, nI_ltI (by omega) (by omega)] at q; omega
      · refine And.intro ⟨s, A, h1, n, rfl, rfl, hn, hn8⟩ ?_
        intro r hr
        obtain ⟨l, hl⟩ : ∃ l, l = p_lb on nd n (A 1 0) (A 1 26) h1 := ⟨_, rfl⟩
        obtain rfl : r = some (.int l) := by rw [hl]; exact lb _ _ hr
        refine And.intro (fun h4 => ?_) (fun h4 => ?_)
        · have h4 : ¬ p_hb l p = 0 := fun q => p_hb_0.mp q h4
          exact next _ (by show _ = T + (if p_hb (p_lb on nd n (A 1 0) (A 1 26) h1) p = 0 then 0 else wt); rw [← hl, if_neg h4])
        · have h4 : p_hb l p = 0 := p_hb_0.mpr h4
          exact next _ (by show _ = T + (if p_hb (p_lb on nd n (A 1 0) (A 1 26) h1) p = 0 then 0 else wt); rw [← hl, if_pos h4])
    | succ k ih =>
      intro i x h1 wt hi hx ha
      have nx : ∀ (h5 : Int32) (w5 : Int64), h5 = p_moh on nd cl n (A 1 0) (A 1 26) (A 1 27) (A 1 1) d gx (pn i) i h1 → w5 = wt * p_mof gx v i → G 6 [some (.ref 0), some (.int v), some (.int p), some (.int z), some (.int (A 1 29)), some (.long T), none, some (.long W), none, some (.int gx), some (.int h5), some (.long w5), none, some (.int (x + 1)), none, none, none, none] [] (mdW s A) := fun h5 w5 hh hw => ih (i + 1) _ _ _ (by omega) (by rw [hx, nI_1]) (by rw [p_mo, ← ha, hh, hw])
      have e : (30 : Int32) + x = nI (30 + i) := by rw [hx]; exact nI_add 30 i
      have hfo : ∀ (x : Int32) (r : Option Value), r = some (.int (p_fw (fun i => A 1 (10 + i)) (s 3).toNatClampNeg x)) → r = some (.int (p_fw nd n x)) := fun x r h => by rw [h, e3, hnd]
      obtain ⟨w, hw⟩ : ∃ w, w = pn i := ⟨_, rfl⟩
      have hw2 : A 1 ((30 : Int32) + x).toNatClampNeg = w := by rw [hw, e, nI_clamp (by omega), hpn]
      refine hG 6 _ _ _ (And.intro (fun q => ?_) (fun q => ?_))
      · refine And.intro ?_ ?_
        · show vp_in ((30 : Int32) + x) 159
          rw [e]; exact vi159 _ (by omega)
        have h1w : ∀ u : Int32, (h1 >>> (A 1 ((30 : Int32) + x).toNatClampNeg &&& 31)) &&& 1 = u → p_hb h1 w = u := fun u q => by rw [hw2] at q; rw [← p_hb_v]; exact q
        have h1n : ¬ (h1 >>> (A 1 ((30 : Int32) + x).toNatClampNeg &&& 31)) &&& 1 = 0 → ¬ p_hb h1 w = 0 := fun q => by rw [hw2] at q; rw [← p_hb_v]; exact q
        refine And.intro (fun h5 => ?_) (fun h5 => ?_)
        · have h5 : ¬ p_hb gx (nI i) = 0 := by rw [← hx]; exact fun q => p_hb_0.mp q h5
          refine And.intro (fun h6 => ?_) (fun h6 => ?_)
          · have h6 : p_hb h1 w = 0 := h1w 0 h6
            refine And.intro (fun z => absurd z (by decide)) (fun _ => ?_)
            refine And.intro (fun z => absurd z (by decide)) (fun _ => ?_)
            refine And.intro (fun z => absurd z (by decide)) (fun _ => ?_)
            refine And.intro (fun z => absurd z (by decide)) (fun _ => ?_)
            refine And.intro ⟨s, A, _, n, rfl, rfl, hn, hn8⟩ ?_
            intro r hr
            obtain ⟨o, ho⟩ : ∃ o, o = p_fw nd n ((1 : Int32) <<< (w &&& 31)) := ⟨_, rfl⟩
            obtain rfl : r = some (.int o) := by rw [ho, ← hw2]; exact hfo _ _ hr
            exact nx _ _ (by rw [p_moh, ← hw, if_pos h6, if_neg h5, ho]) (by rw [p_mof, if_neg h5])
          · have h6 : ¬ p_hb h1 w = 0 := h1n h6
            refine And.intro (fun _ => ?_) (fun q => absurd rfl q)
            refine And.intro (fun z => absurd z (by decide)) (fun _ => ?_)
            refine And.intro (fun _ => ?_) (fun q => absurd rfl q)
            exact nx _ _ (by rw [p_moh, ← hw, if_neg h6, p_or0]) (by rw [p_mof, if_neg h5])
        · have h5 : p_hb gx (nI i) = 0 := by rw [← hx]; exact p_hb_0.mpr h5
          refine And.intro (fun h6 => ?_) (fun h6 => ?_)
          · have h6 : p_hb h1 w = 0 := h1w 0 h6
            refine And.intro (fun z => absurd z (by decide)) (fun _ => ?_)
            refine And.intro (fun _ => ?_) (fun q => absurd rfl q)
            refine And.intro ⟨s, A, h1, n, rfl, rfl, hn, hn8⟩ ?_
            intro r hr
            obtain ⟨l, hl⟩ : ∃ l, l = p_lb on nd n (A 1 0) (A 1 26) h1 := ⟨_, rfl⟩
            obtain rfl : r = some (.int l) := by rw [hl]; exact lb _ _ hr
            refine And.intro (vi159 28 (by omega)) (And.intro (vi159 27 (by omega)) (And.intro ⟨s, A, _, _, _, _, _, n, d, rfl, rfl, hn, hn8, hd, hd8⟩ ?_))
            intro r hr
            obtain ⟨re, hre⟩ : ∃ re, re = p_re on nd cl n (A 1 27) (A 1 1) w h1 l d := ⟨_, rfl⟩
            obtain rfl : r = some (.int re) := by
              have h7 : r = some (.int (p_re (fun i => A 1 (2 + i)) (fun i => A 1 (10 + i)) (fun i => A 1 (18 + i)) (s 3).toNatClampNeg (A 1 27) (A 1 1) (A 1 ((30 : Int32) + x).toNatClampNeg) h1 l (A 1 28).toNatClampNeg)) := hr
              rw [h7, hre, hon, hnd, hcl, e3, ed, hw2]
            refine And.intro (fun h7 => ?_) (fun h7 => ?_)
            · have h7 : re = 0 := h7
              refine And.intro (fun _ => ?_) (fun q => absurd rfl q)
              refine And.intro (fun z => absurd z (by decide)) (fun _ => ?_)
              refine And.intro ⟨s, A, _, n, rfl, rfl, hn, hn8⟩ ?_
              intro r hr
              obtain ⟨o, ho⟩ : ∃ o, o = p_fw nd n ((1 : Int32) <<< (w &&& 31)) := ⟨_, rfl⟩
              obtain rfl : r = some (.int o) := by rw [ho, ← hw2]; exact hfo _ _ hr
              exact nx _ _ (by rw [p_moh, ← hw, if_pos h6, if_pos h5, ← hl, ← hre, if_pos h7, ho]) (by rw [p_mof, if_pos h5])
            · have h7 : ¬ re = 0 := h7
              refine And.intro (fun _ => ?_) (fun q => absurd rfl q)
              refine And.intro (fun _ => ?_) (fun q => absurd rfl q)
              exact nx _ _ (by rw [p_moh, ← hw, if_pos h6, if_pos h5, ← hl, ← hre, if_neg h7, p_or0]) (by rw [p_mof, if_pos h5])
          · have h6 : ¬ p_hb h1 w = 0 := h1n h6
            refine And.intro (fun _ => ?_) (fun q => absurd rfl q)
            refine And.intro (fun _ => ?_) (fun q => absurd rfl q)
            refine And.intro (fun _ => ?_) (fun q => absurd rfl q)
            exact nx _ _ (by rw [p_moh, ← hw, if_neg h6, p_or0]) (by rw [p_mof, if_pos h5])
      · have q : ¬ x < A 1 29 := q
        rw [hx, hp, nI_ltI (by omega) (by omega)] at q; omega
  have hTB := p_motB h on nd cl pn n (A 1 0) (A 1 26) (A 1 27) (A 1 1) d p pl hp6 (2 ^ pl) h2p
  have hWB := p_m10_pos pl hp6
  have hgn := p_gcd_ne (a := p_m10 pl) (b := p_mot on nd cl pn n (A 1 0) (A 1 26) (A 1 27) (A 1 1) d v p pl (2 ^ pl)) hWB
  have l5 : ∀ (k j : Nat) (gx : Int32) (T : Int64), j + k = 2 ^ pl → gx = nI j → T = p_mot on nd cl pn n (A 1 0) (A 1 26) (A 1 27) (A 1 1) d v p pl j → G 5 [some (.ref 0), some (.int v), some (.int p), some (.int z), some (.int (A 1 29)), some (.long T), none, some (.long (p_m10 pl)), none, some (.int gx), none, none, none, none, none, none, none, none] [] (mdW s A) := by
    intro k
    induction k with
    | zero =>
      intro j gx T hj hg hT2
      have hT3 : T = p_mot on nd cl pn n (A 1 0) (A 1 26) (A 1 27) (A 1 1) d v p pl (2 ^ pl) := by rw [hT2, show j = 2 ^ pl by omega]
      rw [← hT3] at hTB hgn hT
      refine hG 5 _ _ _ (And.intro (fun q => ?_) (fun q => ?_))
      · have q : gx < (1 : Int32) <<< (A 1 29 &&& 31) := q
        rw [hg, hp, p_2n pl (by omega), nI_ltI (by omega) (by omega)] at q; omega
      · refine And.intro ⟨p_m10 pl, T, rfl, by omega, hTB.1⟩ ?_
        intro r hr
        obtain rfl : r = some (.long (p_gcd (p_m10 pl) T)) := hr
        refine And.intro (fun h4 => ?_) (fun h4 => ?_)
        · exact And.intro hgn (fin _ (by rw [r_modds, if_neg h, if_neg h2, if_neg h3, if_pos h4, hT, hW]))
        · exact And.intro hgn (fin _ (by rw [r_modds, if_neg h, if_neg h2, if_neg h3, if_neg h4, hT, hW]))
    | succ k ih =>
      intro j gx T hj hg hT2
      refine hG 5 _ _ _ (And.intro (fun q => ?_) (fun q => ?_))
      · exact And.intro (vi159 26 (by omega)) (l6 T _ gx (fun T2 h4 => ih (j + 1) _ _ (by omega) (by rw [hg, nI_1]) (by rw [h4, hT2, p_mot, hg])) pl 0 0 (A 1 26) 1 (by omega) nI_0.symm rfl)
      · have q : ¬ gx < (1 : Int32) <<< (A 1 29 &&& 31) := q
        rw [hg, hp, p_2n pl (by omega), nI_ltI (by omega) (by omega)] at q; omega
  have l3 : ∀ (k i : Nat) (x : Int32) (W : Int64), i + k = pl → x = nI i → W = p_m10 i → G 3 [some (.ref 0), some (.int v), some (.int p), some (.int z), some (.int (A 1 29)), some (.long 0), none, some (.long W), none, some (.int x), none, none, none, none, none, none, none, none] [] (mdW s A) := by
    intro k
    induction k with
    | zero =>
      intro i x W hi hx hW2
      refine hG 3 _ _ _ (And.intro (fun q => ?_) (fun q => ?_))
      · have q : x < A 1 29 := q
        rw [hx, hp, nI_ltI (by omega) (by omega)] at q; omega
      · rw [hW2, show i = pl by omega]
        exact l5 (2 ^ pl) 0 0 0 (by omega) nI_0.symm rfl
    | succ k ih =>
      intro i x W hi hx hW2
      refine hG 3 _ _ _ (And.intro (fun q => ?_) (fun q => ?_))
      · exact ih (i + 1) _ _ (by omega) (by rw [hx, nI_1]) (by rw [hW2, p_m10])
      · have q : ¬ x < A 1 29 := q
        rw [hx, hp, nI_ltI (by omega) (by omega)] at q; omega
  exact And.intro (vi159 29 (by omega)) (l3 pl 0 0 1 (by omega) nI_0.symm rfl)
end
section
/-! ===== WishClerkModel: reading the text, first part ===== -/
def p_mlk (ta : Nat → Int32) (ln i : Int32) : Int32 := if i < ln then ta i.toNatClampNeg else -1
def c_X6_look : sCtr := ((yX6_look, cX6_look, 2, (some .int)), (7, 1, 0, 0), true,
  mdfp,
  fun vs L => ∃ (s : Nat → Int32) (A : Nat → Nat → Int32) (i : Int32) (j t : Nat), vs = [.ref 0, .int i] ∧ L = mdW s A ∧ i = nI j ∧ j < 1000 ∧ s 15 = nI t ∧ t ≤ 160,
  fun vs L r _ => r = some (.int (p_mlk (bF L 8) (oI L 0 15) (vI vs 1))))
theorem sta_X6_look : s_Sta c_X6_look := ⟨⟨by decide +kernel, by decide +kernel, by decide +kernel⟩, List.mem_of_getElem? (i := 939) (by decide +kernel), List.mem_of_getElem? (i := 70) (by decide +kernel), ⟨List.mem_of_getElem? (i := 938) (by decide +kernel), List.mem_of_getElem? (i := 30) (by decide +kernel), Or.inl ⟨_, rfl, rfl⟩⟩⟩

def k_X6_look : List sBk := [
  (0, false, [true, true], [o0 0 (.iload_n 1), o0 1 (.aload_n 0), oN 2 (.getfield 94) [6, 15, 837], oN 5 (.if_icmp .ge 12) [1], o0 8 (.aload_n 0), oN 9 (.getfield 32) [6, 14, 836], o0 12 (.iload_n 1), o0 13 .iaload, oN 14 (.goto 4) [2]]),
  (17, false, [false, false], [oK 17 (.iconst (-1)) (.int (-1)), oN 18 .nop [2]]),
  (18, false, [false, false], [o0 18 .ireturn])]
set_option maxRecDepth 100000 in
theorem ck_X6_look : s_ck RX6 cX6_look 2 0 0 k_X6_look = true := by decide +kernel

set_option maxRecDepth 100000 in
set_option maxHeartbeats 1000000 in
theorem ok_X6_look : s_Ok c_X6_look := by
  refine s_ok_of k_X6_look (by decide +kernel) sta_X6_look ck_X6_look trivial ?_
  rintro vs L ⟨s, A, i, j, t, rfl, rfl, hi, hj, ht, ht2⟩
  refine ⟨rfl, fun G hG => ?_⟩
  have fin : ∀ a : Int32, a = p_mlk (A 8) (s 15) i → s_PP (some .int) true c_X6_look.2.2.2.2.2 [.ref 0, .int i] (mdW s A) (some (.int a)) (mdW s A) := fun a ha => ⟨rfl, by rw [ha]; rfl, fun _ => rfl⟩
  refine hG 0 _ _ _ (And.intro (fun h => ?_) (fun h => ?_))
  · have h : i < s 15 := h
    refine And.intro ?_ (fin _ (by rw [p_mlk, if_pos h]))
    show vp_in i 160
    rw [hi, ht, nI_ltI (by omega) (by omega)] at h
    rw [hi]; exact vp_in_nI (by omega) (by omega)
  · have h : ¬ i < s 15 := h
    exact fin _ (by rw [p_mlk, if_neg h])
def q_mmust (s : Nat → Int32) (b f : Int32) : Nat → Int32 := fun j => if b = 0 then (if s 20 = 0 then upd (upd s 20 f) 21 (s 17) j else s j) else s j
def p_miz (ta : Nat → Int32) (ln e u len a b c : Int32) : Int32 := if e - u = len then (if p_mlk ta ln u = a then (if p_mlk ta ln (u + 1) = b then (if p_mlk ta ln (u + 2) = c then 1 else 0) else 0) else 0) else 0
def c_X6_is : sCtr := ((yX6_is, cX6_is, 5, (some .boolean)), (7, 4, 1, 21), true,
  mdfp,
  fun vs L => ∃ (s : Nat → Int32) (A : Nat → Nat → Int32) (len a b c : Int32) (u t : Nat), vs = [.ref 0, .int len, .int a, .int b, .int c] ∧ L = mdW s A ∧ s 17 = nI u ∧ u ≤ 200 ∧ s 15 = nI t ∧ t ≤ 160,
  fun vs L r _ => r = some (.int (p_miz (bF L 8) (oI L 0 15) (oI L 0 16) (oI L 0 17) (vI vs 1) (vI vs 2) (vI vs 3) (vI vs 4))))
theorem sta_X6_is : s_Sta c_X6_is := ⟨⟨by decide +kernel, by decide +kernel, by decide +kernel⟩, List.mem_of_getElem? (i := 959) (by decide +kernel), List.mem_of_getElem? (i := 70) (by decide +kernel), ⟨List.mem_of_getElem? (i := 958) (by decide +kernel), List.mem_of_getElem? (i := 34) (by decide +kernel), Or.inl ⟨_, rfl, rfl⟩⟩⟩

def k_X6_is : List sBk := [
  (0, false, [true, true, true, true, true], [o0 0 (.aload_n 0), oN 1 (.getfield 106) [6, 16, 838], o0 4 (.aload_n 0), oN 5 (.getfield 100) [6, 17, 839], o0 8 .isub, o0 9 (.iload_n 1), oN 10 (.if_icmp .ne 48) [1], o0 13 (.aload_n 0), o0 14 (.aload_n 0), oN 15 (.getfield 100) [6, 17, 839], oC 18 (.invokevirtual 109) [936] c_X6_look, o0 21 (.iload_n 2), oN 22 (.if_icmp .ne 36) [1], o0 25 (.aload_n 0), o0 26 (.aload_n 0), oN 27 (.getfield 100) [6, 17, 839], oK 30 (.iconst 1) (.int 1), o0 31 .iadd, oC 32 (.invokevirtual 109) [936] c_X6_look, o0 35 (.iload_n 3), oN 36 (.if_icmp .ne 22) [1], o0 39 (.aload_n 0), o0 40 (.aload_n 0), oN 41 (.getfield 100) [6, 17, 839], oK 44 (.iconst 2) (.int 2), o0 45 .iadd, oC 46 (.invokevirtual 109) [936] c_X6_look, o0 49 (.iload 4), oN 51 (.if_icmp .ne 7) [1], oK 54 (.iconst 1) (.int 1), oN 55 (.goto 4) [2]]),
  (58, false, [false, false, false, false, false], [oK 58 (.iconst 0) (.int 0), oN 59 .nop [2]]),
  (59, false, [false, false, false, false, false], [o0 59 .ireturn])]
set_option maxRecDepth 100000 in
theorem ck_X6_is : s_ck RX6 cX6_is 5 1 21 k_X6_is = true := by decide +kernel

set_option maxRecDepth 100000 in
set_option maxHeartbeats 1000000 in
theorem ok_X6_is : s_Ok c_X6_is := by
  refine s_ok_of k_X6_is (by decide +kernel) sta_X6_is ck_X6_is (And.intro ok_X6_look (And.intro ok_X6_look (And.intro ok_X6_look trivial))) ?_
  rintro vs L ⟨s, A, len, a, b, c, u, t, rfl, rfl, hu, hu2, ht, ht2⟩
  refine ⟨rfl, fun G hG => ?_⟩
  have fin : ∀ o : Int32, o = 0 ∨ o = 1 → o = p_miz (A 8) (s 15) (s 16) (s 17) len a b c → (o = 0 ∨ o = 1) ∧ s_PP (some .boolean) true c_X6_is.2.2.2.2.2 [.ref 0, .int len, .int a, .int b, .int c] (mdW s A) (some (.int o)) (mdW s A) := fun o h01 ho => ⟨h01, rfl, by rw [ho]; rfl, fun _ => rfl⟩
  have ex : ∀ k : Nat, s 17 + nI k = nI (u + k) := fun k => by rw [hu, nI_add]
  refine hG 0 _ _ _ (And.intro (fun h => ?_) (fun h => ?_))
  · have h : s 16 - s 17 = len := h
    refine And.intro ⟨s, A, _, u, t, rfl, rfl, hu, by omega, ht, ht2⟩ ?_
    intro r hr
    obtain ⟨x1, hx1⟩ : ∃ x, x = p_mlk (A 8) (s 15) (s 17) := ⟨_, rfl⟩
    obtain rfl : r = some (.int x1) := by rw [hx1]; exact hr
    refine And.intro (fun h1 => ?_) (fun h1 => ?_)
    · have h1 : x1 = a := h1
      refine And.intro ⟨s, A, _, u + 1, t, rfl, rfl, ex 1, by omega, ht, ht2⟩ ?_
      intro r hr
      obtain ⟨x2, hx2⟩ : ∃ x, x = p_mlk (A 8) (s 15) (s 17 + 1) := ⟨_, rfl⟩
      obtain rfl : r = some (.int x2) := by rw [hx2]; exact hr
      refine And.intro (fun h2 => ?_) (fun h2 => ?_)
      · have h2 : x2 = b := h2
        refine And.intro ⟨s, A, _, u + 2, t, rfl, rfl, ex 2, by omega, ht, ht2⟩ ?_
        intro r hr
        obtain ⟨x3, hx3⟩ : ∃ x, x = p_mlk (A 8) (s 15) (s 17 + 2) := ⟨_, rfl⟩
        obtain rfl : r = some (.int x3) := by rw [hx3]; exact hr
        refine And.intro (fun h3 => ?_) (fun h3 => ?_)
        · have h3 : x3 = c := h3
          exact fin _ (Or.inr rfl) (by rw [p_miz, if_pos h, ← hx1, if_pos h1, ← hx2, if_pos h2, ← hx3, if_pos h3])
        · have h3 : ¬ x3 = c := h3
          exact fin _ (Or.inl rfl) (by rw [p_miz, if_pos h, ← hx1, if_pos h1, ← hx2, if_pos h2, ← hx3, if_neg h3])
      · have h2 : ¬ x2 = b := h2
        exact fin _ (Or.inl rfl) (by rw [p_miz, if_pos h, ← hx1, if_pos h1, ← hx2, if_neg h2])
    · have h1 : ¬ x1 = a := h1
      exact fin _ (Or.inl rfl) (by rw [p_miz, if_pos h, ← hx1, if_neg h1])
  · have h : ¬ s 16 - s 17 = len := h
    exact fin _ (Or.inl rfl) (by rw [p_miz, if_neg h])
end
section
/-! ===== WishClerkModel: reading the text, words ===== -/
theorem s_let {C R : Prop} (f : C → R) (c : C) : R := f c
def p_mez1 (ta : Nat → Int32) (ln u c : Int32) : Int32 := if c = 0 then 1 else if p_mlk ta ln (u + 5) = c then 1 else 0
def p_mez (ta : Nat → Int32) (ln u a b c : Int32) : Int32 := if p_mlk ta ln (u + 3) = a then (if b = 0 then p_mez1 ta ln u c else if p_mlk ta ln (u + 4) = b then p_mez1 ta ln u c else 0) else 0
def c_X6_ends : sCtr := ((yX6_ends, cX6_ends, 4, (some .boolean)), (7, 3, 1, 21), true,
  mdfp,
  fun vs L => ∃ (s : Nat → Int32) (A : Nat → Nat → Int32) (a b c : Int32) (u t : Nat), vs = [.ref 0, .int a, .int b, .int c] ∧ L = mdW s A ∧ s 17 = nI u ∧ u ≤ 200 ∧ s 15 = nI t ∧ t ≤ 160,
  fun vs L r _ => r = some (.int (p_mez (bF L 8) (oI L 0 15) (oI L 0 17) (vI vs 1) (vI vs 2) (vI vs 3))))
theorem sta_X6_ends : s_Sta c_X6_ends := ⟨⟨by decide +kernel, by decide +kernel, by decide +kernel⟩, List.mem_of_getElem? (i := 963) (by decide +kernel), List.mem_of_getElem? (i := 70) (by decide +kernel), ⟨List.mem_of_getElem? (i := 962) (by decide +kernel), List.mem_of_getElem? (i := 35) (by decide +kernel), Or.inl ⟨_, rfl, rfl⟩⟩⟩

def k_X6_ends : List sBk := [
  (0, false, [true, true, true, true], [o0 0 (.aload_n 0), o0 1 (.aload_n 0), oN 2 (.getfield 100) [6, 17, 839], oK 5 (.iconst 3) (.int 3), o0 6 .iadd, oC 7 (.invokevirtual 109) [936] c_X6_look, o0 10 (.iload_n 1), oN 11 (.if_icmp .ne 43) [3], o0 14 (.iload_n 2), oN 15 (.ifCond .eq 17) [1], o0 18 (.aload_n 0), o0 19 (.aload_n 0), oN 20 (.getfield 100) [6, 17, 839], oK 23 (.iconst 4) (.int 4), o0 24 .iadd, oC 25 (.invokevirtual 109) [936] c_X6_look, o0 28 (.iload_n 2), oN 29 (.if_icmp .ne 25) [3], oN 32 .nop [1]]),
  (32, false, [true, false, false, true], [o0 32 (.iload_n 3), oN 33 (.ifCond .eq 17) [2], o0 36 (.aload_n 0), o0 37 (.aload_n 0), oN 38 (.getfield 100) [6, 17, 839], oK 41 (.iconst 5) (.int 5), o0 42 .iadd, oC 43 (.invokevirtual 109) [936] c_X6_look, o0 46 (.iload_n 3), oN 47 (.if_icmp .ne 7) [3], oN 50 .nop [2]]),
  (50, false, [false, false, false, false], [oK 50 (.iconst 1) (.int 1), oN 51 (.goto 4) [4]]),
  (54, false, [false, false, false, false], [oK 54 (.iconst 0) (.int 0), oN 55 .nop [4]]),
  (55, false, [false, false, false, false], [o0 55 .ireturn])]
set_option maxRecDepth 100000 in
theorem ck_X6_ends : s_ck RX6 cX6_ends 4 1 21 k_X6_ends = true := by decide +kernel

set_option maxRecDepth 100000 in
set_option maxHeartbeats 1000000 in
theorem ok_X6_ends : s_Ok c_X6_ends := by
  refine s_ok_of k_X6_ends (by decide +kernel) sta_X6_ends ck_X6_ends (And.intro ok_X6_look (And.intro ok_X6_look (And.intro ok_X6_look trivial))) ?_
  rintro vs L ⟨s, A, a, b, c, u, t, rfl, rfl, hu, hu2, ht, ht2⟩
  refine ⟨rfl, fun G hG => ?_⟩
  have fin : ∀ o : Int32, o = 0 ∨ o = 1 → o = p_mez (A 8) (s 15) (s 17) a b c → (o = 0 ∨ o = 1) ∧ s_PP (some .boolean) true c_X6_ends.2.2.2.2.2 [.ref 0, .int a, .int b, .int c] (mdW s A) (some (.int o)) (mdW s A) := fun o h01 ho => ⟨h01, rfl, by rw [ho]; rfl, fun _ => rfl⟩
  have ex : ∀ k : Nat, s 17 + nI k = nI (u + k) := fun k => by rw [hu, nI_add]
  refine hG 0 _ _ _ (And.intro ⟨s, A, _, u + 3, t, rfl, rfl, ex 3, by omega, ht, ht2⟩ ?_)
  intro r hr
  obtain ⟨x1, hx1⟩ : ∃ x, x = p_mlk (A 8) (s 15) (s 17 + 3) := ⟨_, rfl⟩
  obtain rfl : r = some (.int x1) := by rw [hx1]; exact hr
  refine And.intro (fun h1 => ?_) (fun h1 => ?_)
  · have h1 : x1 = a := h1
    refine And.intro (fun h2 => ?_) (fun h2 => ?_)
    · have h2 : b = 0 := h2
      refine And.intro (fun h4 => ?_) (fun h4 => ?_)
      · have h4 : c = 0 := h4
        exact fin _ (Or.inr rfl) (by rw [p_mez, ← hx1, if_pos h1, if_pos h2, p_mez1, if_pos h4])
      · have h4 : ¬ c = 0 := h4
        refine And.intro ⟨s, A, _, u + 5, t, rfl, rfl, ex 5, by omega, ht, ht2⟩ ?_
        intro r hr
        obtain ⟨x3, hx3⟩ : ∃ x, x = p_mlk (A 8) (s 15) (s 17 + 5) := ⟨_, rfl⟩
        obtain rfl : r = some (.int x3) := by rw [hx3]; exact hr
        refine And.intro (fun h5 => ?_) (fun h5 => ?_)
        · have h5 : x3 = c := h5
          exact fin _ (Or.inr rfl) (by rw [p_mez, ← hx1, if_pos h1, if_pos h2, p_mez1, if_neg h4, ← hx3, if_pos h5])
        · have h5 : ¬ x3 = c := h5
          exact fin _ (Or.inl rfl) (by rw [p_mez, ← hx1, if_pos h1, if_pos h2, p_mez1, if_neg h4, ← hx3, if_neg h5])
    · have h2 : ¬ b = 0 := h2
      refine And.intro ⟨s, A, _, u + 4, t, rfl, rfl, ex 4, by omega, ht, ht2⟩ ?_
      intro r hr
      obtain ⟨x2, hx2⟩ : ∃ x, x = p_mlk (A 8) (s 15) (s 17 + 4) := ⟨_, rfl⟩
      obtain rfl : r = some (.int x2) := by rw [hx2]; exact hr
      refine And.intro (fun h3 => ?_) (fun h3 => ?_)
      · have h3 : x2 = b := h3
        refine And.intro (fun h4 => ?_) (fun h4 => ?_)
        · have h4 : c = 0 := h4
          exact fin _ (Or.inr rfl) (by rw [p_mez, ← hx1, if_pos h1, if_neg h2, ← hx2, if_pos h3, p_mez1, if_pos h4])
        · have h4 : ¬ c = 0 := h4
          refine And.intro ⟨s, A, _, u + 5, t, rfl, rfl, ex 5, by omega, ht, ht2⟩ ?_
          intro r hr
          obtain ⟨x3, hx3⟩ : ∃ x, x = p_mlk (A 8) (s 15) (s 17 + 5) := ⟨_, rfl⟩
          obtain rfl : r = some (.int x3) := by rw [hx3]; exact hr
          refine And.intro (fun h5 => ?_) (fun h5 => ?_)
          · have h5 : x3 = c := h5
            exact fin _ (Or.inr rfl) (by rw [p_mez, ← hx1, if_pos h1, if_neg h2, ← hx2, if_pos h3, p_mez1, if_neg h4, ← hx3, if_pos h5])
          · have h5 : ¬ x3 = c := h5
            exact fin _ (Or.inl rfl) (by rw [p_mez, ← hx1, if_pos h1, if_neg h2, ← hx2, if_pos h3, p_mez1, if_neg h4, ← hx3, if_neg h5])
      · have h3 : ¬ x2 = b := h3
        exact fin _ (Or.inl rfl) (by rw [p_mez, ← hx1, if_pos h1, if_neg h2, ← hx2, if_neg h3])
  · have h1 : ¬ x1 = a := h1
    exact fin _ (Or.inl rfl) (by rw [p_mez, ← hx1, if_neg h1])
end
section
/-! ===== WishClerkModel: which line, which kind ===== -/
def p_mwd (ta : Nat → Int32) (ln e u len a b c x y z : Int32) : Int32 := if p_miz ta ln e u len a b c = 0 then 0 else p_mez ta ln u x y z
def p_mln (ta : Nat → Int32) (ln e u : Int32) : Int32 := (if p_miz ta ln e u 3 111 110 101 = 0 then (if p_mwd ta ln e u 4 119 105 115 104 0 0 = 0 then (if p_mwd ta ln e u 5 110 101 101 100 115 0 = 0 then (if p_mwd ta ln e u 5 99 108 97 115 104 0 = 0 then (if p_mwd ta ln e u 4 108 105 115 116 0 0 = 0 then (if p_mwd ta ln e u 5 100 101 112 116 104 0 = 0 then (if p_mwd ta ln e u 4 112 108 97 110 0 0 = 0 then -4 else 6) else 5) else 4) else 3) else 2) else 1) else 0)
def c_X6_lineNow : sCtr := ((yX6_lineNow, cX6_lineNow, 1, (some .int)), (7, 0, 2, 45), true,
  mdfp,
  fun vs L => ∃ (s : Nat → Int32) (A : Nat → Nat → Int32) (u t : Nat), vs = [.ref 0] ∧ L = mdW s A ∧ s 17 = nI u ∧ u ≤ 200 ∧ s 15 = nI t ∧ t ≤ 160,
  fun _ L r _ => r = some (.int (p_mln (bF L 8) (oI L 0 15) (oI L 0 16) (oI L 0 17))))
theorem sta_X6_lineNow : s_Sta c_X6_lineNow := ⟨⟨by decide +kernel, by decide +kernel, by decide +kernel⟩, List.mem_of_getElem? (i := 955) (by decide +kernel), List.mem_of_getElem? (i := 70) (by decide +kernel), ⟨List.mem_of_getElem? (i := 954) (by decide +kernel), List.mem_of_getElem? (i := 33) (by decide +kernel), Or.inl ⟨_, rfl, rfl⟩⟩⟩

def k_X6_lineNow : List sBk := [
  (0, false, [true], [o0 0 (.aload_n 0), oK 1 (.iconst 3) (.int 3), oK 2 (.bipush 111) (.int 111), oK 4 (.bipush 110) (.int 110), oK 6 (.bipush 101) (.int 101), oC 8 (.invokevirtual 113) [956] c_X6_is, oN 11 (.ifCond .eq 5) [1], oK 14 (.iconst 0) (.int 0), o0 15 .ireturn]),
  (16, false, [true], [o0 16 (.aload_n 0), oK 17 (.iconst 4) (.int 4), oK 18 (.bipush 119) (.int 119), oK 20 (.bipush 105) (.int 105), oK 22 (.bipush 115) (.int 115), oC 24 (.invokevirtual 113) [956] c_X6_is, oN 27 (.ifCond .eq 16) [2], o0 30 (.aload_n 0), oK 31 (.bipush 104) (.int 104), oK 33 (.iconst 0) (.int 0), oK 34 (.iconst 0) (.int 0), oC 35 (.invokevirtual 117) [960] c_X6_ends, oN 38 (.ifCond .eq 5) [2], oK 41 (.iconst 1) (.int 1), o0 42 .ireturn]),
  (43, false, [true], [o0 43 (.aload_n 0), oK 44 (.iconst 5) (.int 5), oK 45 (.bipush 110) (.int 110), oK 47 (.bipush 101) (.int 101), oK 49 (.bipush 101) (.int 101), oC 51 (.invokevirtual 113) [956] c_X6_is, oN 54 (.ifCond .eq 17) [3], o0 57 (.aload_n 0), oK 58 (.bipush 100) (.int 100), oK 60 (.bipush 115) (.int 115), oK 62 (.iconst 0) (.int 0), oC 63 (.invokevirtual 117) [960] c_X6_ends, oN 66 (.ifCond .eq 5) [3], oK 69 (.iconst 2) (.int 2), o0 70 .ireturn]),
  (71, false, [true], [o0 71 (.aload_n 0), oK 72 (.iconst 5) (.int 5), oK 73 (.bipush 99) (.int 99), oK 75 (.bipush 108) (.int 108), oK 77 (.bipush 97) (.int 97), oC 79 (.invokevirtual 113) [956] c_X6_is, oN 82 (.ifCond .eq 17) [4], o0 85 (.aload_n 0), oK 86 (.bipush 115) (.int 115), oK 88 (.bipush 104) (.int 104), oK 90 (.iconst 0) (.int 0), oC 91 (.invokevirtual 117) [960] c_X6_ends, oN 94 (.ifCond .eq 5) [4], oK 97 (.iconst 3) (.int 3), o0 98 .ireturn]),
  (99, false, [true], [o0 99 (.aload_n 0), oK 100 (.iconst 4) (.int 4), oK 101 (.bipush 108) (.int 108), oK 103 (.bipush 105) (.int 105), oK 105 (.bipush 115) (.int 115), oC 107 (.invokevirtual 113) [956] c_X6_is, oN 110 (.ifCond .eq 16) [5], o0 113 (.aload_n 0), oK 114 (.bipush 116) (.int 116), oK 116 (.iconst 0) (.int 0), oK 117 (.iconst 0) (.int 0), oC 118 (.invokevirtual 117) [960] c_X6_ends, oN 121 (.ifCond .eq 5) [5], oK 124 (.iconst 4) (.int 4), o0 125 .ireturn]),
  (126, false, [true], [o0 126 (.aload_n 0), oK 127 (.iconst 5) (.int 5), oK 128 (.bipush 100) (.int 100), oK 130 (.bipush 101) (.int 101), oK 132 (.bipush 112) (.int 112), oC 134 (.invokevirtual 113) [956] c_X6_is, oN 137 (.ifCond .eq 19) [6], o0 140 (.aload_n 0), oK 141 (.bipush 116) (.int 116), oK 143 (.bipush 104) (.int 104), oK 145 (.iconst 0) (.int 0), oC 146 (.invokevirtual 117) [960] c_X6_ends, oN 149 (.ifCond .eq 7) [6], oK 152 (.iconst 5) (.int 5), oN 153 (.goto 35) [8]]),
  (156, false, [true], [o0 156 (.aload_n 0), oK 157 (.iconst 4) (.int 4), oK 158 (.bipush 112) (.int 112), oK 160 (.bipush 108) (.int 108), oK 162 (.bipush 97) (.int 97), oC 164 (.invokevirtual 113) [956] c_X6_is, oN 167 (.ifCond .eq 19) [7], o0 170 (.aload_n 0), oK 171 (.bipush 110) (.int 110), oK 173 (.iconst 0) (.int 0), oK 174 (.iconst 0) (.int 0), oC 175 (.invokevirtual 117) [960] c_X6_ends, oN 178 (.ifCond .eq 8) [7], oK 181 (.bipush 6) (.int 6), oN 183 (.goto 5) [8]]),
  (186, false, [false], [oK 186 (.bipush (-4)) (.int (-4)), oN 188 .nop [8]]),
  (188, false, [false], [o0 188 .ireturn])]
set_option maxRecDepth 100000 in
theorem ck_X6_lineNow : s_ck RX6 cX6_lineNow 1 2 45 k_X6_lineNow = true := by decide +kernel

set_option maxRecDepth 100000 in
set_option maxHeartbeats 1000000 in
theorem ok_X6_lineNow : s_Ok c_X6_lineNow := by
  refine s_ok_of k_X6_lineNow (by decide +kernel) sta_X6_lineNow ck_X6_lineNow (And.intro ok_X6_is (And.intro ok_X6_is (And.intro ok_X6_ends (And.intro ok_X6_is (And.intro ok_X6_ends (And.intro ok_X6_is (And.intro ok_X6_ends (And.intro ok_X6_is (And.intro ok_X6_ends (And.intro ok_X6_is (And.intro ok_X6_ends (And.intro ok_X6_is (And.intro ok_X6_ends trivial))))))))))))) ?_
  rintro vs L ⟨s, A, u, t, rfl, rfl, hu, hu2, ht, ht2⟩
  refine ⟨rfl, fun G hG => ?_⟩
  have fin : ∀ o : Int32, o = p_mln (A 8) (s 15) (s 16) (s 17) → s_PP (some .int) true c_X6_lineNow.2.2.2.2.2 [.ref 0] (mdW s A) (some (.int o)) (mdW s A) := fun o ho => ⟨rfl, by rw [ho]; rfl, fun _ => rfl⟩
  refine hG 0 _ _ _ ?_
  refine And.intro ⟨s, A, _, _, _, _, u, t, rfl, rfl, hu, hu2, ht, ht2⟩ ?_
  intro r hr
  obtain ⟨i0, hi0⟩ : ∃ x, x = p_miz (A 8) (s 15) (s 16) (s 17) 3 111 110 101 := ⟨_, rfl⟩
  obtain rfl : r = some (.int i0) := by rw [hi0]; exact hr
  by_cases h0 : i0 = 0
  rotate_left
  · refine And.intro (fun q => absurd q h0) (fun _ => ?_)
    exact fin _ (by rw [p_mln, ← hi0, if_neg h0])
  refine And.intro (fun _ => ?_) (fun q => absurd h0 q)
  refine And.intro ⟨s, A, _, _, _, _, u, t, rfl, rfl, hu, hu2, ht, ht2⟩ ?_
  intro r hr
  obtain ⟨i1, hi1⟩ : ∃ x, x = p_miz (A 8) (s 15) (s 16) (s 17) 4 119 105 115 := ⟨_, rfl⟩
  obtain rfl : r = some (.int i1) := by rw [hi1]; exact hr
  obtain ⟨j1, hj1⟩ : ∃ x, x = p_mez (A 8) (s 15) (s 17) 104 0 0 := ⟨_, rfl⟩
  have d1 : p_mwd (A 8) (s 15) (s 16) (s 17) 4 119 105 115 104 0 0 = if i1 = 0 then 0 else j1 := by rw [p_mwd, ← hi1, ← hj1]
  refine s_let (fun (cont : p_mwd (A 8) (s 15) (s 16) (s 17) 4 119 105 115 104 0 0 = 0 → _) => And.intro (fun q => cont (by rw [d1, if_pos q])) (fun q => ?_)) (fun w1 => ?_)
  · refine And.intro ⟨s, A, _, _, _, u, t, rfl, rfl, hu, hu2, ht, ht2⟩ ?_
    intro r hr
    obtain rfl : r = some (.int j1) := by rw [hj1]; exact hr
    refine And.intro (fun q2 => cont ?_) (fun q2 => ?_)
    · have q : ¬ i1 = 0 := q
      have q2 : j1 = 0 := q2
      rw [d1, if_neg q, q2]
    · have q : ¬ i1 = 0 := q
      have q2 : ¬ j1 = 0 := q2
      exact fin _ (by rw [p_mln, ← hi0, if_pos h0, if_neg (by rw [d1, if_neg q]; exact q2)])
  refine And.intro ⟨s, A, _, _, _, _, u, t, rfl, rfl, hu, hu2, ht, ht2⟩ ?_
  intro r hr
  obtain ⟨i2, hi2⟩ : ∃ x, x = p_miz (A 8) (s 15) (s 16) (s 17) 5 110 101 101 := ⟨_, rfl⟩
  obtain rfl : r = some (.int i2) := by rw [hi2]; exact hr
  obtain ⟨j2, hj2⟩ : ∃ x, x = p_mez (A 8) (s 15) (s 17) 100 115 0 := ⟨_, rfl⟩
  have d2 : p_mwd (A 8) (s 15) (s 16) (s 17) 5 110 101 101 100 115 0 = if i2 = 0 then 0 else j2 := by rw [p_mwd, ← hi2, ← hj2]
  refine s_let (fun (cont : p_mwd (A 8) (s 15) (s 16) (s 17) 5 110 101 101 100 115 0 = 0 → _) => And.intro (fun q => cont (by rw [d2, if_pos q])) (fun q => ?_)) (fun w2 => ?_)
  · refine And.intro ⟨s, A, _, _, _, u, t, rfl, rfl, hu, hu2, ht, ht2⟩ ?_
    intro r hr
    obtain rfl : r = some (.int j2) := by rw [hj2]; exact hr
    refine And.intro (fun q2 => cont ?_) (fun q2 => ?_)
    · have q : ¬ i2 = 0 := q
      have q2 : j2 = 0 := q2
      rw [d2, if_neg q, q2]
    · have q : ¬ i2 = 0 := q
      have q2 : ¬ j2 = 0 := q2
      exact fin _ (by rw [p_mln, ← hi0, if_pos h0, if_pos w1, if_neg (by rw [d2, if_neg q]; exact q2)])
  refine And.intro ⟨s, A, _, _, _, _, u, t, rfl, rfl, hu, hu2, ht, ht2⟩ ?_
  intro r hr
  obtain ⟨i3, hi3⟩ : ∃ x, x = p_miz (A 8) (s 15) (s 16) (s 17) 5 99 108 97 := ⟨_, rfl⟩
  obtain rfl : r = some (.int i3) := by rw [hi3]; exact hr
  obtain ⟨j3, hj3⟩ : ∃ x, x = p_mez (A 8) (s 15) (s 17) 115 104 0 := ⟨_, rfl⟩
  have d3 : p_mwd (A 8) (s 15) (s 16) (s 17) 5 99 108 97 115 104 0 = if i3 = 0 then 0 else j3 := by rw [p_mwd, ← hi3, ← hj3]
  refine s_let (fun (cont : p_mwd (A 8) (s 15) (s 16) (s 17) 5 99 108 97 115 104 0 = 0 → _) => And.intro (fun q => cont (by rw [d3, if_pos q])) (fun q => ?_)) (fun w3 => ?_)
  · refine And.intro ⟨s, A, _, _, _, u, t, rfl, rfl, hu, hu2, ht, ht2⟩ ?_
    intro r hr
    obtain rfl : r = some (.int j3) := by rw [hj3]; exact hr
    refine And.intro (fun q2 => cont ?_) (fun q2 => ?_)
    · have q : ¬ i3 = 0 := q
      have q2 : j3 = 0 := q2
      rw [d3, if_neg q, q2]
    · have q : ¬ i3 = 0 := q
      have q2 : ¬ j3 = 0 := q2
      exact fin _ (by rw [p_mln, ← hi0, if_pos h0, if_pos w1, if_pos w2, if_neg (by rw [d3, if_neg q]; exact q2)])
  refine And.intro ⟨s, A, _, _, _, _, u, t, rfl, rfl, hu, hu2, ht, ht2⟩ ?_
  intro r hr
  obtain ⟨i4, hi4⟩ : ∃ x, x = p_miz (A 8) (s 15) (s 16) (s 17) 4 108 105 115 := ⟨_, rfl⟩
  obtain rfl : r = some (.int i4) := by rw [hi4]; exact hr
  obtain ⟨j4, hj4⟩ : ∃ x, x = p_mez (A 8) (s 15) (s 17) 116 0 0 := ⟨_, rfl⟩
  have d4 : p_mwd (A 8) (s 15) (s 16) (s 17) 4 108 105 115 116 0 0 = if i4 = 0 then 0 else j4 := by rw [p_mwd, ← hi4, ← hj4]
  refine s_let (fun (cont : p_mwd (A 8) (s 15) (s 16) (s 17) 4 108 105 115 116 0 0 = 0 → _) => And.intro (fun q => cont (by rw [d4, if_pos q])) (fun q => ?_)) (fun w4 => ?_)
  · refine And.intro ⟨s, A, _, _, _, u, t, rfl, rfl, hu, hu2, ht, ht2⟩ ?_
    intro r hr
    obtain rfl : r = some (.int j4) := by rw [hj4]; exact hr
    refine And.intro (fun q2 => cont ?_) (fun q2 => ?_)
    · have q : ¬ i4 = 0 := q
      have q2 : j4 = 0 := q2
      rw [d4, if_neg q, q2]
    · have q : ¬ i4 = 0 := q
      have q2 : ¬ j4 = 0 := q2
      exact fin _ (by rw [p_mln, ← hi0, if_pos h0, if_pos w1, if_pos w2, if_pos w3, if_neg (by rw [d4, if_neg q]; exact q2)])
  refine And.intro ⟨s, A, _, _, _, _, u, t, rfl, rfl, hu, hu2, ht, ht2⟩ ?_
  intro r hr
  obtain ⟨i5, hi5⟩ : ∃ x, x = p_miz (A 8) (s 15) (s 16) (s 17) 5 100 101 112 := ⟨_, rfl⟩
  obtain rfl : r = some (.int i5) := by rw [hi5]; exact hr
  obtain ⟨j5, hj5⟩ : ∃ x, x = p_mez (A 8) (s 15) (s 17) 116 104 0 := ⟨_, rfl⟩
  have d5 : p_mwd (A 8) (s 15) (s 16) (s 17) 5 100 101 112 116 104 0 = if i5 = 0 then 0 else j5 := by rw [p_mwd, ← hi5, ← hj5]
  refine s_let (fun (cont : p_mwd (A 8) (s 15) (s 16) (s 17) 5 100 101 112 116 104 0 = 0 → _) => And.intro (fun q => cont (by rw [d5, if_pos q])) (fun q => ?_)) (fun w5 => ?_)
  · refine And.intro ⟨s, A, _, _, _, u, t, rfl, rfl, hu, hu2, ht, ht2⟩ ?_
    intro r hr
    obtain rfl : r = some (.int j5) := by rw [hj5]; exact hr
    refine And.intro (fun q2 => cont ?_) (fun q2 => ?_)
    · have q : ¬ i5 = 0 := q
      have q2 : j5 = 0 := q2
      rw [d5, if_neg q, q2]
    · have q : ¬ i5 = 0 := q
      have q2 : ¬ j5 = 0 := q2
      exact fin _ (by rw [p_mln, ← hi0, if_pos h0, if_pos w1, if_pos w2, if_pos w3, if_pos w4, if_neg (by rw [d5, if_neg q]; exact q2)])
  refine And.intro ⟨s, A, _, _, _, _, u, t, rfl, rfl, hu, hu2, ht, ht2⟩ ?_
  intro r hr
  obtain ⟨i6, hi6⟩ : ∃ x, x = p_miz (A 8) (s 15) (s 16) (s 17) 4 112 108 97 := ⟨_, rfl⟩
  obtain rfl : r = some (.int i6) := by rw [hi6]; exact hr
  obtain ⟨j6, hj6⟩ : ∃ x, x = p_mez (A 8) (s 15) (s 17) 110 0 0 := ⟨_, rfl⟩
  have d6 : p_mwd (A 8) (s 15) (s 16) (s 17) 4 112 108 97 110 0 0 = if i6 = 0 then 0 else j6 := by rw [p_mwd, ← hi6, ← hj6]
  refine s_let (fun (cont : p_mwd (A 8) (s 15) (s 16) (s 17) 4 112 108 97 110 0 0 = 0 → _) => And.intro (fun q => cont (by rw [d6, if_pos q])) (fun q => ?_)) (fun w6 => ?_)
  · refine And.intro ⟨s, A, _, _, _, u, t, rfl, rfl, hu, hu2, ht, ht2⟩ ?_
    intro r hr
    obtain rfl : r = some (.int j6) := by rw [hj6]; exact hr
    refine And.intro (fun q2 => cont ?_) (fun q2 => ?_)
    · have q : ¬ i6 = 0 := q
      have q2 : j6 = 0 := q2
      rw [d6, if_neg q, q2]
    · have q : ¬ i6 = 0 := q
      have q2 : ¬ j6 = 0 := q2
      exact fin _ (by rw [p_mln, ← hi0, if_pos h0, if_pos w1, if_pos w2, if_pos w3, if_pos w4, if_pos w5, if_neg (by rw [d6, if_neg q]; exact q2)])
  exact fin _ (by rw [p_mln, ← hi0, if_pos h0, if_pos w1, if_pos w2, if_pos w3, if_pos w4, if_pos w5, if_pos w6])
def p_mkn (ta : Nat → Int32) (ln e u : Int32) : Int32 := (if p_mwd ta ln e u 5 97 108 105 118 101 0 = 0 then (if p_mwd ta ln e u 4 100 101 97 100 0 0 = 0 then (if p_mwd ta ln e u 6 98 97 114 114 101 100 = 0 then -4 else 2) else 1) else 0)
def c_X6_kindNow : sCtr := ((yX6_kindNow, cX6_kindNow, 1, (some .int)), (7, 0, 2, 45), true,
  mdfp,
  fun vs L => ∃ (s : Nat → Int32) (A : Nat → Nat → Int32) (u t : Nat), vs = [.ref 0] ∧ L = mdW s A ∧ s 17 = nI u ∧ u ≤ 200 ∧ s 15 = nI t ∧ t ≤ 160,
  fun _ L r _ => r = some (.int (p_mkn (bF L 8) (oI L 0 15) (oI L 0 16) (oI L 0 17))))
theorem sta_X6_kindNow : s_Sta c_X6_kindNow := ⟨⟨by decide +kernel, by decide +kernel, by decide +kernel⟩, List.mem_of_getElem? (i := 975) (by decide +kernel), List.mem_of_getElem? (i := 70) (by decide +kernel), ⟨List.mem_of_getElem? (i := 974) (by decide +kernel), List.mem_of_getElem? (i := 38) (by decide +kernel), Or.inl ⟨_, rfl, rfl⟩⟩⟩

def k_X6_kindNow : List sBk := [
  (0, false, [true], [o0 0 (.aload_n 0), oK 1 (.iconst 5) (.int 5), oK 2 (.bipush 97) (.int 97), oK 4 (.bipush 108) (.int 108), oK 6 (.bipush 105) (.int 105), oC 8 (.invokevirtual 113) [956] c_X6_is, oN 11 (.ifCond .eq 17) [1], o0 14 (.aload_n 0), oK 15 (.bipush 118) (.int 118), oK 17 (.bipush 101) (.int 101), oK 19 (.iconst 0) (.int 0), oC 20 (.invokevirtual 117) [960] c_X6_ends, oN 23 (.ifCond .eq 5) [1], oK 26 (.iconst 0) (.int 0), o0 27 .ireturn]),
  (28, false, [true], [o0 28 (.aload_n 0), oK 29 (.iconst 4) (.int 4), oK 30 (.bipush 100) (.int 100), oK 32 (.bipush 101) (.int 101), oK 34 (.bipush 97) (.int 97), oC 36 (.invokevirtual 113) [956] c_X6_is, oN 39 (.ifCond .eq 18) [2], o0 42 (.aload_n 0), oK 43 (.bipush 100) (.int 100), oK 45 (.iconst 0) (.int 0), oK 46 (.iconst 0) (.int 0), oC 47 (.invokevirtual 117) [960] c_X6_ends, oN 50 (.ifCond .eq 7) [2], oK 53 (.iconst 1) (.int 1), oN 54 (.goto 37) [4]]),
  (57, false, [true], [o0 57 (.aload_n 0), oK 58 (.bipush 6) (.int 6), oK 60 (.bipush 98) (.int 98), oK 62 (.bipush 97) (.int 97), oK 64 (.bipush 114) (.int 114), oC 66 (.invokevirtual 113) [956] c_X6_is, oN 69 (.ifCond .eq 20) [3], o0 72 (.aload_n 0), oK 73 (.bipush 114) (.int 114), oK 75 (.bipush 101) (.int 101), oK 77 (.bipush 100) (.int 100), oC 79 (.invokevirtual 117) [960] c_X6_ends, oN 82 (.ifCond .eq 7) [3], oK 85 (.iconst 2) (.int 2), oN 86 (.goto 5) [4]]),
  (89, false, [false], [oK 89 (.bipush (-4)) (.int (-4)), oN 91 .nop [4]]),
  (91, false, [false], [o0 91 .ireturn])]
set_option maxRecDepth 100000 in
theorem ck_X6_kindNow : s_ck RX6 cX6_kindNow 1 2 45 k_X6_kindNow = true := by decide +kernel

set_option maxRecDepth 100000 in
set_option maxHeartbeats 1000000 in
theorem ok_X6_kindNow : s_Ok c_X6_kindNow := by
  refine s_ok_of k_X6_kindNow (by decide +kernel) sta_X6_kindNow ck_X6_kindNow (And.intro ok_X6_is (And.intro ok_X6_ends (And.intro ok_X6_is (And.intro ok_X6_ends (And.intro ok_X6_is (And.intro ok_X6_ends trivial)))))) ?_
  rintro vs L ⟨s, A, u, t, rfl, rfl, hu, hu2, ht, ht2⟩
  refine ⟨rfl, fun G hG => ?_⟩
  have fin : ∀ o : Int32, o = p_mkn (A 8) (s 15) (s 16) (s 17) → s_PP (some .int) true c_X6_kindNow.2.2.2.2.2 [.ref 0] (mdW s A) (some (.int o)) (mdW s A) := fun o ho => ⟨rfl, by rw [ho]; rfl, fun _ => rfl⟩
  refine hG 0 _ _ _ ?_
  refine And.intro ⟨s, A, _, _, _, _, u, t, rfl, rfl, hu, hu2, ht, ht2⟩ ?_
  intro r hr
  obtain ⟨i1, hi1⟩ : ∃ x, x = p_miz (A 8) (s 15) (s 16) (s 17) 5 97 108 105 := ⟨_, rfl⟩
  obtain rfl : r = some (.int i1) := by rw [hi1]; exact hr
  obtain ⟨j1, hj1⟩ : ∃ x, x = p_mez (A 8) (s 15) (s 17) 118 101 0 := ⟨_, rfl⟩
  have d1 : p_mwd (A 8) (s 15) (s 16) (s 17) 5 97 108 105 118 101 0 = if i1 = 0 then 0 else j1 := by rw [p_mwd, ← hi1, ← hj1]
  refine s_let (fun (cont : p_mwd (A 8) (s 15) (s 16) (s 17) 5 97 108 105 118 101 0 = 0 → _) => And.intro (fun q => cont (by rw [d1, if_pos q])) (fun q => ?_)) (fun w1 => ?_)
  · refine And.intro ⟨s, A, _, _, _, u, t, rfl, rfl, hu, hu2, ht, ht2⟩ ?_
    intro r hr
    obtain rfl : r = some (.int j1) := by rw [hj1]; exact hr
    refine And.intro (fun q2 => cont ?_) (fun q2 => ?_)
    · have q : ¬ i1 = 0 := q
      have q2 : j1 = 0 := q2
      rw [d1, if_neg q, q2]
    · have q : ¬ i1 = 0 := q
      have q2 : ¬ j1 = 0 := q2
      exact fin _ (by rw [p_mkn, if_neg (by rw [d1, if_neg q]; exact q2)])
  refine And.intro ⟨s, A, _, _, _, _, u, t, rfl, rfl, hu, hu2, ht, ht2⟩ ?_
  intro r hr
  obtain ⟨i2, hi2⟩ : ∃ x, x = p_miz (A 8) (s 15) (s 16) (s 17) 4 100 101 97 := ⟨_, rfl⟩
  obtain rfl : r = some (.int i2) := by rw [hi2]; exact hr
  obtain ⟨j2, hj2⟩ : ∃ x, x = p_mez (A 8) (s 15) (s 17) 100 0 0 := ⟨_, rfl⟩
  have d2 : p_mwd (A 8) (s 15) (s 16) (s 17) 4 100 101 97 100 0 0 = if i2 = 0 then 0 else j2 := by rw [p_mwd, ← hi2, ← hj2]
  refine s_let (fun (cont : p_mwd (A 8) (s 15) (s 16) (s 17) 4 100 101 97 100 0 0 = 0 → _) => And.intro (fun q => cont (by rw [d2, if_pos q])) (fun q => ?_)) (fun w2 => ?_)
  · refine And.intro ⟨s, A, _, _, _, u, t, rfl, rfl, hu, hu2, ht, ht2⟩ ?_
    intro r hr
    obtain rfl : r = some (.int j2) := by rw [hj2]; exact hr
    refine And.intro (fun q2 => cont ?_) (fun q2 => ?_)
    · have q : ¬ i2 = 0 := q
      have q2 : j2 = 0 := q2
      rw [d2, if_neg q, q2]
    · have q : ¬ i2 = 0 := q
      have q2 : ¬ j2 = 0 := q2
      exact fin _ (by rw [p_mkn, if_pos w1, if_neg (by rw [d2, if_neg q]; exact q2)])
  refine And.intro ⟨s, A, _, _, _, _, u, t, rfl, rfl, hu, hu2, ht, ht2⟩ ?_
  intro r hr
  obtain ⟨i3, hi3⟩ : ∃ x, x = p_miz (A 8) (s 15) (s 16) (s 17) 6 98 97 114 := ⟨_, rfl⟩
  obtain rfl : r = some (.int i3) := by rw [hi3]; exact hr
  obtain ⟨j3, hj3⟩ : ∃ x, x = p_mez (A 8) (s 15) (s 17) 114 101 100 := ⟨_, rfl⟩
  have d3 : p_mwd (A 8) (s 15) (s 16) (s 17) 6 98 97 114 114 101 100 = if i3 = 0 then 0 else j3 := by rw [p_mwd, ← hi3, ← hj3]
  refine s_let (fun (cont : p_mwd (A 8) (s 15) (s 16) (s 17) 6 98 97 114 114 101 100 = 0 → _) => And.intro (fun q => cont (by rw [d3, if_pos q])) (fun q => ?_)) (fun w3 => ?_)
  · refine And.intro ⟨s, A, _, _, _, u, t, rfl, rfl, hu, hu2, ht, ht2⟩ ?_
    intro r hr
    obtain rfl : r = some (.int j3) := by rw [hj3]; exact hr
    refine And.intro (fun q2 => cont ?_) (fun q2 => ?_)
    · have q : ¬ i3 = 0 := q
      have q2 : j3 = 0 := q2
      rw [d3, if_neg q, q2]
    · have q : ¬ i3 = 0 := q
      have q2 : ¬ j3 = 0 := q2
      exact fin _ (by rw [p_mkn, if_pos w1, if_pos w2, if_neg (by rw [d3, if_neg q]; exact q2)])
  exact fin _ (by rw [p_mkn, if_pos w1, if_pos w2, if_pos w3])
end
section
/-! ===== WishClerkModel: the draft ===== -/
def q_fd (s : Nat → Int32) : Nat → Int32 := upd (upd (upd (upd (upd s 7 0) 8 0) 11 0) 12 (-4)) 13 (-4)
def c_X6_firstDraft : sCtr := ((yX6_firstDraft, cX6_firstDraft, 2, none), (7, 0, 0, 0), false,
  mdfp,
  fun vs L => ∃ (s : Nat → Int32) (A : Nat → Nat → Int32), vs = [.ref 0] ∧ L = mdW s A,
  fun _ L r L' => r = none ∧ L' = mdW (q_fd (oI L 0)) (va_up (bF L) 5 (q_zk (bF L 5) 0 53)))
theorem sta_X6_firstDraft : s_Sta c_X6_firstDraft := ⟨⟨by decide +kernel, by decide +kernel, by decide +kernel⟩, List.mem_of_getElem? (i := 817) (by decide +kernel), List.mem_of_getElem? (i := 70) (by decide +kernel), ⟨List.mem_of_getElem? (i := 816) (by decide +kernel), List.mem_of_getElem? (i := 27) (by decide +kernel), Or.inl ⟨_, rfl, rfl⟩⟩⟩

def k_X6_firstDraft : List sBk := [
  (0, false, [true, false], [oK 0 (.iconst 0) (.int 0), o0 1 (.istore_n 1), oN 2 .nop [1]]),
  (2, true, [true, true], [o0 2 (.iload_n 1), oK 3 (.bipush 53) (.int 53), oN 5 (.if_icmp .ge 16) [2], o0 8 (.aload_n 0), oN 9 (.getfield 23) [6, 6, 828], o0 12 (.iload_n 1), oK 13 (.iconst 0) (.int 0), o0 14 .iastore, oK 15 (.iinc 1 1) (.int 1), oN 18 (.goto (-16)) [1]]),
  (21, false, [true, false], [o0 21 (.aload_n 0), oK 22 (.iconst 0) (.int 0), oN 23 (.putfield 65) [6, 7, 829], o0 26 (.aload_n 0), oK 27 (.iconst 0) (.int 0), oN 28 (.putfield 69) [6, 8, 830], o0 31 (.aload_n 0), oK 32 (.iconst 0) (.int 0), oN 33 (.putfield 72) [6, 11, 833], o0 36 (.aload_n 0), oK 37 (.bipush (-4)) (.int (-4)), oN 39 (.putfield 76) [6, 12, 834], o0 42 (.aload_n 0), oK 43 (.bipush (-4)) (.int (-4)), oN 45 (.putfield 79) [6, 13, 835], o0 48 .return_])]
set_option maxRecDepth 100000 in
theorem ck_X6_firstDraft : s_ck RX6 cX6_firstDraft 2 0 0 k_X6_firstDraft = true := by decide +kernel

set_option maxRecDepth 100000 in
set_option maxHeartbeats 1000000 in
theorem ok_X6_firstDraft : s_Ok c_X6_firstDraft := by
  refine s_ok_of k_X6_firstDraft (by decide +kernel) sta_X6_firstDraft ck_X6_firstDraft trivial ?_
  rintro vs L ⟨s, A, rfl, rfl⟩
  refine ⟨rfl, fun G hG => ?_⟩
  have loop : ∀ (k i : Nat) (x : Int32) (f : Nat → Int32), i + k = 53 → x = nI i → f = q_zk (A 5) 0 i → G 1 [some (.ref 0), some (.int x)] [] (mdW s (va_up A 5 f)) := by
    intro k
    induction k with
    | zero =>
      intro i x f hi hx hf
      refine hG 1 _ _ _ (And.intro (fun q => ?_) (fun q => ?_))
      · rw [hx, show (53 : Int32) = nI 53 from rfl, nI_ltI (by omega) (by omega)] at q; omega
      · refine And.intro (Or.inl rfl) ⟨rfl, ⟨rfl, ?_⟩, fun h => by cases h⟩
        show mdW (q_fd s) (va_up A 5 f) = mdW (q_fd s) (va_up A 5 (q_zk (A 5) 0 53))
        rw [hf, show i = 53 by omega]
    | succ k ih =>
      intro i x f hi hx hf
      refine hG 1 _ _ _ (And.intro (fun q => ?_) (fun q => ?_))
      · refine And.intro ?_ ?_
        · show vp_in x 53
          rw [hx]; exact vp_in_nI (by omega) (by omega)
        · exact ih (i + 1) _ (upd f x.toNatClampNeg 0) (by omega) (by rw [hx, nI_1]) (by rw [hx, nI_clamp (by omega), hf, ← q_zkS, Nat.zero_add])
      · rw [hx, show (53 : Int32) = nI 53 from rfl, nI_ltI (by omega) (by omega)] at q; omega
  have l := loop 53 0 0 (A 5) (by omega) nI_0.symm (q_zk0 _ _).symm
  rw [va_upI] at l
  exact hG 0 _ _ _ l
end
section
/-! ===== WishClerkModel: the draft is kept ===== -/
def q_cpf (f g : Nat → Int32) (n : Nat) : Nat → Int32 := fun j => if j < n then g j else f j
theorem q_cpf0 (f g : Nat → Int32) : q_cpf f g 0 = f := by
  funext j
  rw [q_cpf, if_neg (by omega)]
theorem q_cpfS (f g : Nat → Int32) (i : Nat) : upd (q_cpf f g i) i (g i) = q_cpf f g (i + 1) := by
  funext j
  rw [upd]
  by_cases hj : j = i
  · rw [if_pos hj, q_cpf, if_pos (by omega), hj]
  · rw [if_neg hj]
    unfold q_cpf
    by_cases h2 : j < i
    · rw [if_pos h2, if_pos (by omega)]
    · rw [if_neg h2, if_neg (by omega)]
def q_kdS (s : Nat → Int32) : Nat → Int32 := upd (upd s 2 (s 7)) 3 (s 8)
def q_kd (A : Nat → Nat → Int32) (n : Nat) : Nat → Nat → Int32 := va_up (va_up (va_up (va_up A 1 (q_cpf (A 1) (A 5) 53)) 3 (q_cpf (A 3) (A 6) n)) 4 (q_cpf (A 4) (A 7) n)) 2 (upd (upd (A 2) 0 0) 1 0)
def c_X6_keepDraft : sCtr := ((yX6_keepDraft, cX6_keepDraft, 2, none), (7, 0, 0, 0), false,
  mdfp,
  fun vs L => ∃ (s : Nat → Int32) (A : Nat → Nat → Int32) (n : Nat), vs = [.ref 0] ∧ L = mdW s A ∧ s 8 = nI n ∧ n ≤ 8,
  fun _ L r L' => r = none ∧ L' = mdW (q_kdS (oI L 0)) (q_kd (bF L) (oI L 0 8).toNatClampNeg))
theorem sta_X6_keepDraft : s_Sta c_X6_keepDraft := ⟨⟨by decide +kernel, by decide +kernel, by decide +kernel⟩, List.mem_of_getElem? (i := 821) (by decide +kernel), List.mem_of_getElem? (i := 70) (by decide +kernel), ⟨List.mem_of_getElem? (i := 820) (by decide +kernel), List.mem_of_getElem? (i := 28) (by decide +kernel), Or.inl ⟨_, rfl, rfl⟩⟩⟩

def k_X6_keepDraft : List sBk := [
  (0, false, [true, false], [oK 0 (.iconst 0) (.int 0), o0 1 (.istore_n 1), oN 2 .nop [1]]),
  (2, true, [true, true], [o0 2 (.iload_n 1), oK 3 (.bipush 53) (.int 53), oN 5 (.if_icmp .ge 21) [2], o0 8 (.aload_n 0), oN 9 (.getfield 7) [6, 0, 822], o0 12 (.iload_n 1), o0 13 (.aload_n 0), oN 14 (.getfield 23) [6, 6, 828], o0 17 (.iload_n 1), o0 18 .iaload, o0 19 .iastore, oK 20 (.iinc 1 1) (.int 1), oN 23 (.goto (-21)) [1]]),
  (26, false, [true, false], [o0 26 (.aload_n 0), o0 27 (.aload_n 0), oN 28 (.getfield 65) [6, 7, 829], oN 31 (.putfield 82) [6, 2, 824], o0 34 (.aload_n 0), o0 35 (.aload_n 0), oN 36 (.getfield 69) [6, 8, 830], oN 39 (.putfield 85) [6, 3, 825], oK 42 (.iconst 0) (.int 0), o0 43 (.istore_n 1), oN 44 .nop [3]]),
  (44, true, [true, true], [o0 44 (.iload_n 1), o0 45 (.aload_n 0), oN 46 (.getfield 85) [6, 3, 825], oN 49 (.if_icmp .ge 33) [4], o0 52 (.aload_n 0), oN 53 (.getfield 17) [6, 4, 826], o0 56 (.iload_n 1), o0 57 (.aload_n 0), oN 58 (.getfield 26) [6, 9, 831], o0 61 (.iload_n 1), o0 62 .iaload, o0 63 .iastore, o0 64 (.aload_n 0), oN 65 (.getfield 20) [6, 5, 827], o0 68 (.iload_n 1), o0 69 (.aload_n 0), oN 70 (.getfield 29) [6, 10, 832], o0 73 (.iload_n 1), o0 74 .iaload, o0 75 .iastore, oK 76 (.iinc 1 1) (.int 1), oN 79 (.goto (-35)) [3]]),
  (82, false, [true, false], [o0 82 (.aload_n 0), oN 83 (.getfield 13) [6, 1, 823], oK 86 (.iconst 0) (.int 0), oK 87 (.iconst 0) (.int 0), o0 88 .bastore, o0 89 (.aload_n 0), oN 90 (.getfield 13) [6, 1, 823], oK 93 (.iconst 1) (.int 1), oK 94 (.iconst 0) (.int 0), o0 95 .bastore, o0 96 .return_])]
set_option maxRecDepth 100000 in
theorem ck_X6_keepDraft : s_ck RX6 cX6_keepDraft 2 0 0 k_X6_keepDraft = true := by decide +kernel

set_option maxRecDepth 100000 in
set_option maxHeartbeats 1000000 in
theorem ok_X6_keepDraft : s_Ok c_X6_keepDraft := by
  refine s_ok_of k_X6_keepDraft (by decide +kernel) sta_X6_keepDraft ck_X6_keepDraft trivial ?_
  rintro vs L ⟨s, A, n, rfl, rfl, hn, hn8⟩
  refine ⟨rfl, fun G hG => ?_⟩
  have en : (s 8).toNatClampNeg = n := by rw [hn, nI_clamp (by omega)]
  obtain ⟨B, hB⟩ : ∃ B, B = va_up A 1 (q_cpf (A 1) (A 5) 53) := ⟨_, rfl⟩
  have l3 : ∀ (k i : Nat) (x : Int32) (f g : Nat → Int32), i + k = n → x = nI i → f = q_cpf (A 3) (A 6) i → g = q_cpf (A 4) (A 7) i → G 3 [some (.ref 0), some (.int x)] [] (mdW (q_kdS s) (va_up (va_up (va_up A 1 (q_cpf (A 1) (A 5) 53)) 3 f) 4 g)) := by
    intro k
    induction k with
    | zero =>
      intro i x f g hi hx hf hg
      refine hG 3 _ _ _ (And.intro (fun q => ?_) (fun q => ?_))
      · have q : x < s 8 := q
        rw [hx, hn, nI_ltI (by omega) (by omega)] at q; omega
      · refine And.intro (vp_in_nI (n := 0) (N := 2) (by decide) (by decide)) (And.intro (vp_in_nI (n := 1) (N := 2) (by decide) (by decide)) ⟨rfl, ⟨rfl, ?_⟩, fun h => by cases h⟩)
        show mdW (q_kdS s) (va_up (va_up (va_up (va_up A 1 (q_cpf (A 1) (A 5) 53)) 3 f) 4 g) 2 (upd (upd (A 2) 0 0) 1 0)) = mdW (q_kdS s) (q_kd A (s 8).toNatClampNeg)
        rw [q_kd, en, hf, hg, show i = n by omega]
    | succ k ih =>
      intro i x f g hi hx hf hg
      have hin : vp_in x 8 := by rw [hx]; exact vp_in_nI (by omega) (by omega)
      have hxc : x.toNatClampNeg = i := by rw [hx, nI_clamp (by omega)]
      refine hG 3 _ _ _ (And.intro (fun q => ?_) (fun q => ?_))
      · refine And.intro hin (And.intro hin (And.intro hin (And.intro hin ?_)))
        exact ih (i + 1) _ (upd f x.toNatClampNeg (A 6 x.toNatClampNeg)) (upd g x.toNatClampNeg (A 7 x.toNatClampNeg)) (by omega) (by rw [hx, nI_1]) (by rw [hxc, hf, q_cpfS]) (by rw [hxc, hg, q_cpfS])
      · have q : ¬ x < s 8 := q
        rw [hx, hn, nI_ltI (by omega) (by omega)] at q; omega
  have l1 : ∀ (k i : Nat) (x : Int32) (f : Nat → Int32), i + k = 53 → x = nI i → f = q_cpf (A 1) (A 5) i → G 1 [some (.ref 0), some (.int x)] [] (mdW s (va_up A 1 f)) := by
    intro k
    induction k with
    | zero =>
      intro i x f hi hx hf
      refine hG 1 _ _ _ (And.intro (fun q => ?_) (fun q => ?_))
      · rw [hx, show (53 : Int32) = nI 53 from rfl, nI_ltI (by omega) (by omega)] at q; omega
      · rw [show f = q_cpf (A 1) (A 5) 53 by rw [hf, show i = 53 by omega]]
        exact l3 n 0 0 (A 3) (A 4) (by omega) nI_0.symm (q_cpf0 _ _).symm (q_cpf0 _ _).symm
    | succ k ih =>
      intro i x f hi hx hf
      have hxc : x.toNatClampNeg = i := by rw [hx, nI_clamp (by omega)]
      refine hG 1 _ _ _ (And.intro (fun q => ?_) (fun q => ?_))
      · refine And.intro ?_ (And.intro ?_ ?_)
        · show vp_in x 53
          rw [hx]; exact vp_in_nI (by omega) (by omega)
        · show vp_in x 159
          rw [hx]; exact vi159 _ (by omega)
        · exact ih (i + 1) _ (upd f x.toNatClampNeg (A 5 x.toNatClampNeg)) (by omega) (by rw [hx, nI_1]) (by rw [hxc, hf, q_cpfS])
      · rw [hx, show (53 : Int32) = nI 53 from rfl, nI_ltI (by omega) (by omega)] at q; omega
  have l := l1 53 0 0 (A 1) (by omega) nI_0.symm (q_cpf0 _ _).symm
  rw [va_up1] at l
  exact hG 0 _ _ _ l
end
section
/-! ===== WishClerkModel: the next token ===== -/
def p_rg (lo hi c : Int32) : Int32 := if c < lo then 0 else if hi < c then 0 else 1
/-- where the run of bytes from lo to hi that begins at p ends -/
def p_ru (ta : Nat → Int32) (ln lo hi : Int32) : Nat → Nat → Nat
  | 0, p => p
  | f + 1, p => if p_rg lo hi (p_mlk ta ln (nI p)) = 0 then p else p_ru ta ln lo hi f (p + 1)
/-- the first two figures -/
def p_mv (ta : Nat → Int32) (ln : Int32) (u : Nat) : Nat → Int32
  | 0 => 0
  | k + 1 => if k < 2 then 10 * p_mv ta ln u k + p_mlk ta ln (nI (u + k)) - 48 else p_mv ta ln u k
theorem p_rg_m1 {lo hi : Int32} (h : 0 < lo) : p_rg lo hi (-1) = 0 := by
  rw [p_rg, if_pos]
  rw [Int32.lt_iff_toInt_lt] at h ⊢
  have z0 : (0 : Int32).toInt = 0 := rfl
  have z1 : (-1 : Int32).toInt = -1 := rfl
  omega
theorem p_mlk_o {ta : Nat → Int32} {t p : Nat} (ht : t ≤ 160) (hp : t ≤ p) (hp2 : p < 1000) : p_mlk ta (nI t) (nI p) = -1 := by
  rw [p_mlk, if_neg]
  rw [nI_ltI (by omega) (by omega)]; omega
theorem p_ru_le (ta : Nat → Int32) {t : Nat} (lo hi : Int32) (h : 0 < lo) (ht : t ≤ 160) : ∀ f p, p ≤ t → p ≤ p_ru ta (nI t) lo hi f p ∧ p_ru ta (nI t) lo hi f p ≤ t
  | 0, p, hp => ⟨Nat.le_refl _, hp⟩
  | f + 1, p, hp => by
    rw [p_ru]
    by_cases q : p_rg lo hi (p_mlk ta (nI t) (nI p)) = 0
    · rw [if_pos q]; exact ⟨Nat.le_refl _, hp⟩
    · rw [if_neg q]
      have : p < t := by
        rcases Nat.lt_or_ge p t with r | r
        · exact r
        · rw [p_mlk_o ht r (by omega), p_rg_m1 h] at q; exact absurd rfl q
      have r := p_ru_le ta lo hi h ht f (p + 1) (by omega)
      exact ⟨by omega, r.2⟩
theorem p_rg_1 (c k : Int32) : p_rg k k c = 0 ↔ ¬ c = k := by
  unfold p_rg
  by_cases h : c < k
  · rw [if_pos h]
    exact ⟨fun _ q => by rw [q] at h; exact Int32.lt_irrefl h, fun _ => rfl⟩
  · rw [if_neg h]
    by_cases h2 : k < c
    · rw [if_pos h2]
      exact ⟨fun _ q => by rw [q] at h2; exact Int32.lt_irrefl h2, fun _ => rfl⟩
    · rw [if_neg h2]
      refine ⟨fun q => absurd q (by decide), fun q => absurd ?_ q⟩
      rw [Int32.lt_iff_toInt_lt] at h h2
      exact Int32.toInt_inj.mp (by omega)
abbrev zT : Type := Int32 × Int32 × Int32 × Int32 × Int32 × Int32 × Int32 × Int32 × Int32 × Int32 × Int32 × (Nat → Int32) × (Nat → Int32) × (Nat → Int32)
abbrev z_dP (x : zT) : Int32 := x.1
abbrev z_dW (x : zT) : Int32 := x.2.1
abbrev z_hD (x : zT) : Int32 := x.2.2.1
abbrev z_h1 (x : zT) : Int32 := x.2.2.2.1
abbrev z_hW (x : zT) : Int32 := x.2.2.2.2.1
abbrev z_po (x : zT) : Int32 := x.2.2.2.2.2.1
abbrev z_fr (x : zT) : Int32 := x.2.2.2.2.2.2.1
abbrev z_so (x : zT) : Int32 := x.2.2.2.2.2.2.2.1
abbrev z_va (x : zT) : Int32 := x.2.2.2.2.2.2.2.2.1
abbrev z_fa (x : zT) : Int32 := x.2.2.2.2.2.2.2.2.2.1
abbrev z_wr (x : zT) : Int32 := x.2.2.2.2.2.2.2.2.2.2.1
abbrev z_dr (x : zT) : Nat → Int32 := x.2.2.2.2.2.2.2.2.2.2.2.1
abbrev z_dy (x : zT) : Nat → Int32 := x.2.2.2.2.2.2.2.2.2.2.2.2.1
abbrev z_dq (x : zT) : Nat → Int32 := x.2.2.2.2.2.2.2.2.2.2.2.2.2
def u_dP (x : zT) (v : Int32) : zT := (v, x.2)
def u_dW (x : zT) (v : Int32) : zT := (x.1, v, x.2.2)
def u_hD (x : zT) (v : Int32) : zT := (x.1, x.2.1, v, x.2.2.2)
def u_h1 (x : zT) (v : Int32) : zT := (x.1, x.2.1, x.2.2.1, v, x.2.2.2.2)
def u_hW (x : zT) (v : Int32) : zT := (x.1, x.2.1, x.2.2.1, x.2.2.2.1, v, x.2.2.2.2.2)
def u_po (x : zT) (v : Int32) : zT := (x.1, x.2.1, x.2.2.1, x.2.2.2.1, x.2.2.2.2.1, v, x.2.2.2.2.2.2)
def u_fr (x : zT) (v : Int32) : zT := (x.1, x.2.1, x.2.2.1, x.2.2.2.1, x.2.2.2.2.1, x.2.2.2.2.2.1, v, x.2.2.2.2.2.2.2)
def u_so (x : zT) (v : Int32) : zT := (x.1, x.2.1, x.2.2.1, x.2.2.2.1, x.2.2.2.2.1, x.2.2.2.2.2.1, x.2.2.2.2.2.2.1, v, x.2.2.2.2.2.2.2.2)
def u_va (x : zT) (v : Int32) : zT := (x.1, x.2.1, x.2.2.1, x.2.2.2.1, x.2.2.2.2.1, x.2.2.2.2.2.1, x.2.2.2.2.2.2.1, x.2.2.2.2.2.2.2.1, v, x.2.2.2.2.2.2.2.2.2)
def u_fa (x : zT) (v : Int32) : zT := (x.1, x.2.1, x.2.2.1, x.2.2.2.1, x.2.2.2.2.1, x.2.2.2.2.2.1, x.2.2.2.2.2.2.1, x.2.2.2.2.2.2.2.1, x.2.2.2.2.2.2.2.2.1, v, x.2.2.2.2.2.2.2.2.2.2)
def u_wr (x : zT) (v : Int32) : zT := (x.1, x.2.1, x.2.2.1, x.2.2.2.1, x.2.2.2.2.1, x.2.2.2.2.2.1, x.2.2.2.2.2.2.1, x.2.2.2.2.2.2.2.1, x.2.2.2.2.2.2.2.2.1, x.2.2.2.2.2.2.2.2.2.1, v, x.2.2.2.2.2.2.2.2.2.2.2)
def u_dr (x : zT) (v : Nat → Int32) : zT := (x.1, x.2.1, x.2.2.1, x.2.2.2.1, x.2.2.2.2.1, x.2.2.2.2.2.1, x.2.2.2.2.2.2.1, x.2.2.2.2.2.2.2.1, x.2.2.2.2.2.2.2.2.1, x.2.2.2.2.2.2.2.2.2.1, x.2.2.2.2.2.2.2.2.2.2.1, v, x.2.2.2.2.2.2.2.2.2.2.2.2)
def u_dy (x : zT) (v : Nat → Int32) : zT := (x.1, x.2.1, x.2.2.1, x.2.2.2.1, x.2.2.2.2.1, x.2.2.2.2.2.1, x.2.2.2.2.2.2.1, x.2.2.2.2.2.2.2.1, x.2.2.2.2.2.2.2.2.1, x.2.2.2.2.2.2.2.2.2.1, x.2.2.2.2.2.2.2.2.2.2.1, x.2.2.2.2.2.2.2.2.2.2.2.1, v, x.2.2.2.2.2.2.2.2.2.2.2.2.2)
def u_dq (x : zT) (v : Nat → Int32) : zT := (x.1, x.2.1, x.2.2.1, x.2.2.2.1, x.2.2.2.2.1, x.2.2.2.2.2.1, x.2.2.2.2.2.2.1, x.2.2.2.2.2.2.2.1, x.2.2.2.2.2.2.2.2.1, x.2.2.2.2.2.2.2.2.2.1, x.2.2.2.2.2.2.2.2.2.2.1, x.2.2.2.2.2.2.2.2.2.2.2.1, x.2.2.2.2.2.2.2.2.2.2.2.2.1, v)
def zs (s : Nat → Int32) (x : zT) : Nat → Int32 := upd (upd (upd (upd (upd (upd (upd (upd (upd (upd (upd (s) 7 (z_dP x)) 8 (z_dW x)) 11 (z_hD x)) 12 (z_h1 x)) 13 (z_hW x)) 16 (z_po x)) 17 (z_fr x)) 18 (z_so x)) 19 (z_va x)) 20 (z_fa x)) 21 (z_wr x)
def zA (A : Nat → Nat → Int32) (x : zT) : Nat → Nat → Int32 := va_up (va_up (va_up A 5 (z_dr x)) 6 (z_dy x)) 7 (z_dq x)
/-- the reader's world: the background, and what the reader changes -/
def mdZ (s : Nat → Int32) (A : Nat → Nat → Int32) (x : zT) : sH := [.inr (.inr (6, [.ref 1, .ref 2, .int (s 2), .int (s 3), .ref 3, .ref 4, .ref 5, .int (z_dP x), .int (z_dW x), .ref 6, .ref 7, .int (z_hD x), .int (z_h1 x), .int (z_hW x), .ref 8, .int (s 15), .int (z_po x), .int (z_fr x), .int (z_so x), .int (z_va x), .int (z_fa x), .int (z_wr x), .ref 9, .ref 10, .ref 11, .ref 12, .ref 13, .ref 14, .ref 15, .ref 16, .int (s 30)])), .inl (0, 159, A 1), .inl (2, 2, A 2), .inl (0, 8, A 3), .inl (0, 8, A 4), .inl (0, 53, z_dr x), .inl (0, 8, z_dy x), .inl (0, 8, z_dq x), .inl (0, 160, A 8), .inl (0, 256, A 9), .inl (0, 256, A 10), .inl (0, 256, A 11), .inl (0, 256, A 12), .inl (0, 8, A 13), .inl (0, 4, A 14), .inl (0, 4, A 15), .inl (0, 160, A 16)]
theorem mdZ_W (s : Nat → Int32) (A : Nat → Nat → Int32) (x : zT) : mdZ s A x = mdW (zs s x) (zA A x) := rfl
def rX (L : sH) : zT := (oI L 0 7, oI L 0 8, oI L 0 11, oI L 0 12, oI L 0 13, oI L 0 16, oI L 0 17, oI L 0 18, oI L 0 19, oI L 0 20, oI L 0 21, bF L 5, bF L 6, bF L 7)
def mdR (L : sH) (x : zT) : sH := mdZ (oI L 0) (bF L) x
theorem zR (s : Nat → Int32) (A : Nat → Nat → Int32) (x : zT) : rX (mdZ s A x) = x := rfl
theorem zM (s : Nat → Int32) (A : Nat → Nat → Int32) (x y : zT) : mdR (mdZ s A x) y = mdZ s A y := rfl
theorem zB8 (s : Nat → Int32) (A : Nat → Nat → Int32) (x : zT) : bF (mdZ s A x) 8 = A 8 := rfl
theorem zO15 (s : Nat → Int32) (A : Nat → Nat → Int32) (x : zT) : oI (mdZ s A x) 0 15 = s 15 := rfl
def x_mu (x : zT) (b f : Int32) : zT := if b = 0 then (if z_fa x = 0 then u_wr (u_fa x f) (z_fr x) else x) else x
def c_X6_must : sCtr := ((yX6_must, cX6_must, 3, none), (7, 2, 0, 0), false,
  mdfp,
  fun vs L => ∃ (s : Nat → Int32) (A : Nat → Nat → Int32) (x : zT) (b f : Int32), vs = [.ref 0, .int b, .int f] ∧ L = mdZ s A x,
  fun vs L r L' => r = none ∧ L' = mdR L (x_mu (rX L) (vI vs 1) (vI vs 2)))
theorem sta_X6_must : s_Sta c_X6_must := ⟨⟨by decide +kernel, by decide +kernel, by decide +kernel⟩, List.mem_of_getElem? (i := 947) (by decide +kernel), List.mem_of_getElem? (i := 70) (by decide +kernel), ⟨List.mem_of_getElem? (i := 946) (by decide +kernel), List.mem_of_getElem? (i := 31) (by decide +kernel), Or.inl ⟨_, rfl, rfl⟩⟩⟩

def k_X6_must : List sBk := [
  (0, false, [true, true, true], [o0 0 (.iload_n 1), oN 1 (.ifCond .ne 23) [1], o0 4 (.aload_n 0), oN 5 (.getfield 97) [6, 20, 842], oN 8 (.ifCond .ne 16) [1], o0 11 (.aload_n 0), o0 12 (.iload_n 2), oN 13 (.putfield 97) [6, 20, 842], o0 16 (.aload_n 0), o0 17 (.aload_n 0), oN 18 (.getfield 100) [6, 17, 839], oN 21 (.putfield 103) [6, 21, 843], oN 24 .nop [1]]),
  (24, false, [false, false, false], [o0 24 .return_])]
set_option maxRecDepth 100000 in
theorem ck_X6_must : s_ck RX6 cX6_must 3 0 0 k_X6_must = true := by decide +kernel

set_option maxRecDepth 100000 in
set_option maxHeartbeats 4000000 in
theorem ok_X6_must : s_Ok c_X6_must := by
  refine s_ok_of k_X6_must (by decide +kernel) sta_X6_must ck_X6_must trivial ?_
  rintro vs L ⟨s, A, x, b, f, rfl, rfl⟩
  refine ⟨rfl, fun G hG => ?_⟩
  have fin : ∀ y : zT, x_mu x b f = y → s_PP none false c_X6_must.2.2.2.2.2 [.ref 0, .int b, .int f] (mdZ s A x) none (mdZ s A y) := fun y hy => ⟨rfl, ⟨rfl, by
    show mdZ s A y = mdR (mdZ s A x) (x_mu (rX (mdZ s A x)) b f)
    rw [zR, zM, hy]⟩, fun h => by cases h⟩
  refine hG 0 _ _ _ (And.intro (fun h => ?_) (fun h => ?_))
  · refine And.intro (fun h2 => ?_) (fun h2 => ?_)
    · have h2 : z_fa x = 0 := h2
      exact fin (u_wr (u_fa x f) (z_fr x)) (by rw [x_mu, if_pos h, if_pos h2])
    · have h2 : ¬ z_fa x = 0 := h2
      exact fin _ (by rw [x_mu, if_pos h, if_neg h2])
  · exact fin _ (by rw [x_mu, if_neg h])
def x_n3 (x : zT) (p u : Nat) (k : Int32) : zT := u_so (u_fr (u_po x (nI p)) (nI u)) k
def x_n1 (ta : Nat → Int32) (ln : Int32) (x : zT) (u : Nat) : zT :=
  if p_mlk ta ln (nI u) < 0 then x_n3 x u u 0
  else if p_rg 97 122 (p_mlk ta ln (nI u)) = 0 then
    (if p_rg 48 57 (p_mlk ta ln (nI u)) = 0 then u_po (x_mu (x_n3 x u u 3) (if p_mlk ta ln (nI u) = 59 then 1 else 0) 1) (nI (u + 1))
     else x_mu (u_va (x_n3 x (p_ru ta ln 48 57 161 u) u 2) (p_mv ta ln u (p_ru ta ln 48 57 161 u - u))) (if 2 < p_ru ta ln 48 57 161 u - u then 0 else 1) 1)
  else x_n3 x (p_ru ta ln 97 122 161 u) u 1
def x_nx (ta : Nat → Int32) (ln : Int32) (x : zT) : zT := if 0 < z_fa x then x else x_n1 ta ln x (p_ru ta ln 32 32 161 (z_po x).toNatClampNeg)
theorem upd_id {s : Nat → Int32} {k : Nat} {v : Int32} (h : s k = v) : upd s k v = s := by rw [← h, upd_I]
theorem p_sub_nI {a b : Nat} (h : b ≤ a) (ha : a < 1000) : nI a - nI b = nI (a - b) := by
  apply Int32.toInt_inj.mp
  rw [pk_sub_toInt (by omega) (by omega), nI_toInt (by omega)]
  omega
theorem x_mu_po (x : zT) (b f : Int32) : z_po (x_mu x b f) = z_po x := by
  unfold x_mu
  split
  · split <;> rfl
  · rfl
def c_X6_next : sCtr := ((yX6_next, cX6_next, 2, none), (7, 0, 1, 25), false,
  mdfp,
  fun vs L => ∃ (s : Nat → Int32) (A : Nat → Nat → Int32) (x : zT) (p t : Nat), vs = [.ref 0] ∧ L = mdZ s A x ∧ z_po x = nI p ∧ p ≤ t ∧ s 15 = nI t ∧ t ≤ 160,
  fun _ L r L' => r = none ∧ L' = mdR L (x_nx (bF L 8) (oI L 0 15) (rX L)))
theorem sta_X6_next : s_Sta c_X6_next := ⟨⟨by decide +kernel, by decide +kernel, by decide +kernel⟩, List.mem_of_getElem? (i := 935) (by decide +kernel), List.mem_of_getElem? (i := 70) (by decide +kernel), ⟨List.mem_of_getElem? (i := 934) (by decide +kernel), List.mem_of_getElem? (i := 29) (by decide +kernel), Or.inl ⟨_, rfl, rfl⟩⟩⟩

def k_X6_next : List sBk := [
  (0, false, [true, false], [o0 0 (.aload_n 0), oN 1 (.getfield 97) [6, 20, 842], oN 4 (.ifCond .le 4) [1], o0 7 .return_]),
  (8, true, [true, false], [o0 8 (.aload_n 0), o0 9 (.aload_n 0), oN 10 (.getfield 106) [6, 16, 838], oC 13 (.invokevirtual 109) [936] c_X6_look, oK 16 (.bipush 32) (.int 32), oN 18 (.if_icmp .ne 16) [2], o0 21 (.aload_n 0), o0 22 .dup, oN 23 (.getfield 106) [6, 16, 838], oK 26 (.iconst 1) (.int 1), o0 27 .iadd, oN 28 (.putfield 106) [6, 16, 838], oN 31 (.goto (-23)) [1]]),
  (34, false, [true, false], [o0 34 (.aload_n 0), o0 35 (.aload_n 0), oN 36 (.getfield 106) [6, 16, 838], oN 39 (.putfield 100) [6, 17, 839], o0 42 (.aload_n 0), o0 43 (.aload_n 0), oN 44 (.getfield 106) [6, 16, 838], oC 47 (.invokevirtual 109) [936] c_X6_look, o0 50 (.istore_n 1), o0 51 (.iload_n 1), oN 52 (.ifCond .ge 11) [3], o0 55 (.aload_n 0), oK 56 (.iconst 0) (.int 0), oN 57 (.putfield 121) [6, 18, 840], oN 60 (.goto 214) [15]]),
  (63, false, [true, true], [o0 63 (.iload_n 1), o0 64 .i2l, oV 65 (.ldc2_w 124) [940] (.long 97), oV 68 (.ldc2_w 126) [941] (.long 122), oC 71 (.invokestatic 90) [921] c_X6_in, oN 74 (.ifCond .eq 42) [5], o0 77 (.aload_n 0), oK 78 (.iconst 1) (.int 1), oN 79 (.putfield 121) [6, 18, 840], oN 82 .nop [4]]),
  (82, true, [true, false], [o0 82 (.aload_n 0), o0 83 (.aload_n 0), oN 84 (.getfield 106) [6, 16, 838], oC 87 (.invokevirtual 109) [936] c_X6_look, o0 90 .i2l, oV 91 (.ldc2_w 124) [940] (.long 97), oV 94 (.ldc2_w 126) [941] (.long 122), oC 97 (.invokestatic 90) [921] c_X6_in, oN 100 (.ifCond .eq 174) [15], o0 103 (.aload_n 0), o0 104 .dup, oN 105 (.getfield 106) [6, 16, 838], oK 108 (.iconst 1) (.int 1), o0 109 .iadd, oN 110 (.putfield 106) [6, 16, 838], oN 113 (.goto (-31)) [4]]),
  (116, false, [true, true], [o0 116 (.iload_n 1), o0 117 .i2l, oV 118 (.ldc2_w 128) [942] (.long 48), oV 121 (.ldc2_w 130) [943] (.long 57), oC 124 (.invokestatic 90) [921] c_X6_in, oN 127 (.ifCond .eq 116) [12], o0 130 (.aload_n 0), oK 131 (.iconst 2) (.int 2), oN 132 (.putfield 121) [6, 18, 840], o0 135 (.aload_n 0), oK 136 (.iconst 0) (.int 0), oN 137 (.putfield 132) [6, 19, 841], oN 140 .nop [6]]),
  (140, true, [true, false], [o0 140 (.aload_n 0), o0 141 (.aload_n 0), oN 142 (.getfield 106) [6, 16, 838], oC 145 (.invokevirtual 109) [936] c_X6_look, o0 148 .i2l, oV 149 (.ldc2_w 128) [942] (.long 48), oV 152 (.ldc2_w 130) [943] (.long 57), oC 155 (.invokestatic 90) [921] c_X6_in, oN 158 (.ifCond .eq 59) [9], o0 161 (.aload_n 0), o0 162 (.aload_n 0), oN 163 (.getfield 106) [6, 16, 838], o0 166 (.aload_n 0), oN 167 (.getfield 100) [6, 17, 839], o0 170 .isub, oK 171 (.iconst 2) (.int 2), oN 172 (.if_icmp .ge 25) [7], oK 175 (.bipush 10) (.int 10), o0 177 (.aload_n 0), oN 178 (.getfield 132) [6, 19, 841], o0 181 .imul, o0 182 (.aload_n 0), o0 183 (.aload_n 0), oN 184 (.getfield 106) [6, 16, 838], oC 187 (.invokevirtual 109) [936] c_X6_look, o0 190 .iadd, oK 191 (.bipush 48) (.int 48), o0 193 .isub, oN 194 (.goto 7) [8]]),
  (197, false, [true, false], [o0 197 (.aload_n 0), oN 198 (.getfield 132) [6, 19, 841], oN 201 .nop [8]]),
  (201, false, [true, false], [oN 201 (.putfield 132) [6, 19, 841], o0 204 (.aload_n 0), o0 205 .dup, oN 206 (.getfield 106) [6, 16, 838], oK 209 (.iconst 1) (.int 1), o0 210 .iadd, oN 211 (.putfield 106) [6, 16, 838], oN 214 (.goto (-74)) [6]]),
  (217, false, [true, false], [o0 217 (.aload_n 0), o0 218 (.aload_n 0), oN 219 (.getfield 106) [6, 16, 838], o0 222 (.aload_n 0), oN 223 (.getfield 100) [6, 17, 839], o0 226 .isub, oK 227 (.iconst 2) (.int 2), oN 228 (.if_icmp .gt 7) [10], oK 231 (.iconst 1) (.int 1), oN 232 (.goto 4) [11]]),
  (235, false, [false, false], [oK 235 (.iconst 0) (.int 0), oN 236 .nop [11]]),
  (236, false, [false, false], [oK 236 (.iconst 1) (.int 1), oC 237 (.invokevirtual 135) [944] c_X6_must, oN 240 (.goto 34) [15]]),
  (243, false, [true, true], [o0 243 (.aload_n 0), oK 244 (.iconst 3) (.int 3), oN 245 (.putfield 121) [6, 18, 840], o0 248 (.aload_n 0), o0 249 (.iload_n 1), oK 250 (.bipush 59) (.int 59), oN 252 (.if_icmp .ne 7) [13], oK 255 (.iconst 1) (.int 1), oN 256 (.goto 4) [14]]),
  (259, false, [true, false], [oK 259 (.iconst 0) (.int 0), oN 260 .nop [14]]),
  (260, false, [true, false], [oK 260 (.iconst 1) (.int 1), oC 261 (.invokevirtual 135) [944] c_X6_must, o0 264 (.aload_n 0), o0 265 .dup, oN 266 (.getfield 106) [6, 16, 838], oK 269 (.iconst 1) (.int 1), o0 270 .iadd, oN 271 (.putfield 106) [6, 16, 838], oN 274 .nop [15]]),
  (274, false, [false, false], [o0 274 .return_])]
set_option maxRecDepth 100000 in
theorem ck_X6_next : s_ck RX6 cX6_next 2 1 25 k_X6_next = true := by decide +kernel

set_option maxRecDepth 100000 in
set_option maxHeartbeats 4000000 in
theorem ok_X6_next : s_Ok c_X6_next := by
  refine s_ok_of k_X6_next (by decide +kernel) sta_X6_next ck_X6_next (And.intro ok_X6_look (And.intro ok_X6_look (And.intro ok_X6_in (And.intro ok_X6_look (And.intro ok_X6_in (And.intro ok_X6_in (And.intro ok_X6_look (And.intro ok_X6_in (And.intro ok_X6_look (And.intro ok_X6_must (And.intro ok_X6_must trivial))))))))))) ?_
  rintro vs L ⟨s, A, x, p0, t, rfl, rfl, hp, hpt, ht, ht2⟩
  refine ⟨rfl, fun G hG => ?_⟩
  have fin : ∀ f : zT, x_nx (A 8) (s 15) x = f → s_PP none false c_X6_next.2.2.2.2.2 [.ref 0] (mdZ s A x) none (mdZ s A f) := fun f hf => ⟨rfl, ⟨rfl, by
    show mdZ s A f = mdR (mdZ s A x) (x_nx (bF (mdZ s A x) 8) (oI (mdZ s A x) 0 15) (rX (mdZ s A x)))
    rw [zR, zM, zB8, zO15, hf]⟩, fun h => by cases h⟩
  refine hG 0 _ _ _ (And.intro (fun h => ?_) (fun h => ?_))
  · have h : 0 < z_fa x := h
    exact fin x (by rw [x_nx, if_pos h])
  have h : ¬ 0 < z_fa x := h
  have hut := p_ru_le (A 8) (t := t) 32 32 (by decide) ht2 161 p0 hpt
  have fin1 : ∀ f : zT, x_n1 (A 8) (nI t) x (p_ru (A 8) (nI t) 32 32 161 p0) = f → s_PP none false c_X6_next.2.2.2.2.2 [.ref 0] (mdZ s A x) none (mdZ s A f) := fun f hf => fin f (by rw [← hf, x_nx, if_neg h, ht, hp, nI_clamp (by omega)])
  obtain ⟨u, hu⟩ : ∃ u, u = p_ru (A 8) (nI t) 32 32 161 p0 := ⟨_, rfl⟩
  rw [← hu] at fin1 hut
  have lkp : ∀ (y : zT) (p : Nat), p ≤ t → ∃ (s' : Nat → Int32) (A' : Nat → Nat → Int32) (i : Int32) (j t : Nat), ([.ref 0, .int (nI p)] : sS) = [.ref 0, .int i] ∧ mdZ s A y = mdW s' A' ∧ i = nI j ∧ j < 1000 ∧ s' 15 = nI t ∧ t ≤ 160 := fun y p hp => ⟨zs s y, zA A y, _, p, t, rfl, mdZ_W s A y, rfl, by omega, ht, ht2⟩
  have loop4 : ∀ (f p : Nat), p ≤ t → t < f + p → p_ru (A 8) (nI t) 97 122 f p = p_ru (A 8) (nI t) 97 122 161 u → ¬ p_mlk (A 8) (nI t) (nI u) < 0 → ¬ p_rg 97 122 (p_mlk (A 8) (nI t) (nI u)) = 0 → G 4 [some (.ref 0), none] [] (mdZ s A (x_n3 x p u 1)) := by
    intro f
    induction f with
    | zero => intro p hpt hf; omega
    | succ f ih =>
      intro p hpt hf hq h1 h2
      refine hG 4 _ _ _ (And.intro (lkp (x_n3 x p u 1) p hpt) ?_)
      intro r hr
      obtain ⟨c, hc⟩ : ∃ c, c = p_mlk (A 8) (nI t) (nI p) := ⟨_, rfl⟩
      obtain rfl : r = some (.int c) := by rw [hc, ← ht]; exact hr
      refine And.intro ⟨_, _, _, rfl⟩ ?_
      intro r hr
      obtain ⟨g, hg⟩ : ∃ g, g = p_rg 97 122 c := ⟨_, rfl⟩
      obtain rfl : r = some (.int g) := by rw [hg, p_rg, ← p_in64_i]; exact hr
      refine And.intro (fun h3 => ?_) (fun h3 => ?_)
      · have h3 : g = 0 := h3
        exact fin1 (x_n3 x p u 1) (by rw [x_n1, if_neg h1, if_neg h2, ← hq, p_ru, ← hc, ← hg, if_pos h3])
      · have h3 : ¬ g = 0 := h3
        have hlt : p < t := by
          rcases Nat.lt_or_ge p t with r | r
          · exact r
          · rw [hg, hc, p_mlk_o ht2 r (by omega)] at h3; exact absurd (p_rg_m1 (by decide)) h3
        have k := ih (p + 1) (by omega) (by omega) (by rw [← hq, p_ru, ← hc, ← hg, if_neg h3]) h1 h2
        rw [x_n3, ← nI_1] at k
        exact k
  have loop6 : ∀ (f p : Nat), u ≤ p → p ≤ t → t < f + p → p_ru (A 8) (nI t) 48 57 f p = p_ru (A 8) (nI t) 48 57 161 u → ¬ p_mlk (A 8) (nI t) (nI u) < 0 → p_rg 97 122 (p_mlk (A 8) (nI t) (nI u)) = 0 → ¬ p_rg 48 57 (p_mlk (A 8) (nI t) (nI u)) = 0 → G 6 [some (.ref 0), none] [] (mdZ s A (u_va (x_n3 x p u 2) (p_mv (A 8) (nI t) u (p - u)))) := by
    intro f
    induction f with
    | zero => intro p hup hpt hf; omega
    | succ f ih =>
      intro p hup hpt hf hq h1 h2 h22
      refine hG 6 _ _ _ (And.intro (lkp (u_va (x_n3 x p u 2) (p_mv (A 8) (nI t) u (p - u))) p hpt) ?_)
      intro r hr
      obtain ⟨c, hc⟩ : ∃ c, c = p_mlk (A 8) (nI t) (nI p) := ⟨_, rfl⟩
      obtain rfl : r = some (.int c) := by rw [hc, ← ht]; exact hr
      refine And.intro ⟨_, _, _, rfl⟩ ?_
      intro r hr
      obtain ⟨g, hg⟩ : ∃ g, g = p_rg 48 57 c := ⟨_, rfl⟩
      obtain rfl : r = some (.int g) := by rw [hg, p_rg, ← p_in64_i]; exact hr
      refine And.intro (fun h3 => ?_) (fun h3 => ?_)
      · have h3 : g = 0 := h3
        have hend : p_ru (A 8) (nI t) 48 57 161 u = p := by rw [← hq, p_ru, ← hc, ← hg, if_pos h3]
        have hq1 : ∀ b : Int32, b = (if 2 < p - u then 0 else 1) → x_n1 (A 8) (nI t) x u = x_mu (u_va (x_n3 x p u 2) (p_mv (A 8) (nI t) u (p - u))) b 1 := by
          intro b hb
          rw [x_n1, if_neg h1, if_pos h2, if_neg h22, hend, hb]
        refine And.intro (fun h4 => ?_) (fun h4 => ?_)
        · have h4 : (2 : Int32) < nI p - nI u := h4
          rw [p_sub_nI hup (by omega), show (2 : Int32) = nI 2 from rfl, nI_ltI (by omega) (by omega)] at h4
          refine And.intro ⟨s, A, u_va (x_n3 x p u 2) (p_mv (A 8) (nI t) u (p - u)), _, _, rfl, rfl⟩ ?_
          rintro r L' ⟨rfl, hL⟩
          replace hL : L' = mdR (mdZ s A (u_va (x_n3 x p u 2) (p_mv (A 8) (nI t) u (p - u)))) (x_mu (rX (mdZ s A (u_va (x_n3 x p u 2) (p_mv (A 8) (nI t) u (p - u))))) (0) (1)) := hL
          rw [zR, zM] at hL
          obtain ⟨y, hy⟩ : ∃ q, q = x_mu (u_va (x_n3 x p u 2) (p_mv (A 8) (nI t) u (p - u))) (0) (1) := ⟨_, rfl⟩
          rw [← hy] at hL
          subst hL
          exact fin1 y (by rw [hy]; exact hq1 0 (by rw [if_pos h4]))
        · have h4 : ¬ (2 : Int32) < nI p - nI u := h4
          rw [p_sub_nI hup (by omega), show (2 : Int32) = nI 2 from rfl, nI_ltI (by omega) (by omega)] at h4
          refine And.intro ⟨s, A, u_va (x_n3 x p u 2) (p_mv (A 8) (nI t) u (p - u)), _, _, rfl, rfl⟩ ?_
          rintro r L' ⟨rfl, hL⟩
          replace hL : L' = mdR (mdZ s A (u_va (x_n3 x p u 2) (p_mv (A 8) (nI t) u (p - u)))) (x_mu (rX (mdZ s A (u_va (x_n3 x p u 2) (p_mv (A 8) (nI t) u (p - u))))) (1) (1)) := hL
          rw [zR, zM] at hL
          obtain ⟨y, hy⟩ : ∃ q, q = x_mu (u_va (x_n3 x p u 2) (p_mv (A 8) (nI t) u (p - u))) (1) (1) := ⟨_, rfl⟩
          rw [← hy] at hL
          subst hL
          exact fin1 y (by rw [hy]; exact hq1 1 (by rw [if_neg h4]))
      · have h3 : ¬ g = 0 := h3
        have hlt : p < t := by
          rcases Nat.lt_or_ge p t with r | r
          · exact r
          · rw [hg, hc, p_mlk_o ht2 r (by omega)] at h3; exact absurd (p_rg_m1 (by decide)) h3
        have k := ih (p + 1) (by omega) (by omega) (by omega) (by rw [← hq, p_ru, ← hc, ← hg, if_neg h3]) h1 h2 h22
        have ep : p + 1 - u = (p - u) + 1 := by omega
        have eu : u + (p - u) = p := by omega
        rw [ep, p_mv, eu, x_n3, ← nI_1] at k
        refine And.intro (fun h4 => ?_) (fun h4 => ?_)
        · have h4 : nI p - nI u < (2 : Int32) := h4
          rw [p_sub_nI hup (by omega), show (2 : Int32) = nI 2 from rfl, nI_ltI (by omega) (by omega)] at h4
          rw [if_pos h4, ← hc] at k
          refine And.intro (lkp (u_va (x_n3 x p u 2) (p_mv (A 8) (nI t) u (p - u))) p hpt) ?_
          intro r hr
          obtain rfl : r = some (.int c) := by rw [hc, ← ht]; exact hr
          exact k
        · have h4 : ¬ nI p - nI u < (2 : Int32) := h4
          rw [p_sub_nI hup (by omega), show (2 : Int32) = nI 2 from rfl, nI_ltI (by omega) (by omega)] at h4
          rw [if_neg h4] at k
          exact k
  have loop1 : ∀ (f p : Nat), p ≤ t → t < f + p → p_ru (A 8) (nI t) 32 32 f p = u → G 1 [some (.ref 0), none] [] (mdZ s A (u_po x (nI p))) := by
    intro f
    induction f with
    | zero => intro p hpt hf; omega
    | succ f ih =>
      intro p hpt hf hq
      refine hG 1 _ _ _ (And.intro (lkp (u_po x (nI p)) p hpt) ?_)
      intro r hr
      obtain ⟨c, hc⟩ : ∃ c, c = p_mlk (A 8) (nI t) (nI p) := ⟨_, rfl⟩
      obtain rfl : r = some (.int c) := by rw [hc, ← ht]; exact hr
      refine And.intro (fun h3 => ?_) (fun h3 => ?_)
      · have h3 : c = 32 := h3
        have h4 : ¬ p_rg 32 32 c = 0 := fun q => (p_rg_1 _ _).mp q h3
        have hlt : p < t := by
          rcases Nat.lt_or_ge p t with r | r
          · exact r
          · rw [hc, p_mlk_o ht2 r (by omega)] at h4; exact absurd (p_rg_m1 (by decide)) h4
        have k := ih (p + 1) (by omega) (by omega) (by rw [← hq, p_ru, ← hc, if_neg h4])
        rw [← nI_1] at k
        exact k
      · have h3 : ¬ c = 32 := h3
        have h4 : p_rg 32 32 c = 0 := (p_rg_1 _ _).mpr h3
        have hpu : p = u := by rw [← hq, p_ru, ← hc, if_pos h4]
        subst hpu
        refine And.intro (lkp (u_fr (u_po x (nI p)) (nI p)) p hpt) ?_
        intro r hr
        obtain rfl : r = some (.int c) := by rw [hc, ← ht]; exact hr
        refine And.intro (fun h5 => ?_) (fun h5 => ?_)
        · have h5 : c < 0 := h5
          exact fin1 (x_n3 x p p 0) (by rw [x_n1, ← hc, if_pos h5])
        have h5 : ¬ c < 0 := h5
        refine And.intro ⟨_, _, _, rfl⟩ ?_
        intro r hr
        obtain ⟨g, hg⟩ : ∃ g, g = p_rg 97 122 c := ⟨_, rfl⟩
        obtain rfl : r = some (.int g) := by rw [hg, p_rg, ← p_in64_i]; exact hr
        rw [hc] at hg h5
        refine And.intro (fun h6 => ?_) (fun h6 => ?_)
        · have h6 : g = 0 := h6
          rw [hg] at h6
          refine And.intro ⟨_, _, _, rfl⟩ ?_
          intro r hr
          obtain ⟨g2, hg2⟩ : ∃ g, g = p_rg 48 57 c := ⟨_, rfl⟩
          obtain rfl : r = some (.int g2) := by rw [hg2, p_rg, ← p_in64_i]; exact hr
          rw [hc] at hg2
          refine And.intro (fun h7 => ?_) (fun h7 => ?_)
          · have h7 : g2 = 0 := h7
            rw [hg2] at h7
            have hq3 : ∀ b : Int32, b = (if c = 59 then 1 else 0) → x_n1 (A 8) (nI t) x p = u_po (x_mu (x_n3 x p p 3) b 1) (z_po (x_mu (x_n3 x p p 3) b 1) + 1) := by
              intro b hb
              rw [x_n1, if_neg h5, if_pos h6, if_pos h7, ← hc, hb, x_mu_po, show z_po (x_n3 x p p 3) = nI p from rfl, nI_1]
            refine And.intro (fun h8 => ?_) (fun h8 => ?_)
            · have h8 : c = 59 := h8
              refine And.intro ⟨s, A, x_n3 x p p 3, _, _, rfl, rfl⟩ ?_
              rintro r L' ⟨rfl, hL⟩
              replace hL : L' = mdR (mdZ s A (x_n3 x p p 3)) (x_mu (rX (mdZ s A (x_n3 x p p 3))) (1) (1)) := hL
              rw [zR, zM] at hL
              obtain ⟨y, hy⟩ : ∃ q, q = x_mu (x_n3 x p p 3) (1) (1) := ⟨_, rfl⟩
              rw [← hy] at hL
              subst hL
              exact fin1 (u_po y (z_po y + 1)) (by rw [hy]; exact hq3 1 (by rw [if_pos h8]))
            · have h8 : ¬ c = 59 := h8
              refine And.intro ⟨s, A, x_n3 x p p 3, _, _, rfl, rfl⟩ ?_
              rintro r L' ⟨rfl, hL⟩
              replace hL : L' = mdR (mdZ s A (x_n3 x p p 3)) (x_mu (rX (mdZ s A (x_n3 x p p 3))) (0) (1)) := hL
              rw [zR, zM] at hL
              obtain ⟨y, hy⟩ : ∃ q, q = x_mu (x_n3 x p p 3) (0) (1) := ⟨_, rfl⟩
              rw [← hy] at hL
              subst hL
              exact fin1 (u_po y (z_po y + 1)) (by rw [hy]; exact hq3 0 (by rw [if_neg h8]))
          · have h7 : ¬ g2 = 0 := h7
            rw [hg2] at h7
            have k := loop6 161 p (Nat.le_refl _) hpt (by omega) rfl h5 h6 h7
            rw [Nat.sub_self] at k
            exact k
        · have h6 : ¬ g = 0 := h6
          rw [hg] at h6
          exact loop4 161 p hpt (by omega) rfl h5 h6
  have k := loop1 161 p0 hpt (by omega) hu.symm
  rw [← hp] at k
  exact k
end
section
/-! ===== WishClerkModel: numbers and wishes read ===== -/
def zI (x : zT) (t : Nat) : Prop := ∃ p, z_po x = nI p ∧ p ≤ t
def zJ (x : zT) (t : Nat) : Prop := zI x t ∧ ∃ u, z_fr x = nI u ∧ u ≤ t
theorem zI_pre (s : Nat → Int32) (A : Nat → Nat → Int32) (x : zT) {t : Nat} (h : s 15 = nI t ∧ t ≤ 160 ∧ zI x t) : ∃ (s' : Nat → Int32) (A' : Nat → Nat → Int32) (x' : zT) (p t : Nat), ([.ref 0] : sS) = [.ref 0] ∧ mdZ s A x = mdZ s' A' x' ∧ z_po x' = nI p ∧ p ≤ t ∧ s' 15 = nI t ∧ t ≤ 160 := by
  obtain ⟨h1, h2, p, h3, h4⟩ := h
  exact ⟨s, A, x, p, t, rfl, rfl, h3, h4, h1, h2⟩
theorem x_mu_1 (x : zT) {b : Int32} (f : Int32) (h : ¬ b = 0) : x_mu x b f = x := by rw [x_mu, if_neg h]
theorem x_mu_f (x : zT) (b f : Int32) (h : ¬ z_fa x = 0) : x_mu x b f = x := by
  rw [x_mu, if_neg h]
  split <;> rfl
theorem x_mu_0 (x : zT) (f : Int32) (h : z_fa x = 0) : x_mu x 0 f = u_wr (u_fa x f) (z_fr x) := by rw [x_mu, if_pos rfl, if_pos h]
theorem x_mu_fr (x : zT) (b f : Int32) : z_fr (x_mu x b f) = z_fr x := by
  unfold x_mu
  split
  · split <;> rfl
  · rfl
theorem x_mu_va (x : zT) (b f : Int32) : z_va (x_mu x b f) = z_va x := by
  unfold x_mu
  split
  · split <;> rfl
  · rfl
theorem zJ_mu {x : zT} {t : Nat} (h : zJ x t) (b f : Int32) : zJ (x_mu x b f) t := by
  unfold zJ zI at h ⊢
  rw [x_mu_po, x_mu_fr]; exact h
theorem p_mlk_n {ta : Nat → Int32} {t p : Nat} (ht : t ≤ 160) (hp2 : p < 1000) (h : ¬ p_mlk ta (nI t) (nI p) < 0) : p < t := by
  rcases Nat.lt_or_ge p t with q | q
  · exact q
  · rw [p_mlk_o ht q hp2] at h
    exact absurd (by decide) h
theorem x_nx_I0 {ta : Nat → Int32} {x : zT} {t : Nat} (h2 : t ≤ 160) (h : zI x t) (hf : ¬ 0 < z_fa x) : zJ (x_nx ta (nI t) x) t := by
  obtain ⟨p, h3, h4⟩ := h
  have hut := p_ru_le ta (t := t) 32 32 (by decide) h2 161 p h4
  rw [x_nx, if_neg hf, h3, nI_clamp (by omega)]
  obtain ⟨u, hu⟩ : ∃ u, u = p_ru ta (nI t) 32 32 161 p := ⟨_, rfl⟩
  rw [← hu] at hut ⊢
  unfold x_n1
  by_cases c1 : p_mlk ta (nI t) (nI u) < 0
  · rw [if_pos c1]
    exact ⟨⟨u, rfl, hut.2⟩, u, rfl, hut.2⟩
  have hlt : u < t := p_mlk_n h2 (by omega) c1
  rw [if_neg c1]
  by_cases c2 : p_rg 97 122 (p_mlk ta (nI t) (nI u)) = 0
  rotate_left
  · rw [if_neg c2]
    have e := p_ru_le ta (t := t) 97 122 (by decide) h2 161 u hut.2
    exact ⟨⟨_, rfl, e.2⟩, u, rfl, hut.2⟩
  rw [if_pos c2]
  by_cases c3 : p_rg 48 57 (p_mlk ta (nI t) (nI u)) = 0
  · rw [if_pos c3]
    obtain ⟨y, hy⟩ : ∃ y, y = x_mu (x_n3 x u u 3) (if p_mlk ta (nI t) (nI u) = 59 then 1 else 0) 1 := ⟨_, rfl⟩
    rw [← hy]
    refine ⟨⟨u + 1, rfl, hlt⟩, u, ?_, hut.2⟩
    show z_fr y = nI u
    rw [hy, x_mu_fr]; rfl
  · rw [if_neg c3]
    have e := p_ru_le ta (t := t) 48 57 (by decide) h2 161 u hut.2
    exact zJ_mu (x := u_va (x_n3 x (p_ru ta (nI t) 48 57 161 u) u 2) (p_mv ta (nI t) u (p_ru ta (nI t) 48 57 161 u - u))) ⟨⟨_, rfl, e.2⟩, u, rfl, hut.2⟩ _ _
theorem x_nx_f (ta : Nat → Int32) (ln : Int32) {x : zT} (hf : 0 < z_fa x) : x_nx ta ln x = x := by rw [x_nx, if_pos hf]
theorem x_nx_I {ta : Nat → Int32} {x : zT} {t : Nat} (h2 : t ≤ 160) (h : zJ x t) : zJ (x_nx ta (nI t) x) t := by
  by_cases hf : 0 < z_fa x
  · rw [x_nx_f _ _ hf]; exact h
  · exact x_nx_I0 h2 h.1 hf
def x_lk1 (x : zT) : zT := x_mu x (if z_so x = 2 then 1 else 0) 2
def x_lk (x : zT) (lo hi : Int32) : zT := x_mu (x_lk1 x) (p_rg lo hi (z_va x)) 3
def r_lk (x : zT) (lo hi : Int32) : Int32 := if z_fa (x_lk x lo hi) = 0 then z_va x else 0
theorem x_lk_va (x : zT) (lo hi : Int32) : z_va (x_lk x lo hi) = z_va x := by rw [x_lk, x_mu_va, x_lk1, x_mu_va]
theorem x_lk_J {x : zT} {t : Nat} (h : zJ x t) (lo hi : Int32) : zJ (x_lk x lo hi) t := zJ_mu (zJ_mu h _ _) _ _
def c_X6_looked : sCtr := ((yX6_looked, cX6_looked, 3, (some .int)), (7, 2, 1, 25), false,
  mdfp,
  fun vs L => ∃ (s : Nat → Int32) (A : Nat → Nat → Int32) (x : zT) (lo hi : Int32), vs = [.ref 0, .int lo, .int hi] ∧ L = mdZ s A x,
  fun vs L r L' => r = some (.int (r_lk (rX L) (vI vs 1) (vI vs 2))) ∧ L' = mdR L (x_lk (rX L) (vI vs 1) (vI vs 2)))
theorem sta_X6_looked : s_Sta c_X6_looked := ⟨⟨by decide +kernel, by decide +kernel, by decide +kernel⟩, List.mem_of_getElem? (i := 990) (by decide +kernel), List.mem_of_getElem? (i := 70) (by decide +kernel), ⟨List.mem_of_getElem? (i := 989) (by decide +kernel), List.mem_of_getElem? (i := 41) (by decide +kernel), Or.inl ⟨_, rfl, rfl⟩⟩⟩

def k_X6_looked : List sBk := [
  (0, false, [true, true, true], [o0 0 (.aload_n 0), oN 1 (.getfield 97) [6, 20, 842], oN 4 (.ifCond .ne 21) [3], o0 7 (.aload_n 0), o0 8 (.aload_n 0), oN 9 (.getfield 121) [6, 18, 840], oK 12 (.iconst 2) (.int 2), oN 13 (.if_icmp .ne 7) [1], oK 16 (.iconst 1) (.int 1), oN 17 (.goto 4) [2]]),
  (20, false, [true, true, true], [oK 20 (.iconst 0) (.int 0), oN 21 .nop [2]]),
  (21, false, [true, true, true], [oK 21 (.iconst 2) (.int 2), oC 22 (.invokevirtual 135) [944] c_X6_must, oN 25 .nop [3]]),
  (25, true, [true, true, true], [o0 25 (.aload_n 0), oN 26 (.getfield 97) [6, 20, 842], oN 29 (.ifCond .ne 20) [4], o0 32 (.aload_n 0), o0 33 (.aload_n 0), oN 34 (.getfield 132) [6, 19, 841], o0 37 .i2l, o0 38 (.iload_n 1), o0 39 .i2l, o0 40 (.iload_n 2), o0 41 .i2l, oC 42 (.invokestatic 90) [921] c_X6_in, oK 45 (.iconst 3) (.int 3), oC 46 (.invokevirtual 135) [944] c_X6_must, oN 49 .nop [4]]),
  (49, true, [true, false, false], [o0 49 (.aload_n 0), oN 50 (.getfield 97) [6, 20, 842], oN 53 (.ifCond .ne 10) [5], o0 56 (.aload_n 0), oN 57 (.getfield 132) [6, 19, 841], oN 60 (.goto 4) [6]]),
  (63, false, [false, false, false], [oK 63 (.iconst 0) (.int 0), oN 64 .nop [6]]),
  (64, false, [false, false, false], [o0 64 .ireturn])]
set_option maxRecDepth 100000 in
theorem ck_X6_looked : s_ck RX6 cX6_looked 3 1 25 k_X6_looked = true := by decide +kernel

set_option maxRecDepth 100000 in
set_option maxHeartbeats 4000000 in
theorem ok_X6_looked : s_Ok c_X6_looked := by
  refine s_ok_of k_X6_looked (by decide +kernel) sta_X6_looked ck_X6_looked (And.intro ok_X6_must (And.intro ok_X6_in (And.intro ok_X6_must trivial))) ?_
  rintro vs L ⟨s, A, x, lo, hi, rfl, rfl⟩
  refine ⟨rfl, fun G hG => ?_⟩
  have fin : ∀ a : Int32, a = r_lk x lo hi → s_PP (some .int) false c_X6_looked.2.2.2.2.2 [.ref 0, .int lo, .int hi] (mdZ s A x) (some (.int a)) (mdZ s A (x_lk x lo hi)) := fun a ha => ⟨rfl, ⟨by
    show some (Value.int a) = some (Value.int (r_lk (rX (mdZ s A x)) lo hi))
    rw [zR, ha], by
    show mdZ s A (x_lk x lo hi) = mdR (mdZ s A x) (x_lk (rX (mdZ s A x)) lo hi)
    rw [zR, zM]⟩, fun h => by cases h⟩
  have g4 : ∀ y, y = x_lk x lo hi → G 4 [some (.ref 0), none, none] [] (mdZ s A y) := by
    intro y hy
    have fin' := fin
    rw [← hy] at fin'
    refine hG 4 _ _ _ (And.intro (fun h => ?_) (fun h => ?_))
    · have h : z_fa y = 0 := h
      refine fin' (z_va y) ?_
      rw [r_lk, ← hy, if_pos h, hy, x_lk_va]
    · have h : ¬ z_fa y = 0 := h
      exact fin' _ (by rw [r_lk, ← hy, if_neg h])
  have g3 : ∀ y, y = x_lk1 x → G 3 [some (.ref 0), some (.int lo), some (.int hi)] [] (mdZ s A y) := by
    intro y hy
    refine hG 3 _ _ _ (And.intro (fun h => ?_) (fun h => ?_))
    · have e19 : z_va y = z_va x := by rw [hy]; exact x_mu_va _ _ _
      refine And.intro ⟨_, _, _, rfl⟩ ?_
      intro r hr
      obtain rfl : r = some (.int (p_rg lo hi (z_va x))) := by
        rw [p_rg, ← p_in64_i, ← e19]; exact hr
      refine And.intro ⟨s, A, y, _, _, rfl, rfl⟩ ?_
      rintro r L' ⟨rfl, hL⟩
      replace hL : L' = mdR (mdZ s A (y)) (x_mu (rX (mdZ s A (y))) (p_rg lo hi (z_va x)) (3)) := hL
      rw [zR, zM] at hL
      obtain ⟨y2, hy2⟩ : ∃ q, q = x_mu (y) (p_rg lo hi (z_va x)) (3) := ⟨_, rfl⟩
      rw [← hy2] at hL
      subst hL
      exact g4 y2 (by rw [hy2, hy, x_lk])
    · have h : ¬ z_fa y = 0 := h
      exact g4 y (by rw [x_lk, ← hy, x_mu_f _ _ _ h])
  refine hG 0 _ _ _ (And.intro (fun h => ?_) (fun h => ?_))
  · have h : z_fa x = 0 := h
    refine And.intro (fun h2 => ?_) (fun h2 => ?_)
    · have h2 : z_so x = 2 := h2
      refine And.intro ⟨s, A, x, _, _, rfl, rfl⟩ ?_
      rintro r L' ⟨rfl, hL⟩
      replace hL : L' = mdR (mdZ s A (x)) (x_mu (rX (mdZ s A (x))) (1) (2)) := hL
      rw [zR, zM] at hL
      obtain ⟨y, hy⟩ : ∃ q, q = x_mu (x) (1) (2) := ⟨_, rfl⟩
      rw [← hy] at hL
      subst hL
      exact g3 y (by rw [hy, x_lk1, if_pos h2])
    · have h2 : ¬ z_so x = 2 := h2
      refine And.intro ⟨s, A, x, _, _, rfl, rfl⟩ ?_
      rintro r L' ⟨rfl, hL⟩
      replace hL : L' = mdR (mdZ s A (x)) (x_mu (rX (mdZ s A (x))) (0) (2)) := hL
      rw [zR, zM] at hL
      obtain ⟨y, hy⟩ : ∃ q, q = x_mu (x) (0) (2) := ⟨_, rfl⟩
      rw [← hy] at hL
      subst hL
      exact g3 y (by rw [hy, x_lk1, if_neg h2])
  · have h : ¬ z_fa x = 0 := h
    exact g3 x (by rw [x_lk1, x_mu_f _ _ _ h])
def c_X6_readNumber : sCtr := ((yX6_readNumber, cX6_readNumber, 4, (some .int)), (7, 2, 2, 47), false,
  mdfp,
  fun vs L => ∃ (s : Nat → Int32) (A : Nat → Nat → Int32) (x : zT) (lo hi : Int32) (t : Nat), vs = [.ref 0, .int lo, .int hi] ∧ L = mdZ s A x ∧ s 15 = nI t ∧ t ≤ 160 ∧ zJ x t,
  fun vs L r L' => r = some (.int (r_lk (rX L) (vI vs 1) (vI vs 2))) ∧ L' = mdR L (x_nx (bF L 8) (oI L 0 15) (x_lk (rX L) (vI vs 1) (vI vs 2))))
theorem sta_X6_readNumber : s_Sta c_X6_readNumber := ⟨⟨by decide +kernel, by decide +kernel, by decide +kernel⟩, List.mem_of_getElem? (i := 986) (by decide +kernel), List.mem_of_getElem? (i := 70) (by decide +kernel), ⟨List.mem_of_getElem? (i := 985) (by decide +kernel), List.mem_of_getElem? (i := 40) (by decide +kernel), Or.inl ⟨_, rfl, rfl⟩⟩⟩

def k_X6_readNumber : List sBk := [
  (0, false, [true, true, true, false], [o0 0 (.aload_n 0), o0 1 (.iload_n 1), o0 2 (.iload_n 2), oC 3 (.invokevirtual 139) [987] c_X6_looked, o0 6 (.istore_n 3), o0 7 (.aload_n 0), oC 8 (.invokevirtual 143) [932] c_X6_next, o0 11 (.iload_n 3), o0 12 .ireturn])]
set_option maxRecDepth 100000 in
theorem ck_X6_readNumber : s_ck RX6 cX6_readNumber 4 2 47 k_X6_readNumber = true := by decide +kernel

set_option maxRecDepth 100000 in
set_option maxHeartbeats 4000000 in
theorem ok_X6_readNumber : s_Ok c_X6_readNumber := by
  refine s_ok_of k_X6_readNumber (by decide +kernel) sta_X6_readNumber ck_X6_readNumber (And.intro ok_X6_looked (And.intro ok_X6_next trivial)) ?_
  rintro vs L ⟨s, A, x, lo, hi, t, rfl, rfl, ht, ht2, hJ⟩
  refine ⟨rfl, fun G hG => ?_⟩
  refine hG 0 _ _ _ (And.intro ⟨s, A, x, lo, hi, rfl, rfl⟩ ?_)
  rintro r L' ⟨hr, hL⟩
  replace hL : L' = mdR (mdZ s A x) (x_lk (rX (mdZ s A x)) lo hi) := hL
  replace hr : r = some (.int (r_lk (rX (mdZ s A x)) lo hi)) := hr
  rw [zR, zM] at hL
  rw [zR] at hr
  obtain ⟨y, hy⟩ : ∃ y, y = x_lk x lo hi := ⟨_, rfl⟩
  obtain ⟨v, hv⟩ : ∃ v, v = r_lk x lo hi := ⟨_, rfl⟩
  rw [← hy] at hL
  rw [← hv] at hr
  subst hL hr
  refine And.intro (zI_pre s A (y) ⟨ht, ht2, (by rw [hy]; exact (x_lk_J hJ lo hi).1)⟩) ?_
  rintro r L' ⟨rfl, hL⟩
  replace hL : L' = mdR (mdZ s A (y)) (x_nx (bF (mdZ s A (y)) 8) (oI (mdZ s A (y)) 0 15) (rX (mdZ s A (y)))) := hL
  rw [zR, zM, zB8, zO15] at hL
  obtain ⟨y2, hy2⟩ : ∃ q, q = x_nx (A 8) (s 15) (y) := ⟨_, rfl⟩
  rw [← hy2] at hL
  subst hL
  refine ⟨rfl, ⟨?_, ?_⟩, fun h => by cases h⟩
  · show some (Value.int v) = some (Value.int (r_lk (rX (mdZ s A x)) lo hi))
    rw [zR, hv]
  · show mdZ s A y2 = mdR (mdZ s A x) (x_nx (bF (mdZ s A x) 8) (oI (mdZ s A x) 0 15) (x_lk (rX (mdZ s A x)) lo hi))
    rw [zR, zM, zB8, zO15, hy2, hy]
def x_wb1 (x : zT) (g : Int32) : zT := x_mu (x_lk x 0 7) (if p_hb g (r_lk x 0 7) = 0 then 1 else 0) 4
def x_wb2 (x : zT) (g : Int32) : zT := if z_fa (x_wb1 x g) = 0 then (if z_hW (x_wb1 x g) < r_lk x 0 7 then u_hW (x_wb1 x g) (r_lk x 0 7) else x_wb1 x g) else x_wb1 x g
theorem x_wb2_J {x : zT} {t : Nat} (h : zJ x t) (g : Int32) : zJ (x_wb2 x g) t := by
  have h1 : zJ (x_wb1 x g) t := zJ_mu (x_lk_J h _ _) _ _
  unfold x_wb2
  split
  · split
    · exact h1
    · exact h1
  · exact h1
def c_X6_readWishBut : sCtr := ((yX6_readWishBut, cX6_readWishBut, 3, (some .int)), (7, 1, 2, 47), false,
  mdfp,
  fun vs L => ∃ (s : Nat → Int32) (A : Nat → Nat → Int32) (x : zT) (g : Int32) (t : Nat), vs = [.ref 0, .int g] ∧ L = mdZ s A x ∧ s 15 = nI t ∧ t ≤ 160 ∧ zJ x t,
  fun vs L r L' => r = some (.int (r_lk (rX L) 0 7)) ∧ L' = mdR L (x_nx (bF L 8) (oI L 0 15) (x_wb2 (rX L) (vI vs 1))))
theorem sta_X6_readWishBut : s_Sta c_X6_readWishBut := ⟨⟨by decide +kernel, by decide +kernel, by decide +kernel⟩, List.mem_of_getElem? (i := 998) (by decide +kernel), List.mem_of_getElem? (i := 70) (by decide +kernel), ⟨List.mem_of_getElem? (i := 997) (by decide +kernel), List.mem_of_getElem? (i := 43) (by decide +kernel), Or.inl ⟨_, rfl, rfl⟩⟩⟩

def k_X6_readWishBut : List sBk := [
  (0, false, [true, true, false], [o0 0 (.aload_n 0), oK 1 (.iconst 0) (.int 0), oK 2 (.bipush 7) (.int 7), oC 4 (.invokevirtual 139) [987] c_X6_looked, o0 7 (.istore_n 2), o0 8 (.aload_n 0), oN 9 (.getfield 97) [6, 20, 842], oN 12 (.ifCond .ne 21) [3], o0 15 (.aload_n 0), o0 16 (.iload_n 1), o0 17 (.iload_n 2), o0 18 .ishr, oK 19 (.iconst 1) (.int 1), o0 20 .iand, oN 21 (.ifCond .ne 7) [1], oK 24 (.iconst 1) (.int 1), oN 25 (.goto 4) [2]]),
  (28, false, [true, false, true], [oK 28 (.iconst 0) (.int 0), oN 29 .nop [2]]),
  (29, false, [true, false, true], [oK 29 (.iconst 4) (.int 4), oC 30 (.invokevirtual 135) [944] c_X6_must, oN 33 .nop [3]]),
  (33, true, [true, false, true], [o0 33 (.aload_n 0), oN 34 (.getfield 97) [6, 20, 842], oN 37 (.ifCond .ne 23) [6], o0 40 (.aload_n 0), o0 41 (.iload_n 2), o0 42 (.aload_n 0), oN 43 (.getfield 79) [6, 13, 835], oN 46 (.if_icmp .le 7) [4], o0 49 (.iload_n 2), oN 50 (.goto 7) [5]]),
  (53, false, [true, false, true], [o0 53 (.aload_n 0), oN 54 (.getfield 79) [6, 13, 835], oN 57 .nop [5]]),
  (57, false, [true, false, true], [oN 57 (.putfield 79) [6, 13, 835], oN 60 .nop [6]]),
  (60, true, [true, false, true], [o0 60 (.aload_n 0), oC 61 (.invokevirtual 143) [932] c_X6_next, o0 64 (.iload_n 2), o0 65 .ireturn])]
set_option maxRecDepth 100000 in
theorem ck_X6_readWishBut : s_ck RX6 cX6_readWishBut 3 2 47 k_X6_readWishBut = true := by decide +kernel

set_option maxRecDepth 100000 in
set_option maxHeartbeats 4000000 in
theorem ok_X6_readWishBut : s_Ok c_X6_readWishBut := by
  refine s_ok_of k_X6_readWishBut (by decide +kernel) sta_X6_readWishBut ck_X6_readWishBut (And.intro ok_X6_looked (And.intro ok_X6_must (And.intro ok_X6_next trivial))) ?_
  rintro vs L ⟨s, A, x, g, t, rfl, rfl, ht, ht2, hJ⟩
  refine ⟨rfl, fun G hG => ?_⟩
  obtain ⟨v, hv⟩ : ∃ v, v = r_lk x 0 7 := ⟨_, rfl⟩
  have g6 : ∀ y, y = x_wb2 x g → G 6 [some (.ref 0), none, some (.int v)] [] (mdZ s A y) := by
    intro y hy
    refine hG 6 _ _ _ ?_
    refine And.intro (zI_pre s A (y) ⟨ht, ht2, (by rw [hy]; exact (x_wb2_J hJ g).1)⟩) ?_
    rintro r L' ⟨rfl, hL⟩
    replace hL : L' = mdR (mdZ s A (y)) (x_nx (bF (mdZ s A (y)) 8) (oI (mdZ s A (y)) 0 15) (rX (mdZ s A (y)))) := hL
    rw [zR, zM, zB8, zO15] at hL
    obtain ⟨y2, hy2⟩ : ∃ q, q = x_nx (A 8) (s 15) (y) := ⟨_, rfl⟩
    rw [← hy2] at hL
    subst hL
    refine ⟨rfl, ⟨?_, ?_⟩, fun h => by cases h⟩
    · show some (Value.int v) = some (Value.int (r_lk (rX (mdZ s A x)) 0 7))
      rw [zR, hv]
    · show mdZ s A y2 = mdR (mdZ s A x) (x_nx (bF (mdZ s A x) 8) (oI (mdZ s A x) 0 15) (x_wb2 (rX (mdZ s A x)) g))
      rw [zR, zM, zB8, zO15, hy2, hy]
  have g3 : ∀ y, y = x_wb1 x g → G 3 [some (.ref 0), none, some (.int v)] [] (mdZ s A y) := by
    intro y hy
    refine hG 3 _ _ _ (And.intro (fun h => ?_) (fun h => ?_))
    · have h : z_fa y = 0 := h
      refine And.intro (fun h2 => ?_) (fun h2 => ?_)
      · have h2 : z_hW y < v := h2
        exact g6 (u_hW y v) (by rw [x_wb2, ← hv, ← hy, if_pos h, if_pos h2])
      · have h2 : ¬ z_hW y < v := h2
        exact g6 y (by rw [x_wb2, ← hv, ← hy, if_pos h, if_neg h2])
    · have h : ¬ z_fa y = 0 := h
      exact g6 y (by rw [x_wb2, ← hv, ← hy, if_neg h])
  refine hG 0 _ _ _ (And.intro ⟨s, A, x, 0, 7, rfl, rfl⟩ ?_)
  rintro r L' ⟨hr, hL⟩
  replace hL : L' = mdR (mdZ s A x) (x_lk (rX (mdZ s A x)) 0 7) := hL
  replace hr : r = some (.int (r_lk (rX (mdZ s A x)) 0 7)) := hr
  rw [zR, zM] at hL
  rw [zR] at hr
  obtain ⟨y, hy⟩ : ∃ y, y = x_lk x 0 7 := ⟨_, rfl⟩
  rw [← hy] at hL
  rw [← hv] at hr
  subst hL hr
  refine And.intro (fun h => ?_) (fun h => ?_)
  · refine And.intro (fun h2 => ?_) (fun h2 => ?_)
    · have h2 : p_hb g v = 0 := by rw [← p_hb_v]; exact h2
      refine And.intro ⟨s, A, y, _, _, rfl, rfl⟩ ?_
      rintro r L' ⟨rfl, hL⟩
      replace hL : L' = mdR (mdZ s A (y)) (x_mu (rX (mdZ s A (y))) (1) (4)) := hL
      rw [zR, zM] at hL
      obtain ⟨y2, hy2⟩ : ∃ q, q = x_mu (y) (1) (4) := ⟨_, rfl⟩
      rw [← hy2] at hL
      subst hL
      exact g3 y2 (by rw [hy2, hy, x_wb1, ← hv, if_pos h2])
    · have h2 : ¬ p_hb g v = 0 := by rw [← p_hb_v]; exact h2
      refine And.intro ⟨s, A, y, _, _, rfl, rfl⟩ ?_
      rintro r L' ⟨rfl, hL⟩
      replace hL : L' = mdR (mdZ s A (y)) (x_mu (rX (mdZ s A (y))) (0) (4)) := hL
      rw [zR, zM] at hL
      obtain ⟨y2, hy2⟩ : ∃ q, q = x_mu (y) (0) (4) := ⟨_, rfl⟩
      rw [← hy2] at hL
      subst hL
      exact g3 y2 (by rw [hy2, hy, x_wb1, ← hv, if_neg h2])
  · have h : ¬ z_fa y = 0 := h
    exact g3 y (by rw [x_wb1, ← hv, ← hy, x_mu_f _ _ _ h])
end
section
/-! ===== WishClerkModel: the costs of rows ===== -/
theorem lt8_orI (a b : Nat) : nI a ||| nI b = nI (a ||| b) := by
  apply Int32.toBitVec_inj.1
  show BitVec.ofNat 32 a ||| BitVec.ofNat 32 b = BitVec.ofNat 32 (a ||| b)
  apply BitVec.eq_of_getLsbD_eq
  intro i hi
  simp [hi]
def lt8 (v : Int32) : Prop := ∃ j : Nat, j < 256 ∧ v = nI j
theorem lt8_or {a b : Int32} : lt8 a → lt8 b → lt8 (a ||| b) := by
  rintro ⟨i, hi, rfl⟩ ⟨j, hj, rfl⟩
  exact ⟨i ||| j, Nat.or_lt_two_pow (n := 8) hi hj, lt8_orI i j⟩
theorem lt8_0 : lt8 0 := ⟨0, by decide, rfl⟩
theorem p_ga_lt8 {f : Nat → Int32} : ∀ {n : Nat}, (∀ i, i < n → lt8 (f i)) → ∀ g, lt8 (p_ga f n g)
  | 0, _, _ => lt8_0
  | n + 1, h, g => by
    rw [p_ga]
    have ih := p_ga_lt8 (f := f) (n := n) (fun i hi => h i (by omega)) g
    split
    · exact ih
    · exact lt8_or ih (h n (by omega))
theorem p_it_lt8 {nd : Nat → Int32} {n : Nat} (h : ∀ i, i < n → lt8 (nd i)) {g : Int32} (hg : lt8 g) : ∀ k, lt8 (p_it nd n 0 g k)
  | 0 => hg
  | k + 1 => by
    rw [p_it, p_st, p_andm1]
    exact lt8_or (p_it_lt8 h hg k) (p_ga_lt8 h _)
theorem lt8_bit {w : Nat} (h : w < 8) : lt8 ((1 : Int32) <<< (nI w &&& 31)) := by
  rw [p_2n w (by omega)]
  exact ⟨2 ^ w, by have := Nat.pow_lt_pow_right (a := 2) (by decide) h; omega, rfl⟩
theorem p_as_lt {on nd cl : Nat → Int32} {n : Nat} (hnd : ∀ i, i < n → lt8 (nd i)) (l0 h0 ba : Int32) {w : Nat} (hw : w < 8) {h : Int32} (hh : lt8 h) (d : Nat) (li : Int32) : p_as on nd cl n l0 h0 ba (nI w) h d li = -4 ∨ lt8 (p_as on nd cl n l0 h0 ba (nI w) h d li) := by
  unfold p_as
  split
  · split
    · exact Or.inr (lt8_or hh (p_it_lt8 hnd (lt8_bit hw) 8))
    · exact Or.inl rfl
  · exact Or.inl rfl
/-- the rows' graph: from a state by a wish, or -4 -/
def p_AS (on nd cl : Nat → Int32) (n : Nat) (l0 h0 ba : Int32) (d : Nat) (li : Int32) (h w : Nat) : Int32 := p_as on nd cl n l0 h0 ba (nI w) (nI h) d li
def p_LB (on nd : Nat → Int32) (n : Nat) (l0 h0 : Int32) (h : Nat) : Int32 := p_lb on nd n l0 h0 (nI h)
def p_fcS (AS : Nat → Nat → Int32) (pr : Nat → Int32) (h k : Nat) (g : Nat → Int32) : Nat → Int32 := fun j => if g h < 1000000 then (if AS h k = -4 then g j else upd g (AS h k).toNatClampNeg (if g h + pr k < g (AS h k).toNatClampNeg then g h + pr k else g (AS h k).toNatClampNeg) j) else g j
def p_fcI (AS : Nat → Nat → Int32) (pr : Nat → Int32) (h : Nat) (g : Nat → Int32) : Nat → Nat → Int32
  | 0 => g
  | k + 1 => p_fcS AS pr h k (p_fcI AS pr h g k)
def p_fc (AS : Nat → Nat → Int32) (pr : Nat → Int32) (h0 n : Nat) : Nat → Nat → Int32
  | 0 => upd (fun _ => 1000000) h0 0
  | h + 1 => p_fcI AS pr h (p_fc AS pr h0 n h) n
def agr (f g : Nat → Int32) : Prop := ∀ j, j < 256 → f j = g j
theorem agr_upd {f g : Nat → Int32} (h : agr f g) (k : Nat) (v : Int32) : agr (upd f k v) (upd g k v) := by
  intro j hj
  unfold upd
  split
  · rfl
  · exact h j hj
theorem p_fcI_stop (AS : Nat → Nat → Int32) (pr : Nat → Int32) (h : Nat) (g : Nat → Int32) {i : Nat} (hs : ¬ p_fcI AS pr h g i h < 1000000) : ∀ d, p_fcI AS pr h g (i + d) = p_fcI AS pr h g i
  | 0 => rfl
  | d + 1 => by
    show p_fcS AS pr h (i + d) (p_fcI AS pr h g (i + d)) = _
    rw [p_fcI_stop AS pr h g hs d]
    funext j
    rw [p_fcS, if_neg hs]
def mdAS (s : Nat → Int32) (A : Nat → Nat → Int32) (e li : Int32) : Nat → Nat → Int32 := p_AS (mOn A) (mNd A) (mCl A) (s 3).toNatClampNeg (A 1 0) (A 1 26) (A 1 1) e.toNatClampNeg li
def c_X6_findCosts : sCtr := ((yX6_findCosts, cX6_findCosts, 7, none), (7, 2, 4, 100), false,
  mdfp,
  fun vs L => ∃ (s : Nat → Int32) (A : Nat → Nat → Int32) (e li : Int32) (n d : Nat), vs = [.ref 0, .int e, .int li] ∧ L = mdW s A ∧ s 3 = nI n ∧ n ≤ 8 ∧ e = nI d ∧ d ≤ 8 ∧ (∀ i, i < n → lt8 (A 1 (10 + i))) ∧ lt8 (A 1 26),
  fun vs L r L' => r = none ∧ ∃ f : Nat → Int32, L' = mdW (oI L 0) (va_up (bF L) 9 f) ∧ agr f (p_fc (mdAS (oI L 0) (bF L) (vI vs 1) (vI vs 2)) (bF L 4) (bF L 1 26).toNatClampNeg (oI L 0 3).toNatClampNeg 256))
theorem sta_X6_findCosts : s_Sta c_X6_findCosts := ⟨⟨by decide +kernel, by decide +kernel, by decide +kernel⟩, List.mem_of_getElem? (i := 1153) (by decide +kernel), List.mem_of_getElem? (i := 70) (by decide +kernel), ⟨List.mem_of_getElem? (i := 1152) (by decide +kernel), List.mem_of_getElem? (i := 59) (by decide +kernel), Or.inl ⟨_, rfl, rfl⟩⟩⟩

def k_X6_findCosts : List sBk := [
  (0, false, [true, true, true, false, false, false, false], [oK 0 (.iconst 0) (.int 0), o0 1 (.istore_n 3), oN 2 .nop [1]]),
  (2, true, [true, true, true, true, false, false, false], [o0 2 (.iload_n 3), oK 3 (.sipush 256) (.int 256), oN 6 (.if_icmp .ge 17) [2], o0 9 (.aload_n 0), oN 10 (.getfield 35) [6, 22, 844], o0 13 (.iload_n 3), oV 14 (.ldc 239) [1154] (.int 1000000), o0 16 .iastore, oK 17 (.iinc 3 1) (.int 1), oN 20 (.goto (-18)) [1]]),
  (23, false, [true, true, true, false, false, false, false], [o0 23 (.aload_n 0), oN 24 (.getfield 35) [6, 22, 844], o0 27 (.aload_n 0), oN 28 (.getfield 7) [6, 0, 822], oK 31 (.bipush 26) (.int 26), o0 33 .iaload, oK 34 (.iconst 0) (.int 0), o0 35 .iastore, oK 36 (.iconst 0) (.int 0), o0 37 (.istore_n 3), oN 38 .nop [3]]),
  (38, true, [true, true, true, true, false, false, false], [o0 38 (.iload_n 3), oK 39 (.sipush 256) (.int 256), oN 42 (.if_icmp .ge 103) [9], oK 45 (.iconst 0) (.int 0), o0 46 (.istore 4), oN 48 .nop [4]]),
  (48, true, [true, true, true, true, true, false, false], [o0 48 (.iload 4), o0 50 (.aload_n 0), oN 51 (.getfield 85) [6, 3, 825], oN 54 (.if_icmp .ge 85) [8], o0 57 (.aload_n 0), oN 58 (.getfield 35) [6, 22, 844], o0 61 (.iload_n 3), o0 62 .iaload, oV 63 (.ldc 239) [1154] (.int 1000000), oN 65 (.if_icmp .ge 74) [8], o0 68 (.aload_n 0), o0 69 (.iload 4), o0 71 (.iload_n 3), o0 72 (.iload_n 1), o0 73 (.iload_n 2), oC 74 (.invokevirtual 228) [1138] c_X6_askedBy, o0 77 (.istore 5), o0 79 (.aload_n 0), oN 80 (.getfield 35) [6, 22, 844], o0 83 (.iload_n 3), o0 84 .iaload, o0 85 (.aload_n 0), oN 86 (.getfield 20) [6, 5, 827], o0 89 (.iload 4), o0 91 .iaload, o0 92 .iadd, o0 93 (.istore 6), o0 95 (.iload 5), oK 97 (.bipush (-4)) (.int (-4)), oN 99 (.if_icmp .eq 34) [7], o0 102 (.aload_n 0), oN 103 (.getfield 35) [6, 22, 844], o0 106 (.iload 5), o0 108 (.iload 6), o0 110 (.aload_n 0), oN 111 (.getfield 35) [6, 22, 844], o0 114 (.iload 5), o0 116 .iaload, oN 117 (.if_icmp .ge 8) [5], o0 120 (.iload 6), oN 122 (.goto 10) [6]]),
  (125, false, [true, true, true, true, true, true, false], [o0 125 (.aload_n 0), oN 126 (.getfield 35) [6, 22, 844], o0 129 (.iload 5), o0 131 .iaload, oN 132 .nop [6]]),
  (132, false, [true, true, true, true, true, false, false], [o0 132 .iastore, oN 133 .nop [7]]),
  (133, false, [true, true, true, true, true, false, false], [oK 133 (.iinc 4 1) (.int 1), oN 136 (.goto (-88)) [4]]),
  (139, false, [true, true, true, true, false, false, false], [oK 139 (.iinc 3 1) (.int 1), oN 142 (.goto (-104)) [3]]),
  (145, false, [false, false, false, false, false, false, false], [o0 145 .return_])]
set_option maxRecDepth 100000 in
theorem ck_X6_findCosts : s_ck RX6 cX6_findCosts 7 4 100 k_X6_findCosts = true := by decide +kernel

set_option maxRecDepth 100000 in
set_option maxHeartbeats 4000000 in
theorem ok_X6_findCosts : s_Ok c_X6_findCosts := by
  refine s_ok_of k_X6_findCosts (by decide +kernel) sta_X6_findCosts ck_X6_findCosts (And.intro ok_X6_askedBy trivial) ?_
  rintro vs L ⟨s, A, e, li, n, d, rfl, rfl, hn, hn8, he, hd, hnd, h0, hh0, hh0e⟩
  refine ⟨rfl, fun G hG => ?_⟩
  have e3 : (s 3).toNatClampNeg = n := by rw [hn, nI_clamp (by omega)]
  have e26 : (A 1 26).toNatClampNeg = h0 := by rw [hh0e, nI_clamp (by omega)]
  obtain ⟨AS, hAS⟩ : ∃ AS, AS = mdAS s A e li := ⟨_, rfl⟩
  have hASe : ∀ h w : Nat, AS h w = p_asM s A (nI w) (nI h) e li := fun h w => by rw [hAS]; rfl
  have hASl : ∀ h w : Nat, h < 256 → w < n → AS h w = -4 ∨ lt8 (AS h w) := by
    intro h w hh hw
    rw [hASe, p_asM, e3]
    exact p_as_lt hnd _ _ _ (by omega) ⟨h, hh, rfl⟩ _ _
  have fin : ∀ f : Nat → Int32, agr f (p_fc AS (A 4) h0 n 256) → s_PP none false c_X6_findCosts.2.2.2.2.2 [.ref 0, .int e, .int li] (mdW s A) none (mdW s (va_up A 9 f)) := fun f hf => ⟨rfl, ⟨rfl, f, rfl, by rw [← e3, ← e26, hAS] at hf; exact hf⟩, fun h => by cases h⟩
  have l3 : ∀ (k h : Nat) (x : Int32) (f : Nat → Int32), h + k = 256 → x = nI h → agr f (p_fc AS (A 4) h0 n h) → G 3 [some (.ref 0), some (.int e), some (.int li), some (.int x), none, none, none] [] (mdW s (va_up A 9 f)) := by
    intro k
    induction k with
    | zero =>
      intro h x f hk hx hf
      refine hG 3 _ _ _ (And.intro (fun q => ?_) (fun q => ?_))
      · rw [hx, show (256 : Int32) = nI 256 from rfl, nI_ltI (by omega) (by omega)] at q; omega
      · exact fin f (by rw [show h = 256 by omega] at hf; exact hf)
    | succ k ih =>
      intro h x f hk hx hf
      have hinh : vp_in x 256 := by rw [hx]; exact vp_in_nI (by omega) (by omega)
      have hxc : x.toNatClampNeg = h := by rw [hx, nI_clamp (by omega)]
      have l4 : ∀ (k2 i : Nat) (y : Int32) (f : Nat → Int32), i + k2 = n → y = nI i → agr f (p_fcI AS (A 4) h (p_fc AS (A 4) h0 n h) i) → G 4 [some (.ref 0), some (.int e), some (.int li), some (.int x), some (.int y), none, none] [] (mdW s (va_up A 9 f)) := by
        intro k2
        induction k2 with
        | zero =>
          intro i y f hi hy hf
          refine hG 4 _ _ _ (And.intro (fun q => ?_) (fun q => ?_))
          · have q : y < s 3 := q
            rw [hy, hn, nI_ltI (by omega) (by omega)] at q; omega
          · exact ih (h + 1) _ f (by omega) (by rw [hx, nI_1]) (by rw [show i = n by omega] at hf; exact hf)
        | succ k2 ih2 =>
          intro i y f hi hy hf
          have hyc : y.toNatClampNeg = i := by rw [hy, nI_clamp (by omega)]
          refine hG 4 _ _ _ (And.intro (fun q => ?_) (fun q => ?_))
          rotate_left
          · have q : ¬ y < s 3 := q
            rw [hy, hn, nI_ltI (by omega) (by omega)] at q; omega
          refine And.intro hinh ?_
          have hfh : f x.toNatClampNeg = p_fcI AS (A 4) h (p_fc AS (A 4) h0 n h) i h := by rw [hxc]; exact hf h (by omega)
          refine And.intro (fun q2 => ?_) (fun q2 => ?_)
          rotate_left
          · have q2 : ¬ f x.toNatClampNeg < 1000000 := q2
            rw [hfh] at q2
            refine ih (h + 1) _ f (by omega) (by rw [hx, nI_1]) ?_
            have e := p_fcI_stop AS (A 4) h (p_fc AS (A 4) h0 n h) q2 (n - i)
            rw [show i + (n - i) = n by omega] at e
            show agr f (p_fcI AS (A 4) h (p_fc AS (A 4) h0 n h) n)
            rw [e]
            exact hf
          have q2 : f x.toNatClampNeg < 1000000 := q2
          refine And.intro ⟨s, va_up A 9 f, _, _, _, _, n, d, rfl, rfl, hn, hn8, he, hd⟩ ?_
          intro r hr
          obtain ⟨th, hth⟩ : ∃ th, th = AS h i := ⟨_, rfl⟩
          obtain rfl : r = some (.int th) := by rw [hth, hASe, ← hx, ← hy]; exact hr
          refine And.intro hinh (And.intro (by rw [hy]; exact vp_in_nI (by omega) (by omega)) ?_)
          have hq2 : p_fcI AS (A 4) h (p_fc AS (A 4) h0 n h) i h < 1000000 := by rw [← hfh]; exact q2
          refine And.intro (fun q3 => ?_) (fun q3 => ?_)
          · have q3 : th = -4 := q3
            refine ih2 (i + 1) _ f (by omega) (by rw [hy, nI_1]) ?_
            intro j hj
            rw [p_fcI, p_fcS, if_pos hq2, ← hth, if_pos q3]
            exact hf j hj
          · have q3 : ¬ th = -4 := q3
            obtain ⟨b, hb, hbe⟩ : lt8 th := by
              rcases hASl h i (by omega) (by omega) with q | q
              · rw [← hth] at q; exact absurd q q3
              · rw [← hth] at q; exact q
            have hbc : th.toNatClampNeg = b := by rw [hbe, nI_clamp (by omega)]
            have hinb : vp_in th 256 := by rw [hbe]; exact vp_in_nI hb (by omega)
            have key : ∀ v : Int32, v = (if f h + A 4 i < f b then f h + A 4 i else f b) → agr (upd f th.toNatClampNeg v) (p_fcI AS (A 4) h (p_fc AS (A 4) h0 n h) (i + 1)) := by
              intro v hv
              rw [hbc, hv]
              intro j hj
              rw [p_fcI, p_fcS, if_pos hq2, ← hth, if_neg q3, hbc, ← hf h (by omega), ← hf b hb]
              exact agr_upd hf b _ j hj
            refine And.intro hinb (And.intro (fun q4 => ?_) (fun q4 => ?_))
            · have q4 : f x.toNatClampNeg + A 4 y.toNatClampNeg < f th.toNatClampNeg := q4
              refine And.intro hinb ?_
              exact ih2 (i + 1) _ _ (by omega) (by rw [hy, nI_1]) (key (f x.toNatClampNeg + A 4 y.toNatClampNeg) (by rw [hxc, hyc, hbc] at q4; rw [if_pos q4, hxc, hyc]))
            · have q4 : ¬ f x.toNatClampNeg + A 4 y.toNatClampNeg < f th.toNatClampNeg := q4
              refine And.intro hinb (And.intro hinb ?_)
              exact ih2 (i + 1) _ _ (by omega) (by rw [hy, nI_1]) (key (f th.toNatClampNeg) (by rw [hxc, hyc, hbc] at q4; rw [if_neg q4, hbc]))
      refine hG 3 _ _ _ (And.intro (fun q => ?_) (fun q => ?_))
      · exact l4 n 0 _ f (by omega) nI_0.symm hf
      · rw [hx, show (256 : Int32) = nI 256 from rfl, nI_ltI (by omega) (by omega)] at q; omega
  have l1 : ∀ (k i : Nat) (x : Int32) (f : Nat → Int32), i + k = 256 → x = nI i → (∀ j, j < i → f j = 1000000) → G 1 [some (.ref 0), some (.int e), some (.int li), some (.int x), none, none, none] [] (mdW s (va_up A 9 f)) := by
    intro k
    induction k with
    | zero =>
      intro i x f hi hx hf
      refine hG 1 _ _ _ (And.intro (fun q => ?_) (fun q => ?_))
      · rw [hx, show (256 : Int32) = nI 256 from rfl, nI_ltI (by omega) (by omega)] at q; omega
      · refine And.intro (vp_in_nI (n := 26) (N := 159) (by decide) (by decide)) (And.intro ?_ ?_)
        · show vp_in (A 1 26) 256
          rw [hh0e]; exact vp_in_nI hh0 (by omega)
        · refine l3 256 0 _ (upd f (A 1 26).toNatClampNeg 0) (by omega) nI_0.symm ?_
          rw [e26, p_fc]
          exact agr_upd (fun j hj => hf j (by omega)) h0 0
    | succ k ih =>
      intro i x f hi hx hf
      have hxc : x.toNatClampNeg = i := by rw [hx, nI_clamp (by omega)]
      refine hG 1 _ _ _ (And.intro (fun q => ?_) (fun q => ?_))
      · refine And.intro (by rw [hx]; exact vp_in_nI (by omega) (by omega)) ?_
        refine ih (i + 1) _ (upd f x.toNatClampNeg 1000000) (by omega) (by rw [hx, nI_1]) ?_
        intro j hj
        rw [hxc]
        unfold upd
        split
        · rfl
        · exact hf j (by omega)
      · rw [hx, show (256 : Int32) = nI 256 from rfl, nI_ltI (by omega) (by omega)] at q; omega
  have l := l1 256 0 0 (A 9) (by omega) nI_0.symm (fun j hj => by omega)
  rw [va_upI] at l
  exact hG 0 _ _ _ l
end
section
/-! ===== WishClerkModel: the cheapest row, the least depth, the fewest struck, all who may live ===== -/
/-- the least cost of a state where p lives -/
def p_cb (c lb : Nat → Int32) (p : Int32) : Nat → Int32
  | 0 => 1000000
  | h + 1 => if c h < p_cb c lb p h then (if p_hb (lb h) p = 0 then p_cb c lb p h else c h) else p_cb c lb p h
def p_cO (AS : Nat → Nat → Int32) (pr lb : Nat → Int32) (h0 n : Nat) (p : Int32) : Int32 := if p_cb (p_fc AS pr h0 n 256) lb p 256 = 1000000 then -4 else p_cb (p_fc AS pr h0 n 256) lb p 256
theorem p_cb_agr {f g lb : Nat → Int32} {p : Int32} (h : agr f g) : ∀ i, i ≤ 256 → p_cb f lb p i = p_cb g lb p i
  | 0, _ => rfl
  | i + 1, hi => by
    rw [p_cb, p_cb, p_cb_agr h i (by omega), h i (by omega)]
def md4 (A g : Nat → Nat → Int32) : Nat → Nat → Int32 := va_up (va_up (va_up (va_up A 9 (g 9)) 10 (g 10)) 11 (g 11)) 12 (g 12)
theorem md4_I (A : Nat → Nat → Int32) : md4 A A = A := by
  unfold md4
  rw [va_upI, va_upI, va_upI, va_upI]
def mdLB (s : Nat → Int32) (A : Nat → Nat → Int32) : Nat → Int32 := p_LB (mOn A) (mNd A) (s 3).toNatClampNeg (A 1 0) (A 1 26)
def mdCO (s : Nat → Int32) (A : Nat → Nat → Int32) (p e li : Int32) : Int32 := p_cO (mdAS s A e li) (A 4) (mdLB s A) (A 1 26).toNatClampNeg (s 3).toNatClampNeg p
def c_X6_cheapOf : sCtr := ((yX6_cheapOf, cX6_cheapOf, 7, (some .int)), (7, 3, 5, 126), false,
  mdfp,
  fun vs L => ∃ (s : Nat → Int32) (A : Nat → Nat → Int32) (p e li : Int32) (n d : Nat), vs = [.ref 0, .int p, .int e, .int li] ∧ L = mdW s A ∧ s 3 = nI n ∧ n ≤ 8 ∧ e = nI d ∧ d ≤ 8 ∧ (∀ i, i < n → lt8 (A 1 (10 + i))) ∧ lt8 (A 1 26),
  fun vs L r L' => r = some (.int (mdCO (oI L 0) (bF L) (vI vs 1) (vI vs 2) (vI vs 3))) ∧ ∃ g, L' = mdW (oI L 0) (md4 (bF L) g))
theorem sta_X6_cheapOf : s_Sta c_X6_cheapOf := ⟨⟨by decide +kernel, by decide +kernel, by decide +kernel⟩, List.mem_of_getElem? (i := 1149) (by decide +kernel), List.mem_of_getElem? (i := 70) (by decide +kernel), ⟨List.mem_of_getElem? (i := 1148) (by decide +kernel), List.mem_of_getElem? (i := 58) (by decide +kernel), Or.inl ⟨_, rfl, rfl⟩⟩⟩

def k_X6_cheapOf : List sBk := [
  (0, false, [true, true, true, true, false, false, false], [o0 0 (.aload_n 0), o0 1 (.iload_n 2), o0 2 (.iload_n 3), oC 3 (.invokevirtual 240) [1150] c_X6_findCosts, oV 6 (.ldc 239) [1154] (.int 1000000), o0 8 (.istore 4), oK 10 (.iconst 0) (.int 0), o0 11 (.istore 5), oN 13 .nop [1]]),
  (13, true, [true, true, false, false, true, true, false], [o0 13 (.iload 5), oK 15 (.sipush 256) (.int 256), oN 18 (.if_icmp .ge 61) [6], o0 21 (.aload_n 0), oN 22 (.getfield 35) [6, 22, 844], o0 25 (.iload 5), o0 27 .iaload, o0 28 (.iload 4), oN 30 (.if_icmp .ge 21) [2], o0 33 (.aload_n 0), o0 34 (.iload 5), oC 36 (.invokevirtual 225) [1134] c_X6_livingBy, o0 39 (.iload_n 1), o0 40 .ishr, oK 41 (.iconst 1) (.int 1), o0 42 .iand, oK 43 (.iconst 1) (.int 1), oN 44 (.if_icmp .ne 7) [2], oK 47 (.iconst 1) (.int 1), oN 48 (.goto 4) [3]]),
  (51, false, [true, true, false, false, true, true, false], [oK 51 (.iconst 0) (.int 0), oN 52 .nop [3]]),
  (52, false, [true, true, false, false, true, true, false], [o0 52 (.istore 6), o0 54 (.iload 6), oN 56 (.ifCond .eq 13) [4], o0 59 (.aload_n 0), oN 60 (.getfield 35) [6, 22, 844], o0 63 (.iload 5), o0 65 .iaload, oN 66 (.goto 5) [5]]),
  (69, false, [true, true, false, false, true, true, false], [o0 69 (.iload 4), oN 71 .nop [5]]),
  (71, false, [true, true, false, false, false, true, false], [o0 71 (.istore 4), oK 73 (.iinc 5 1) (.int 1), oN 76 (.goto (-63)) [1]]),
  (79, false, [false, false, false, false, true, false, false], [o0 79 (.iload 4), oV 81 (.ldc 239) [1154] (.int 1000000), oN 83 (.if_icmp .ne 8) [7], oK 86 (.bipush (-4)) (.int (-4)), oN 88 (.goto 5) [8]]),
  (91, false, [false, false, false, false, true, false, false], [o0 91 (.iload 4), oN 93 .nop [8]]),
  (93, false, [false, false, false, false, false, false, false], [o0 93 .ireturn])]
set_option maxRecDepth 100000 in
theorem ck_X6_cheapOf : s_ck RX6 cX6_cheapOf 7 5 126 k_X6_cheapOf = true := by decide +kernel

set_option maxRecDepth 100000 in
set_option maxHeartbeats 4000000 in
theorem ok_X6_cheapOf : s_Ok c_X6_cheapOf := by
  refine s_ok_of k_X6_cheapOf (by decide +kernel) sta_X6_cheapOf ck_X6_cheapOf (And.intro ok_X6_findCosts (And.intro ok_X6_livingBy trivial)) ?_
  rintro vs L ⟨s, A, p, e, li, n, d, rfl, rfl, hn, hn8, he, hd, hnd, hh0⟩
  refine ⟨rfl, fun G hG => ?_⟩
  obtain ⟨C, hC⟩ : ∃ C, C = p_fc (mdAS s A e li) (A 4) (A 1 26).toNatClampNeg (s 3).toNatClampNeg 256 := ⟨_, rfl⟩
  obtain ⟨LB, hLB⟩ : ∃ LB, LB = mdLB s A := ⟨_, rfl⟩
  have fin : ∀ (a : Int32) (f : Nat → Int32), a = (if p_cb C LB p 256 = 1000000 then -4 else p_cb C LB p 256) → s_PP (some .int) false c_X6_cheapOf.2.2.2.2.2 [.ref 0, .int p, .int e, .int li] (mdW s A) (some (.int a)) (mdW s (va_up A 9 f)) := fun a f ha => ⟨rfl, ⟨by rw [ha, hC, hLB]; rfl, va_up A 9 f, rfl⟩, fun h => by cases h⟩
  refine hG 0 _ _ _ (And.intro ⟨s, A, _, _, n, d, rfl, rfl, hn, hn8, he, hd, hnd, hh0⟩ ?_)
  rintro r L' ⟨rfl, f, hL, hf⟩
  obtain rfl : L' = mdW s (va_up A 9 f) := hL
  replace hf : agr f C := by rw [hC]; exact hf
  have loop : ∀ (k h : Nat) (x a : Int32), h + k = 256 → x = nI h → a = p_cb C LB p h → G 1 [some (.ref 0), some (.int p), none, none, some (.int a), some (.int x), none] [] (mdW s (va_up A 9 f)) := by
    intro k
    induction k with
    | zero =>
      intro h x a hk hx ha
      refine hG 1 _ _ _ (And.intro (fun q => ?_) (fun q => ?_))
      · rw [hx, show (256 : Int32) = nI 256 from rfl, nI_ltI (by omega) (by omega)] at q; omega
      · rw [show h = 256 by omega] at ha
        refine And.intro (fun q2 => ?_) (fun q2 => ?_)
        · have q2 : a = 1000000 := q2
          rw [ha] at q2
          exact fin _ f (by rw [if_pos q2])
        · have q2 : ¬ a = 1000000 := q2
          rw [ha] at q2
          exact fin _ f (by rw [if_neg q2, ha])
    | succ k ih =>
      intro h x a hk hx ha
      have hinh : vp_in x 256 := by rw [hx]; exact vp_in_nI (by omega) (by omega)
      have hxc : x.toNatClampNeg = h := by rw [hx, nI_clamp (by omega)]
      have hfh : f x.toNatClampNeg = C h := by rw [hxc]; exact hf h (by omega)
      refine hG 1 _ _ _ (And.intro (fun q => ?_) (fun q => ?_))
      rotate_left
      · rw [hx, show (256 : Int32) = nI 256 from rfl, nI_ltI (by omega) (by omega)] at q; omega
      refine And.intro hinh (And.intro (fun q2 => ?_) (fun q2 => ?_))
      · have q2 : f x.toNatClampNeg < a := q2
        rw [hfh, ha] at q2
        refine And.intro ⟨s, va_up A 9 f, _, n, rfl, rfl, hn, hn8⟩ ?_
        intro r hr
        obtain ⟨v, hv⟩ : ∃ v, v = LB h := ⟨_, rfl⟩
        obtain rfl : r = some (.int v) := by rw [hv, hLB, mdLB, p_LB, ← hx]; exact hr
        refine And.intro (fun q3 => ?_) (fun q3 => ?_)
        · have q3 : ¬ p_hb v p = 0 := fun z => p_hb_0.mp z q3
          refine And.intro (fun z => absurd z (by decide)) (fun _ => ?_)
          refine And.intro hinh ?_
          exact ih (h + 1) _ (f x.toNatClampNeg) (by omega) (by rw [hx, nI_1]) (by rw [p_cb, if_pos q2, ← hv, if_neg q3, hfh])
        · have q3 : p_hb v p = 0 := p_hb_0.mpr q3
          refine And.intro (fun _ => ?_) (fun z => absurd rfl z)
          exact ih (h + 1) _ a (by omega) (by rw [hx, nI_1]) (by rw [p_cb, if_pos q2, ← hv, if_pos q3, ha])
      · have q2 : ¬ f x.toNatClampNeg < a := q2
        rw [hfh, ha] at q2
        refine And.intro (fun _ => ?_) (fun z => absurd rfl z)
        exact ih (h + 1) _ a (by omega) (by rw [hx, nI_1]) (by rw [p_cb, if_neg q2, ha])
  exact loop 256 0 _ _ (by omega) nI_0.symm rfl
def r_mch (s : Nat → Int32) (A : Nat → Nat → Int32) (p : Int32) : Int32 := if p_in (s 2) p = 0 then -1 else mdCO s A p (A 1 28) (A 1 27)
def c_X6_cheap : sCtr := ((yX6_cheap, cX6_cheap, 2, (some .int)), (7, 1, 6, 152), false,
  mdfp,
  fun vs L => ∃ (s : Nat → Int32) (A : Nat → Nat → Int32) (p : Int32) (m n d : Nat), vs = [.ref 0, .int p] ∧ L = mdW s A ∧ s 2 = nI m ∧ m ≤ 8 ∧ s 3 = nI n ∧ n ≤ 8 ∧ A 1 28 = nI d ∧ d ≤ 8 ∧ (∀ i, i < n → lt8 (A 1 (10 + i))) ∧ lt8 (A 1 26),
  fun vs L r L' => r = some (.int (r_mch (oI L 0) (bF L) (vI vs 1))) ∧ ∃ g, L' = mdW (oI L 0) (md4 (bF L) g))
theorem sta_X6_cheap : s_Sta c_X6_cheap := ⟨⟨by decide +kernel, by decide +kernel, by decide +kernel⟩, List.mem_of_getElem? (i := 1145) (by decide +kernel), List.mem_of_getElem? (i := 70) (by decide +kernel), ⟨List.mem_of_getElem? (i := 1143) (by decide +kernel), List.mem_of_getElem? (i := 1144) (by decide +kernel), Or.inl ⟨_, rfl, rfl⟩⟩⟩

def k_X6_cheap : List sBk := [
  (0, false, [true, true], [o0 0 (.aload_n 0), o0 1 (.iload_n 1), oC 2 (.invokevirtual 192) [1035] c_X6_isOne, oN 5 (.ifCond .eq 25) [1], o0 8 (.aload_n 0), o0 9 (.iload_n 1), o0 10 (.aload_n 0), oN 11 (.getfield 7) [6, 0, 822], oK 14 (.bipush 28) (.int 28), o0 16 .iaload, o0 17 (.aload_n 0), oN 18 (.getfield 7) [6, 0, 822], oK 21 (.bipush 27) (.int 27), o0 23 .iaload, oC 24 (.invokevirtual 244) [1146] c_X6_cheapOf, oN 27 (.goto 4) [2]]),
  (30, false, [false, false], [oK 30 (.iconst (-1)) (.int (-1)), oN 31 .nop [2]]),
  (31, false, [false, false], [o0 31 .ireturn])]
set_option maxRecDepth 100000 in
theorem ck_X6_cheap : s_ck RX6 cX6_cheap 2 6 152 k_X6_cheap = true := by decide +kernel

set_option maxRecDepth 100000 in
set_option maxHeartbeats 4000000 in
theorem ok_X6_cheap : s_Ok c_X6_cheap := by
  refine s_ok_of k_X6_cheap (by decide +kernel) sta_X6_cheap ck_X6_cheap (And.intro ok_X6_isOne (And.intro ok_X6_cheapOf trivial)) ?_
  rintro vs L ⟨s, A, p, m, n, d, rfl, rfl, hm, hm8, hn, hn8, he, hd, hnd, hh0⟩
  refine ⟨rfl, fun G hG => ?_⟩
  have fin : ∀ (a : Int32) (g : Nat → Nat → Int32), a = r_mch s A p → s_PP (some .int) false c_X6_cheap.2.2.2.2.2 [.ref 0, .int p] (mdW s A) (some (.int a)) (mdW s (md4 A g)) := fun a g ha => ⟨rfl, ⟨by rw [ha]; rfl, g, rfl⟩, fun h => by cases h⟩
  refine hG 0 _ _ _ (And.intro ⟨s, A, _, m, rfl, rfl, hm, hm8⟩ ?_)
  intro r hr
  obtain ⟨b, hb⟩ : ∃ b, b = p_in (s 2) p := ⟨_, rfl⟩
  obtain rfl : r = some (.int b) := by rw [hb]; exact hr
  refine And.intro (fun h => ?_) (fun h => ?_)
  · have h : b = 0 := h
    have k := fin (-1) A (by rw [r_mch, ← hb, if_pos h])
    rw [md4_I] at k
    exact k
  have h : ¬ b = 0 := h
  refine And.intro (vp_in_nI (n := 28) (N := 159) (by decide) (by decide)) (And.intro (vp_in_nI (n := 27) (N := 159) (by decide) (by decide)) ?_)
  refine And.intro ⟨s, A, _, _, _, n, d, rfl, rfl, hn, hn8, he, hd, hnd, hh0⟩ ?_
  rintro r L' ⟨hr, g, hL⟩
  obtain ⟨v, hv⟩ : ∃ v, v = mdCO s A p (A 1 28) (A 1 27) := ⟨_, rfl⟩
  obtain rfl : r = some (.int v) := by rw [hv]; exact hr
  obtain rfl : L' = mdW s (md4 A g) := hL
  exact fin v g (by rw [r_mch, ← hb, if_neg h, hv])
def p_dpF (c : Nat → Int32) : Nat → Nat → Int32
  | 0, _ => -4
  | k + 1, d => if c d = -4 then nI d else p_dpF c k (d + 1)
def r_mdp (s : Nat → Int32) (A : Nat → Nat → Int32) (p : Int32) : Int32 := if p_in (s 2) p = 0 then -1 else if p_hb (A 1 0) p = 0 then p_dpF (fun d => mdCO s A p (nI d) (A 1 27)) 9 0 else -2
def c_X6_deep : sCtr := ((yX6_deep, cX6_deep, 3, (some .int)), (7, 1, 6, 152), false,
  mdfp,
  fun vs L => ∃ (s : Nat → Int32) (A : Nat → Nat → Int32) (p : Int32) (m n : Nat), vs = [.ref 0, .int p] ∧ L = mdW s A ∧ s 2 = nI m ∧ m ≤ 8 ∧ s 3 = nI n ∧ n ≤ 8 ∧ (∀ i, i < n → lt8 (A 1 (10 + i))) ∧ lt8 (A 1 26),
  fun vs L r L' => r = some (.int (r_mdp (oI L 0) (bF L) (vI vs 1))) ∧ ∃ g, L' = mdW (oI L 0) (md4 (bF L) g))
theorem sta_X6_deep : s_Sta c_X6_deep := ⟨⟨by decide +kernel, by decide +kernel, by decide +kernel⟩, List.mem_of_getElem? (i := 1158) (by decide +kernel), List.mem_of_getElem? (i := 70) (by decide +kernel), ⟨List.mem_of_getElem? (i := 1156) (by decide +kernel), List.mem_of_getElem? (i := 1157) (by decide +kernel), Or.inl ⟨_, rfl, rfl⟩⟩⟩

def k_X6_deep : List sBk := [
  (0, false, [true, true, false], [o0 0 (.aload_n 0), o0 1 (.iload_n 1), oC 2 (.invokevirtual 192) [1035] c_X6_isOne, oN 5 (.ifCond .ne 5) [1], oK 8 (.iconst (-1)) (.int (-1)), o0 9 .ireturn]),
  (10, false, [true, true, false], [o0 10 (.aload_n 0), oN 11 (.getfield 7) [6, 0, 822], oK 14 (.iconst 0) (.int 0), o0 15 .iaload, o0 16 (.iload_n 1), o0 17 .ishr, oK 18 (.iconst 1) (.int 1), o0 19 .iand, oK 20 (.iconst 1) (.int 1), oN 21 (.if_icmp .ne 6) [2], oK 24 (.bipush (-2)) (.int (-2)), o0 26 .ireturn]),
  (27, false, [true, true, false], [oK 27 (.iconst 0) (.int 0), o0 28 (.istore_n 2), oN 29 .nop [3]]),
  (29, true, [true, true, true], [o0 29 (.iload_n 2), oK 30 (.bipush 8) (.int 8), oN 32 (.if_icmp .gt 29) [5], o0 35 (.aload_n 0), o0 36 (.iload_n 1), o0 37 (.iload_n 2), o0 38 (.aload_n 0), oN 39 (.getfield 7) [6, 0, 822], oK 42 (.bipush 27) (.int 27), o0 44 .iaload, oC 45 (.invokevirtual 244) [1146] c_X6_cheapOf, oK 48 (.bipush (-4)) (.int (-4)), oN 50 (.if_icmp .ne 5) [4], o0 53 (.iload_n 2), o0 54 .ireturn]),
  (55, false, [true, true, true], [oK 55 (.iinc 2 1) (.int 1), oN 58 (.goto (-29)) [3]]),
  (61, false, [false, false, false], [oK 61 (.bipush (-4)) (.int (-4)), o0 63 .ireturn])]
set_option maxRecDepth 100000 in
theorem ck_X6_deep : s_ck RX6 cX6_deep 3 6 152 k_X6_deep = true := by decide +kernel

set_option maxRecDepth 100000 in
set_option maxHeartbeats 4000000 in
theorem ok_X6_deep : s_Ok c_X6_deep := by
  refine s_ok_of k_X6_deep (by decide +kernel) sta_X6_deep ck_X6_deep (And.intro ok_X6_isOne (And.intro ok_X6_cheapOf trivial)) ?_
  rintro vs L ⟨s, A, p, m, n, rfl, rfl, hm, hm8, hn, hn8, hnd, hh0⟩
  refine ⟨rfl, fun G hG => ?_⟩
  have fin : ∀ (a : Int32) (g : Nat → Nat → Int32), a = r_mdp s A p → s_PP (some .int) false c_X6_deep.2.2.2.2.2 [.ref 0, .int p] (mdW s A) (some (.int a)) (mdW s (md4 A g)) := fun a g ha => ⟨rfl, ⟨by rw [ha]; rfl, g, rfl⟩, fun h => by cases h⟩
  have fin0 : ∀ (a : Int32), a = r_mdp s A p → s_PP (some .int) false c_X6_deep.2.2.2.2.2 [.ref 0, .int p] (mdW s A) (some (.int a)) (mdW s A) := fun a ha => by
    have k := fin a A ha
    rw [md4_I] at k
    exact k
  refine hG 0 _ _ _ (And.intro ⟨s, A, _, m, rfl, rfl, hm, hm8⟩ ?_)
  intro r hr
  obtain ⟨b, hb⟩ : ∃ b, b = p_in (s 2) p := ⟨_, rfl⟩
  obtain rfl : r = some (.int b) := by rw [hb]; exact hr
  refine And.intro (fun h => ?_) (fun h => ?_)
  · have h : b = 0 := h
    exact fin0 (-1) (by rw [r_mdp, ← hb, if_pos h])
  have h : ¬ b = 0 := h
  refine And.intro (vp_in_nI (n := 0) (N := 159) (by decide) (by decide)) (And.intro (fun h2 => ?_) (fun h2 => ?_))
  · have h2 : ¬ p_hb (A 1 0) p = 0 := fun z => p_hb_0.mp z h2
    exact fin0 (-2) (by rw [r_mdp, ← hb, if_neg h, if_neg h2])
  have h2 : p_hb (A 1 0) p = 0 := p_hb_0.mpr h2
  obtain ⟨c, hc⟩ : ∃ c : Nat → Int32, c = fun d => mdCO s A p (nI d) (A 1 27) := ⟨_, rfl⟩
  have hr : r_mdp s A p = p_dpF c 9 0 := by rw [r_mdp, ← hb, if_neg h, if_pos h2, hc]
  have loop : ∀ (k d : Nat) (x : Int32) (g : Nat → Nat → Int32), d + k = 9 → x = nI d → r_mdp s A p = p_dpF c k d → G 3 [some (.ref 0), some (.int p), some (.int x)] [] (mdW s (md4 A g)) := by
    intro k
    induction k with
    | zero =>
      intro d x g hk hx hr
      refine hG 3 _ _ _ (And.intro (fun q => ?_) (fun q => ?_))
      · exact fin _ g (by rw [hr]; rfl)
      · rw [hx, show (8 : Int32) = nI 8 from rfl, nI_ltI (by omega) (by omega)] at q; omega
    | succ k ih =>
      intro d x g hk hx hr
      refine hG 3 _ _ _ (And.intro (fun q => ?_) (fun q => ?_))
      · rw [hx, show (8 : Int32) = nI 8 from rfl, nI_ltI (by omega) (by omega)] at q; omega
      refine And.intro (vp_in_nI (n := 27) (N := 159) (by decide) (by decide)) ?_
      refine And.intro ⟨s, md4 A g, _, _, _, n, d, rfl, rfl, hn, hn8, hx, by omega, hnd, hh0⟩ ?_
      rintro r L' ⟨hr2, g2, hL⟩
      obtain ⟨v, hv⟩ : ∃ v, v = c d := ⟨_, rfl⟩
      obtain rfl : r = some (.int v) := by rw [hv, hc]; show r = some (.int (mdCO s A p (nI d) (A 1 27))); rw [← hx]; exact hr2
      obtain rfl : L' = mdW s (md4 A g2) := hL
      refine And.intro (fun q2 => ?_) (fun q2 => ?_)
      · have q2 : v = -4 := q2
        exact fin x g2 (by rw [hr, p_dpF, ← hv, if_pos q2, hx])
      · have q2 : ¬ v = -4 := q2
        exact ih (d + 1) _ g2 (by omega) (by rw [hx, nI_1]) (by rw [hr, p_dpF, ← hv, if_neg q2])
  have l := loop 9 0 0 A (by omega) nI_0.symm hr
  rw [md4_I] at l
  exact l
def p_feS (c : Nat → Int32) (li : Int32) (k : Nat) (q : Int32 × Int32) : Int32 × Int32 := if nI k &&& li = 0 then (if p_bo (nI k) 8 < q.1 then (if c k = -4 then (p_bo (nI k) 8, nI k) else q) else q) else q
def p_fe (c : Nat → Int32) (li : Int32) : Nat → Int32 × Int32
  | 0 => (1000000, 0)
  | k + 1 => p_feS c li k (p_fe c li k)
def r_mfe (s : Nat → Int32) (A : Nat → Nat → Int32) (p z : Int32) : Int32 := if p_in (s 2) p = 0 then -1 else if z < 0 ∨ 1 < z then -1 else if p_hb (A 1 0) p = 0 then (if z = 0 then (p_fe (fun k => mdCO s A p (A 1 28) (A 1 27 ||| nI k)) (A 1 27) (2 ^ (s 3).toNatClampNeg)).1 else (p_fe (fun k => mdCO s A p (A 1 28) (A 1 27 ||| nI k)) (A 1 27) (2 ^ (s 3).toNatClampNeg)).2) else -2
def c_X6_fewest : sCtr := ((yX6_fewest, cX6_fewest, 7, (some .int)), (7, 2, 6, 152), false,
  mdfp,
  fun vs L => ∃ (s : Nat → Int32) (A : Nat → Nat → Int32) (p z : Int32) (m n d : Nat), vs = [.ref 0, .int p, .int z] ∧ L = mdW s A ∧ s 2 = nI m ∧ m ≤ 8 ∧ s 3 = nI n ∧ n ≤ 8 ∧ A 1 28 = nI d ∧ d ≤ 8 ∧ (∀ i, i < n → lt8 (A 1 (10 + i))) ∧ lt8 (A 1 26),
  fun vs L r L' => r = some (.int (r_mfe (oI L 0) (bF L) (vI vs 1) (vI vs 2))) ∧ ∃ g, L' = mdW (oI L 0) (md4 (bF L) g))
theorem sta_X6_fewest : s_Sta c_X6_fewest := ⟨⟨by decide +kernel, by decide +kernel, by decide +kernel⟩, List.mem_of_getElem? (i := 1162) (by decide +kernel), List.mem_of_getElem? (i := 70) (by decide +kernel), ⟨List.mem_of_getElem? (i := 1160) (by decide +kernel), List.mem_of_getElem? (i := 1161) (by decide +kernel), Or.inl ⟨_, rfl, rfl⟩⟩⟩

def k_X6_fewest : List sBk := [
  (0, false, [true, true, true, false, false, false, false], [o0 0 (.aload_n 0), o0 1 (.iload_n 1), oC 2 (.invokevirtual 192) [1035] c_X6_isOne, oN 5 (.ifCond .eq 13) [1], o0 8 (.iload_n 2), o0 9 .i2l, oK 10 (.lconst 0) (.long 0), oK 11 (.lconst 1) (.long 1), oC 12 (.invokestatic 90) [921] c_X6_in, oN 15 (.ifCond .ne 5) [2], oN 18 .nop [1]]),
  (18, false, [false, false, false, false, false, false, false], [oK 18 (.iconst (-1)) (.int (-1)), o0 19 .ireturn]),
  (20, false, [true, true, true, false, false, false, false], [o0 20 (.aload_n 0), oN 21 (.getfield 7) [6, 0, 822], oK 24 (.iconst 0) (.int 0), o0 25 .iaload, o0 26 (.iload_n 1), o0 27 .ishr, oK 28 (.iconst 1) (.int 1), o0 29 .iand, oK 30 (.iconst 1) (.int 1), oN 31 (.if_icmp .ne 6) [3], oK 34 (.bipush (-2)) (.int (-2)), o0 36 .ireturn]),
  (37, false, [true, true, true, false, false, false, false], [oV 37 (.ldc 239) [1154] (.int 1000000), o0 39 (.istore_n 3), oK 40 (.iconst 0) (.int 0), o0 41 (.istore 4), oK 43 (.iconst 0) (.int 0), o0 44 (.istore 5), oN 46 .nop [4]]),
  (46, true, [true, true, true, true, true, true, false], [o0 46 (.iload 5), oK 48 (.iconst 1) (.int 1), o0 49 (.aload_n 0), oN 50 (.getfield 85) [6, 3, 825], o0 53 .ishl, oN 54 (.if_icmp .ge 94) [11], o0 57 (.iload 5), o0 59 (.aload_n 0), oN 60 (.getfield 7) [6, 0, 822], oK 63 (.bipush 27) (.int 27), o0 65 .iaload, o0 66 .iand, oN 67 (.ifCond .ne 43) [5], o0 70 (.iload 5), oC 72 (.invokestatic 219) [1105] c_X6_bitsOf, o0 75 (.iload_n 3), oN 76 (.if_icmp .ge 34) [5], o0 79 (.aload_n 0), o0 80 (.iload_n 1), o0 81 (.aload_n 0), oN 82 (.getfield 7) [6, 0, 822], oK 85 (.bipush 28) (.int 28), o0 87 .iaload, o0 88 (.aload_n 0), oN 89 (.getfield 7) [6, 0, 822], oK 92 (.bipush 27) (.int 27), o0 94 .iaload, o0 95 (.iload 5), o0 97 .ior, oC 98 (.invokevirtual 244) [1146] c_X6_cheapOf, oK 101 (.bipush (-4)) (.int (-4)), oN 103 (.if_icmp .ne 7) [5], oK 106 (.iconst 1) (.int 1), oN 107 (.goto 4) [6]]),
  (110, false, [true, true, true, true, true, true, false], [oK 110 (.iconst 0) (.int 0), oN 111 .nop [6]]),
  (111, false, [true, true, true, true, true, true, false], [o0 111 (.istore 6), o0 113 (.iload 6), oN 115 (.ifCond .eq 8) [7], o0 118 (.iload 5), oN 120 (.goto 5) [8]]),
  (123, false, [true, true, true, true, true, true, true], [o0 123 (.iload 4), oN 125 .nop [8]]),
  (125, false, [true, true, true, true, false, true, true], [o0 125 (.istore 4), o0 127 (.iload 6), oN 129 (.ifCond .eq 11) [9], o0 132 (.iload 5), oC 134 (.invokestatic 219) [1105] c_X6_bitsOf, oN 137 (.goto 4) [10]]),
  (140, false, [true, true, true, true, true, true, false], [o0 140 (.iload_n 3), oN 141 .nop [10]]),
  (141, false, [true, true, true, false, true, true, false], [o0 141 (.istore_n 3), oK 142 (.iinc 5 1) (.int 1), oN 145 (.goto (-99)) [4]]),
  (148, false, [false, false, true, true, true, false, false], [o0 148 (.iload_n 2), oN 149 (.ifCond .ne 7) [12], o0 152 (.iload_n 3), oN 153 (.goto 5) [13]]),
  (156, false, [false, false, false, false, true, false, false], [o0 156 (.iload 4), oN 158 .nop [13]]),
  (158, false, [false, false, false, false, false, false, false], [o0 158 .ireturn])]
set_option maxRecDepth 100000 in
theorem ck_X6_fewest : s_ck RX6 cX6_fewest 7 6 152 k_X6_fewest = true := by decide +kernel

set_option maxRecDepth 100000 in
set_option maxHeartbeats 4000000 in
theorem ok_X6_fewest : s_Ok c_X6_fewest := by
  refine s_ok_of k_X6_fewest (by decide +kernel) sta_X6_fewest ck_X6_fewest (And.intro ok_X6_isOne (And.intro ok_X6_in (And.intro ok_X6_bitsOf (And.intro ok_X6_cheapOf (And.intro ok_X6_bitsOf trivial))))) ?_
  rintro vs L ⟨s, A, p, z, m, n, d, rfl, rfl, hm, hm8, hn, hn8, he, hd, hnd, hh0⟩
  refine ⟨rfl, fun G hG => ?_⟩
  have h28 := p_2le n hn8
  have e3 : (s 3).toNatClampNeg = n := by rw [hn, nI_clamp (by omega)]
  have fin : ∀ (a : Int32) (g : Nat → Nat → Int32), a = r_mfe s A p z → s_PP (some .int) false c_X6_fewest.2.2.2.2.2 [.ref 0, .int p, .int z] (mdW s A) (some (.int a)) (mdW s (md4 A g)) := fun a g ha => ⟨rfl, ⟨by rw [ha]; rfl, g, rfl⟩, fun h => by cases h⟩
  have fin0 : ∀ (a : Int32), a = r_mfe s A p z → s_PP (some .int) false c_X6_fewest.2.2.2.2.2 [.ref 0, .int p, .int z] (mdW s A) (some (.int a)) (mdW s A) := fun a ha => by
    have k := fin a A ha
    rw [md4_I] at k
    exact k
  refine hG 0 _ _ _ (And.intro ⟨s, A, _, m, rfl, rfl, hm, hm8⟩ ?_)
  intro r hr
  obtain ⟨b, hb⟩ : ∃ b, b = p_in (s 2) p := ⟨_, rfl⟩
  obtain rfl : r = some (.int b) := by rw [hb]; exact hr
  refine And.intro (fun h => ?_) (fun h => ?_)
  · have h : b = 0 := h
    exact fin0 (-1) (by rw [r_mfe, ← hb, if_pos h])
  have h : ¬ b = 0 := h
  refine And.intro ⟨_, _, _, rfl⟩ ?_
  intro r hr
  obtain ⟨b2, hb2⟩ : ∃ b, b = p_in64 z.toInt64 0 (1 : Int32).toInt64 := ⟨_, rfl⟩
  obtain rfl : r = some (.int b2) := by rw [hb2]; exact hr
  refine And.intro (fun h2 => ?_) (fun h2 => ?_)
  · have h2 : z < 0 ∨ 1 < z := (p_rng _ _).mp (hb2.symm.trans h2)
    exact fin0 (-1) (by rw [r_mfe, ← hb, if_neg h, if_pos h2])
  have h2 : ¬ (z < 0 ∨ 1 < z) := fun q => h2 (hb2.trans ((p_rng _ _).mpr q))
  refine And.intro (vp_in_nI (n := 0) (N := 159) (by decide) (by decide)) (And.intro (fun h3 => ?_) (fun h3 => ?_))
  · have h3 : ¬ p_hb (A 1 0) p = 0 := fun z => p_hb_0.mp z h3
    exact fin0 (-2) (by rw [r_mfe, ← hb, if_neg h, if_neg h2, if_neg h3])
  have h3 : p_hb (A 1 0) p = 0 := p_hb_0.mpr h3
  obtain ⟨c, hc⟩ : ∃ c : Nat → Int32, c = fun k => mdCO s A p (A 1 28) (A 1 27 ||| nI k) := ⟨_, rfl⟩
  have hr : r_mfe s A p z = if z = 0 then (p_fe c (A 1 27) (2 ^ n)).1 else (p_fe c (A 1 27) (2 ^ n)).2 := by rw [r_mfe, ← hb, if_neg h, if_neg h2, if_pos h3, ← hc, e3]
  have hsh : (1 : Int32) <<< (s 3 &&& 31) = nI (2 ^ n) := by rw [hn, p_2n n (by omega)]
  have loop : ∀ (k i : Nat) (x a1 a2 : Int32) (g : Nat → Nat → Int32), i + k = 2 ^ n → x = nI i → (a1, a2) = p_fe c (A 1 27) i → G 4 [some (.ref 0), some (.int p), some (.int z), some (.int a1), some (.int a2), some (.int x), none] [] (mdW s (md4 A g)) := by
    intro k
    induction k with
    | zero =>
      intro i x a1 a2 g hk hx ha
      have ha1 : a1 = (p_fe c (A 1 27) (2 ^ n)).1 := by rw [← show i = 2 ^ n by omega, ← ha]
      have ha2 : a2 = (p_fe c (A 1 27) (2 ^ n)).2 := by rw [← show i = 2 ^ n by omega, ← ha]
      refine hG 4 _ _ _ (And.intro (fun q => ?_) (fun q => ?_))
      · have q : x < (1 : Int32) <<< (s 3 &&& 31) := q
        rw [hsh, hx, nI_ltI (by omega) (by omega)] at q; omega
      refine And.intro (fun q => ?_) (fun q => ?_)
      · exact fin a1 g (by rw [hr, if_pos q, ha1])
      · exact fin a2 g (by rw [hr, if_neg q, ha2])
    | succ k ih =>
      intro i x a1 a2 g hk hx ha
      have skip : ∀ g, p_feS c (A 1 27) i (a1, a2) = (a1, a2) → G 4 [some (.ref 0), some (.int p), some (.int z), some (.int a1), some (.int a2), some (.int (x + 1)), none] [] (mdW s (md4 A g)) := fun g hq => ih (i + 1) _ a1 a2 g (by omega) (by rw [hx, nI_1]) (by rw [p_fe, ← ha, hq])
      refine hG 4 _ _ _ (And.intro (fun q => ?_) (fun q => ?_))
      rotate_left
      · have q : ¬ x < (1 : Int32) <<< (s 3 &&& 31) := q
        rw [hsh, hx, nI_ltI (by omega) (by omega)] at q; omega
      refine And.intro (vp_in_nI (n := 27) (N := 159) (by decide) (by decide)) (And.intro (fun q2 => ?_) (fun q2 => ?_))
      rotate_left
      · have q2 : ¬ x &&& A 1 27 = 0 := q2
        rw [hx] at q2
        refine And.intro (fun _ => ?_) (fun z => absurd rfl z)
        refine And.intro (fun _ => ?_) (fun z => absurd rfl z)
        exact skip g (by rw [p_feS, if_neg q2])
      have q2 : x &&& A 1 27 = 0 := q2
      rw [hx] at q2
      refine And.intro ⟨_, rfl⟩ ?_
      intro r hr2
      obtain ⟨w, hw⟩ : ∃ w, w = p_bo (nI i) 8 := ⟨_, rfl⟩
      obtain rfl : r = some (.int w) := by rw [hw, ← hx]; exact hr2
      refine And.intro (fun q3 => ?_) (fun q3 => ?_)
      rotate_left
      · have q3 : ¬ w < a1 := q3
        refine And.intro (fun _ => ?_) (fun z => absurd rfl z)
        refine And.intro (fun _ => ?_) (fun z => absurd rfl z)
        exact skip g (by rw [p_feS, if_pos q2, ← hw, if_neg q3])
      have q3 : w < a1 := q3
      refine And.intro (vp_in_nI (n := 28) (N := 159) (by decide) (by decide)) (And.intro (vp_in_nI (n := 27) (N := 159) (by decide) (by decide)) ?_)
      refine And.intro ⟨s, md4 A g, _, _, _, n, d, rfl, rfl, hn, hn8, he, hd, hnd, hh0⟩ ?_
      rintro r L' ⟨hr2, g2, hL⟩
      obtain ⟨v, hv⟩ : ∃ v, v = c i := ⟨_, rfl⟩
      obtain rfl : r = some (.int v) := by rw [hv, hc]; show r = some (.int (mdCO s A p (A 1 28) (A 1 27 ||| nI i))); rw [← hx]; exact hr2
      obtain rfl : L' = mdW s (md4 A g2) := hL
      refine And.intro (fun q4 => ?_) (fun q4 => ?_)
      · have q4 : v = -4 := q4
        refine And.intro (fun z => absurd z (by decide)) (fun _ => ?_)
        refine And.intro (fun z => absurd z (by decide)) (fun _ => ?_)
        refine And.intro ⟨_, rfl⟩ ?_
        intro r hr2
        obtain rfl : r = some (.int w) := by rw [hw, ← hx]; exact hr2
        exact ih (i + 1) _ w x g2 (by omega) (by rw [hx, nI_1]) (by rw [p_fe, ← ha, p_feS, if_pos q2, ← hw, if_pos q3, ← hv, if_pos q4, hx])
      · have q4 : ¬ v = -4 := q4
        refine And.intro (fun _ => ?_) (fun z => absurd rfl z)
        refine And.intro (fun _ => ?_) (fun z => absurd rfl z)
        exact skip g2 (by rw [p_feS, if_pos q2, ← hw, if_pos q3, ← hv, if_neg q4])
  have l := loop (2 ^ n) 0 0 1000000 0 A (by omega) nI_0.symm rfl
  rw [md4_I] at l
  exact l
def p_al (c lb : Nat → Int32) : Nat → Int32
  | 0 => 0
  | h + 1 => if c h < 1000000 then p_al c lb h ||| lb h else p_al c lb h
def r_mal (s : Nat → Int32) (A : Nat → Nat → Int32) : Int32 := p_al (p_fc (mdAS s A (A 1 28) (A 1 27)) (A 4) (A 1 26).toNatClampNeg (s 3).toNatClampNeg 256) (mdLB s A) 256
def c_X6_all : sCtr := ((yX6_all, cX6_all, 3, (some .int)), (7, 0, 5, 126), false,
  mdfp,
  fun vs L => ∃ (s : Nat → Int32) (A : Nat → Nat → Int32) (n d : Nat), vs = [.ref 0] ∧ L = mdW s A ∧ s 3 = nI n ∧ n ≤ 8 ∧ A 1 28 = nI d ∧ d ≤ 8 ∧ (∀ i, i < n → lt8 (A 1 (10 + i))) ∧ lt8 (A 1 26),
  fun _ L r L' => r = some (.int (r_mal (oI L 0) (bF L))) ∧ ∃ g, L' = mdW (oI L 0) (md4 (bF L) g))
theorem sta_X6_all : s_Sta c_X6_all := ⟨⟨by decide +kernel, by decide +kernel, by decide +kernel⟩, List.mem_of_getElem? (i := 1166) (by decide +kernel), List.mem_of_getElem? (i := 70) (by decide +kernel), ⟨List.mem_of_getElem? (i := 1164) (by decide +kernel), List.mem_of_getElem? (i := 1165) (by decide +kernel), Or.inl ⟨_, rfl, rfl⟩⟩⟩

def k_X6_all : List sBk := [
  (0, false, [true, false, false], [o0 0 (.aload_n 0), o0 1 (.aload_n 0), oN 2 (.getfield 7) [6, 0, 822], oK 5 (.bipush 28) (.int 28), o0 7 .iaload, o0 8 (.aload_n 0), oN 9 (.getfield 7) [6, 0, 822], oK 12 (.bipush 27) (.int 27), o0 14 .iaload, oC 15 (.invokevirtual 240) [1150] c_X6_findCosts, oK 18 (.iconst 0) (.int 0), o0 19 (.istore_n 1), oK 20 (.iconst 0) (.int 0), o0 21 (.istore_n 2), oN 22 .nop [1]]),
  (22, true, [true, true, true], [o0 22 (.iload_n 2), oK 23 (.sipush 256) (.int 256), oN 26 (.if_icmp .ge 32) [4], o0 29 (.iload_n 1), o0 30 (.aload_n 0), oN 31 (.getfield 35) [6, 22, 844], o0 34 (.iload_n 2), o0 35 .iaload, oV 36 (.ldc 239) [1154] (.int 1000000), oN 38 (.if_icmp .ge 11) [2], o0 41 (.aload_n 0), o0 42 (.iload_n 2), oC 43 (.invokevirtual 225) [1134] c_X6_livingBy, oN 46 (.goto 4) [3]]),
  (49, false, [true, false, true], [oK 49 (.iconst 0) (.int 0), oN 50 .nop [3]]),
  (50, false, [true, false, true], [o0 50 .ior, o0 51 (.istore_n 1), oK 52 (.iinc 2 1) (.int 1), oN 55 (.goto (-33)) [1]]),
  (58, false, [false, true, false], [o0 58 (.iload_n 1), o0 59 .ireturn])]
set_option maxRecDepth 100000 in
theorem ck_X6_all : s_ck RX6 cX6_all 3 5 126 k_X6_all = true := by decide +kernel

set_option maxRecDepth 100000 in
set_option maxHeartbeats 4000000 in
theorem ok_X6_all : s_Ok c_X6_all := by
  refine s_ok_of k_X6_all (by decide +kernel) sta_X6_all ck_X6_all (And.intro ok_X6_findCosts (And.intro ok_X6_livingBy trivial)) ?_
  rintro vs L ⟨s, A, n, d, rfl, rfl, hn, hn8, he, hd, hnd, hh0⟩
  refine ⟨rfl, fun G hG => ?_⟩
  obtain ⟨C, hC⟩ : ∃ C, C = p_fc (mdAS s A (A 1 28) (A 1 27)) (A 4) (A 1 26).toNatClampNeg (s 3).toNatClampNeg 256 := ⟨_, rfl⟩
  obtain ⟨LB, hLB⟩ : ∃ LB, LB = mdLB s A := ⟨_, rfl⟩
  have fin : ∀ (a : Int32) (f : Nat → Int32), a = p_al C LB 256 → s_PP (some .int) false c_X6_all.2.2.2.2.2 [.ref 0] (mdW s A) (some (.int a)) (mdW s (va_up A 9 f)) := fun a f ha => ⟨rfl, ⟨by rw [ha, hC, hLB]; rfl, va_up A 9 f, rfl⟩, fun h => by cases h⟩
  refine hG 0 _ _ _ (And.intro (vp_in_nI (n := 28) (N := 159) (by decide) (by decide)) (And.intro (vp_in_nI (n := 27) (N := 159) (by decide) (by decide)) ?_))
  refine And.intro ⟨s, A, _, _, n, d, rfl, rfl, hn, hn8, he, hd, hnd, hh0⟩ ?_
  rintro r L' ⟨rfl, f, hL, hf⟩
  obtain rfl : L' = mdW s (va_up A 9 f) := hL
  replace hf : agr f C := by rw [hC]; exact hf
  have loop : ∀ (k h : Nat) (x a : Int32), h + k = 256 → x = nI h → a = p_al C LB h → G 1 [some (.ref 0), some (.int a), some (.int x)] [] (mdW s (va_up A 9 f)) := by
    intro k
    induction k with
    | zero =>
      intro h x a hk hx ha
      refine hG 1 _ _ _ (And.intro (fun q => ?_) (fun q => ?_))
      · rw [hx, show (256 : Int32) = nI 256 from rfl, nI_ltI (by omega) (by omega)] at q; omega
      · rw [show h = 256 by omega] at ha
        exact fin a f ha
    | succ k ih =>
      intro h x a hk hx ha
      have hinh : vp_in x 256 := by rw [hx]; exact vp_in_nI (by omega) (by omega)
      have hxc : x.toNatClampNeg = h := by rw [hx, nI_clamp (by omega)]
      have hfh : f x.toNatClampNeg = C h := by rw [hxc]; exact hf h (by omega)
      refine hG 1 _ _ _ (And.intro (fun q => ?_) (fun q => ?_))
      rotate_left
      · rw [hx, show (256 : Int32) = nI 256 from rfl, nI_ltI (by omega) (by omega)] at q; omega
      refine And.intro hinh (And.intro (fun q2 => ?_) (fun q2 => ?_))
      · have q2 : f x.toNatClampNeg < 1000000 := q2
        rw [hfh] at q2
        refine And.intro ⟨s, va_up A 9 f, _, n, rfl, rfl, hn, hn8⟩ ?_
        intro r hr
        obtain ⟨v, hv⟩ : ∃ v, v = LB h := ⟨_, rfl⟩
        obtain rfl : r = some (.int v) := by rw [hv, hLB, mdLB, p_LB, ← hx]; exact hr
        exact ih (h + 1) _ (a ||| v) (by omega) (by rw [hx, nI_1]) (by rw [p_al, if_pos q2, ← hv, ha])
      · have q2 : ¬ f x.toNatClampNeg < 1000000 := q2
        rw [hfh] at q2
        exact ih (h + 1) _ (a ||| 0) (by omega) (by rw [hx, nI_1]) (by rw [p_al, if_neg q2, p_or0, ha])
  exact loop 256 0 _ _ (by omega) nI_0.symm rfl
end
section
/-! ===== WishClerkModel: the shortest row, breadth first ===== -/
theorem hb_nI : ∀ a, a < 256 → ∀ i, i < 8 → p_hb (nI a) (nI i) = if a.testBit i then 1 else 0 := by decide +kernel
theorem nI_n4 {a : Nat} (h : a < 256) : ¬ nI a = -4 := by
  intro q
  have q2 : (nI a).toInt = (-4 : Int32).toInt := by rw [q]
  rw [nI_toInt (by omega), show (-4 : Int32).toInt = -4 from rfl] at q2
  omega
/-- what follows of a wish, as a number -/
theorem p_fw_ex {nd : Nat → Int32} {n : Nat} (hnd : ∀ i, i < n → lt8 (nd i)) {w : Nat} (hw : w < 8) : ∃ j : Nat, j < 256 ∧ p_fw nd n ((1 : Int32) <<< (nI w &&& 31)) = nI j ∧ j.testBit w = true := by
  have key : ∀ k, ∃ j : Nat, j < 256 ∧ p_it nd n 0 ((1 : Int32) <<< (nI w &&& 31)) k = nI j ∧ j.testBit w = true := by
    intro k
    induction k with
    | zero =>
      refine ⟨2 ^ w, by have := Nat.pow_lt_pow_right (a := 2) (by decide) hw; omega, p_2n w (by omega), ?_⟩
      rw [Nat.testBit_two_pow_self]
    | succ k ih =>
      obtain ⟨j, hj, e, ht⟩ := ih
      obtain ⟨i, hi, e2⟩ := p_ga_lt8 hnd (p_it nd n 0 ((1 : Int32) <<< (nI w &&& 31)) k)
      refine ⟨j ||| i, Nat.or_lt_two_pow (n := 8) hj hi, ?_, ?_⟩
      · rw [p_it, p_st, p_andm1, e2, e, lt8_orI]
      · rw [Nat.testBit_or, ht]; rfl
  exact key 8
theorem p_as_gt {on nd cl : Nat → Int32} {n : Nat} (hnd : ∀ i, i < n → lt8 (nd i)) (l0 h0 ba : Int32) {w : Nat} (hw : w < 8) {h : Nat} (hh : h < 256) (d : Nat) (li : Int32) (hne : ¬ p_AS on nd cl n l0 h0 ba d li h w = -4) : ∃ b : Nat, b < 256 ∧ h < b ∧ p_AS on nd cl n l0 h0 ba d li h w = nI b := by
  unfold p_AS p_as at hne ⊢
  by_cases c1 : p_hb (nI h) (nI w) = 0
  · rw [if_pos c1] at hne ⊢
    by_cases c2 : p_re on nd cl n li ba (nI w) (nI h) (p_lb on nd n l0 h0 (nI h)) d = 0
    · rw [if_pos c2]
      obtain ⟨j, hj, e, ht⟩ := p_fw_ex hnd hw
      rw [hb_nI h hh w hw] at c1
      have hb : h.testBit w = false := by
        cases hq : h.testBit w with
        | false => rfl
        | true => rw [hq] at c1; exact absurd c1 (by decide)
      refine ⟨h ||| j, Nat.or_lt_two_pow (n := 8) hh hj, ?_, by rw [e, lt8_orI]⟩
      have h1 : h ≤ h ||| j := Nat.left_le_or
      rcases Nat.lt_or_eq_of_le h1 with q | q
      · exact q
      · have : (h ||| j).testBit w = true := by rw [Nat.testBit_or, ht, Bool.or_true]
        rw [← q, hb] at this
        cases this
    · rw [if_neg c2] at hne
      exact absurd rfl hne
  · rw [if_neg c1] at hne
    exact absurd rfl hne
/-- by, before, line, how many -/
abbrev bQ : Type := (Nat → Int32) × (Nat → Nat) × (Nat → Nat) × Nat
def b_up {α : Type} (f : Nat → α) (k : Nat) (v : α) : Nat → α := fun j => if j = k then v else f j
def p_bqS (AS : Nat → Nat → Int32) (h w : Nat) (q : bQ) : bQ := if AS h w = -4 then q else if q.1 (AS h w).toNatClampNeg = -4 then (upd q.1 (AS h w).toNatClampNeg (nI w), b_up q.2.1 (AS h w).toNatClampNeg h, b_up q.2.2.1 q.2.2.2 (AS h w).toNatClampNeg, q.2.2.2 + 1) else q
def p_bqI (AS : Nat → Nat → Int32) (h : Nat) (q : bQ) : Nat → bQ
  | 0 => q
  | k + 1 => p_bqS AS h k (p_bqI AS h q k)
def p_bq (AS : Nat → Nat → Int32) (lb : Nat → Int32) (p : Int32) (n : Nat) : Nat → Nat → bQ → Int32 × bQ
  | 0, _, q => (-4, q)
  | f + 1, i, q => if i < q.2.2.2 then (if p_hb (lb (q.2.2.1 i)) p = 0 then p_bq AS lb p n f (i + 1) (p_bqI AS (q.2.2.1 i) q n) else (nI (q.2.2.1 i), q)) else (-4, q)
def p_bq0 (h0 : Nat) : bQ := (upd (fun _ => -4) h0 8, fun _ => 0, fun _ => h0, 1)
def p_cn (f : Nat → Int32) : Nat → Nat
  | 0 => 0
  | k + 1 => if f k = -4 then p_cn f k else p_cn f k + 1
theorem p_cn_le (f : Nat → Int32) : ∀ k, p_cn f k ≤ k
  | 0 => Nat.le_refl _
  | k + 1 => by
    have := p_cn_le f k
    rw [p_cn]
    split <;> omega
theorem p_cn_lt {f : Nat → Int32} {b : Nat} (hb : f b = -4) : ∀ k, b < k → p_cn f k < k
  | 0, h => by omega
  | k + 1, h => by
    rw [p_cn]
    rcases Nat.lt_or_ge b k with q | q
    · have := p_cn_lt hb k q
      split <;> omega
    · rw [show k = b by omega, if_pos hb]
      have := p_cn_le f b
      omega
theorem p_cn_up0 (f : Nat → Int32) {b : Nat} (v : Int32) : ∀ k, k ≤ b → p_cn (upd f b v) k = p_cn f k
  | 0, _ => rfl
  | k + 1, h => by
    rw [p_cn, p_cn, p_cn_up0 f v k (by omega), show upd f b v k = f k by rw [upd, if_neg (by omega)]]
theorem p_cn_up {f : Nat → Int32} {b : Nat} (hb : f b = -4) {v : Int32} (hv : ¬ v = -4) : ∀ k, b < k → p_cn (upd f b v) k = p_cn f k + 1
  | 0, h => by omega
  | k + 1, h => by
    rw [p_cn, p_cn]
    rcases Nat.lt_or_ge b k with q | q
    · rw [p_cn_up hb hv k q, show upd f b v k = f k by rw [upd, if_neg (by omega)]]
      split <;> rfl
    · rw [show k = b by omega, p_cn_up0 f v b (Nat.le_refl _), if_pos hb, show upd f b v b = v by rw [upd, if_pos rfl], if_neg hv]
/-- what holds of the queue -/
def bWF (q : bQ) : Prop := p_cn q.1 256 = q.2.2.2 ∧ 0 < q.2.2.2 ∧ (∀ j, j < q.2.2.2 → q.2.2.1 j < 256 ∧ ¬ q.1 (q.2.2.1 j) = -4) ∧ (∀ x, x < 256 → ¬ q.1 x = -4 → q.1 x = 8 ∨ (q.2.1 x < x ∧ ¬ q.1 (q.2.1 x) = -4))
theorem bWF_0 {h0 : Nat} (h : h0 < 256) : bWF (p_bq0 h0) := by
  refine ⟨?_, Nat.one_pos, fun j hj => ⟨h, ?_⟩, fun x hx hq => Or.inl ?_⟩
  · show p_cn (upd (fun _ => -4) h0 8) 256 = 1
    rw [p_cn_up (b := h0) rfl (by decide) 256 h]
    have : ∀ k, p_cn (fun _ => (-4 : Int32)) k = 0 := by
      intro k
      induction k with
      | zero => rfl
      | succ k ih => rw [p_cn, if_pos rfl, ih]
    rw [this]
  · show ¬ upd (fun _ => -4) h0 8 h0 = -4
    rw [upd, if_pos rfl]; decide
  · have hq : ¬ upd (fun _ => -4) h0 8 x = -4 := hq
    show upd (fun _ => -4) h0 8 x = 8
    rw [upd] at hq ⊢
    split
    · rfl
    · next hn => rw [if_neg hn] at hq; exact absurd rfl hq
theorem bWF_S {AS : Nat → Nat → Int32} {h w : Nat} {q : bQ} (hw : w < 8) (hq : bWF q) (hh : ¬ q.1 h = -4) (hA : AS h w = -4 ∨ ∃ b, b < 256 ∧ h < b ∧ AS h w = nI b) : bWF (p_bqS AS h w q) ∧ ¬ (p_bqS AS h w q).1 h = -4 := by
  unfold p_bqS
  by_cases c1 : AS h w = -4
  · rw [if_pos c1]; exact ⟨hq, hh⟩
  rw [if_neg c1]
  rcases hA with hA | ⟨b, hb, hhb, hA⟩
  · exact absurd hA c1
  have hbc : (AS h w).toNatClampNeg = b := by rw [hA, nI_clamp (by omega)]
  rw [hbc]
  by_cases c2 : q.1 b = -4
  rotate_left
  · rw [if_neg c2]; exact ⟨hq, hh⟩
  rw [if_pos c2]
  obtain ⟨h1, h2, h3, h4⟩ := hq
  have hv : ¬ nI w = -4 := nI_n4 (by omega)
  have up : ∀ x, ¬ q.1 x = -4 → ¬ upd q.1 b (nI w) x = -4 := by
    intro x hx
    unfold upd
    split
    · exact hv
    · exact hx
  refine ⟨⟨?_, Nat.succ_pos _, ?_, ?_⟩, up h hh⟩
  · show p_cn (upd q.1 b (nI w)) 256 = q.2.2.2 + 1
    rw [p_cn_up c2 hv 256 hb, h1]
  · intro j hj
    show b_up q.2.2.1 q.2.2.2 b j < 256 ∧ ¬ upd q.1 b (nI w) (b_up q.2.2.1 q.2.2.2 b j) = -4
    unfold b_up
    split
    · refine ⟨hb, ?_⟩
      rw [upd, if_pos rfl]; exact hv
    · next hn =>
      have hj : j < q.2.2.2 + 1 := hj
      exact ⟨(h3 j (by omega)).1, up _ (h3 j (by omega)).2⟩
  · intro x hx hxq
    show upd q.1 b (nI w) x = 8 ∨ (b_up q.2.1 b h x < x ∧ ¬ upd q.1 b (nI w) (b_up q.2.1 b h x) = -4)
    by_cases e : x = b
    · refine Or.inr ?_
      rw [b_up, if_pos e]
      exact ⟨by omega, up h hh⟩
    · have hxq : ¬ upd q.1 b (nI w) x = -4 := hxq
      rw [upd, if_neg e] at hxq
      rw [show upd q.1 b (nI w) x = q.1 x by rw [upd, if_neg e], b_up, if_neg e]
      rcases h4 x hx hxq with r | r
      · exact Or.inl r
      · exact Or.inr ⟨r.1, up _ r.2⟩
/-- the arrays as the queue says -/
def bRq (g : Nat → Nat → Int32) (q : bQ) : Prop := (∀ j, j < 256 → g 11 j = q.1 j) ∧ (∀ j, j < 256 → ¬ q.1 j = -4 → ¬ q.1 j = 8 → g 10 j = nI (q.2.1 j)) ∧ (∀ j, j < q.2.2.2 → g 12 j = nI (q.2.2.1 j))
def mdBQ (s : Nat → Int32) (A : Nat → Nat → Int32) (p : Int32) : Int32 × bQ := p_bq (mdAS s A (A 1 28) (A 1 27)) (mdLB s A) p (s 3).toNatClampNeg 257 0 (p_bq0 (A 1 26).toNatClampNeg)
def c_X6_findRow : sCtr := ((yX6_findRow, cX6_findRow, 7, (some .int)), (7, 1, 4, 100), false,
  mdfp,
  fun vs L => ∃ (s : Nat → Int32) (A : Nat → Nat → Int32) (p : Int32) (n d : Nat), vs = [.ref 0, .int p] ∧ L = mdW s A ∧ s 3 = nI n ∧ n ≤ 8 ∧ A 1 28 = nI d ∧ d ≤ 8 ∧ (∀ i, i < n → lt8 (A 1 (10 + i))) ∧ lt8 (A 1 26),
  fun vs L r L' => r = some (.int (mdBQ (oI L 0) (bF L) (vI vs 1)).1) ∧ ∃ g, L' = mdW (oI L 0) (md4 (bF L) g) ∧ bRq g (mdBQ (oI L 0) (bF L) (vI vs 1)).2 ∧ bWF (mdBQ (oI L 0) (bF L) (vI vs 1)).2 ∧ ((mdBQ (oI L 0) (bF L) (vI vs 1)).1 = -4 ∨ ∃ h : Nat, h < 256 ∧ (mdBQ (oI L 0) (bF L) (vI vs 1)).1 = nI h ∧ ¬ (mdBQ (oI L 0) (bF L) (vI vs 1)).2.1 h = -4))
theorem sta_X6_findRow : s_Sta c_X6_findRow := ⟨⟨by decide +kernel, by decide +kernel, by decide +kernel⟩, List.mem_of_getElem? (i := 1133) (by decide +kernel), List.mem_of_getElem? (i := 70) (by decide +kernel), ⟨List.mem_of_getElem? (i := 1132) (by decide +kernel), List.mem_of_getElem? (i := 55) (by decide +kernel), Or.inl ⟨_, rfl, rfl⟩⟩⟩

def k_X6_findRow : List sBk := [
  (0, false, [true, true, false, false, false, false, false], [oK 0 (.iconst 1) (.int 1), o0 1 (.istore_n 2), oK 2 (.iconst 0) (.int 0), o0 3 (.istore_n 3), oN 4 .nop [1]]),
  (4, true, [true, true, true, true, false, false, false], [o0 4 (.iload_n 3), oK 5 (.sipush 256) (.int 256), oN 8 (.if_icmp .ge 17) [2], o0 11 (.aload_n 0), oN 12 (.getfield 41) [6, 24, 846], o0 15 (.iload_n 3), oK 16 (.bipush (-4)) (.int (-4)), o0 18 .iastore, oK 19 (.iinc 3 1) (.int 1), oN 22 (.goto (-18)) [1]]),
  (25, false, [true, true, true, false, false, false, false], [o0 25 (.aload_n 0), oN 26 (.getfield 44) [6, 25, 847], oK 29 (.iconst 0) (.int 0), o0 30 (.aload_n 0), oN 31 (.getfield 7) [6, 0, 822], oK 34 (.bipush 26) (.int 26), o0 36 .iaload, o0 37 .iastore, o0 38 (.aload_n 0), oN 39 (.getfield 41) [6, 24, 846], o0 42 (.aload_n 0), oN 43 (.getfield 7) [6, 0, 822], oK 46 (.bipush 26) (.int 26), o0 48 .iaload, oK 49 (.bipush 8) (.int 8), o0 51 .iastore, oK 52 (.iconst 0) (.int 0), o0 53 (.istore_n 3), oN 54 .nop [3]]),
  (54, true, [true, true, true, true, false, false, false], [o0 54 (.iload_n 3), o0 55 (.iload_n 2), oN 56 (.if_icmp .ge 124) [8], o0 59 (.aload_n 0), oN 60 (.getfield 44) [6, 25, 847], o0 63 (.iload_n 3), o0 64 .iaload, o0 65 (.istore 4), o0 67 (.aload_n 0), o0 68 (.iload 4), oC 70 (.invokevirtual 225) [1134] c_X6_livingBy, o0 73 (.iload_n 1), o0 74 .ishr, oK 75 (.iconst 1) (.int 1), o0 76 .iand, oK 77 (.iconst 1) (.int 1), oN 78 (.if_icmp .ne 6) [4], o0 81 (.iload 4), o0 83 .ireturn]),
  (84, false, [true, true, true, true, true, false, false], [oK 84 (.iconst 0) (.int 0), o0 85 (.istore 5), oN 87 .nop [5]]),
  (87, true, [true, true, true, true, true, true, false], [o0 87 (.iload 5), o0 89 (.aload_n 0), oN 90 (.getfield 85) [6, 3, 825], oN 93 (.if_icmp .ge 81) [7], o0 96 (.aload_n 0), o0 97 (.iload 5), o0 99 (.iload 4), o0 101 (.aload_n 0), oN 102 (.getfield 7) [6, 0, 822], oK 105 (.bipush 28) (.int 28), o0 107 .iaload, o0 108 (.aload_n 0), oN 109 (.getfield 7) [6, 0, 822], oK 112 (.bipush 27) (.int 27), o0 114 .iaload, oC 115 (.invokevirtual 228) [1138] c_X6_askedBy, o0 118 (.istore 6), o0 120 (.iload 6), oK 122 (.bipush (-4)) (.int (-4)), oN 124 (.if_icmp .eq 44) [6], o0 127 (.aload_n 0), oN 128 (.getfield 41) [6, 24, 846], o0 131 (.iload 6), o0 133 .iaload, oK 134 (.bipush (-4)) (.int (-4)), oN 136 (.if_icmp .ne 32) [6], o0 139 (.aload_n 0), oN 140 (.getfield 41) [6, 24, 846], o0 143 (.iload 6), o0 145 (.iload 5), o0 147 .iastore, o0 148 (.aload_n 0), oN 149 (.getfield 38) [6, 23, 845], o0 152 (.iload 6), o0 154 (.iload 4), o0 156 .iastore, o0 157 (.aload_n 0), oN 158 (.getfield 44) [6, 25, 847], o0 161 (.iload_n 2), o0 162 (.iload 6), o0 164 .iastore, oK 165 (.iinc 2 1) (.int 1), oN 168 .nop [6]]),
  (168, false, [true, true, true, true, true, true, false], [oK 168 (.iinc 5 1) (.int 1), oN 171 (.goto (-84)) [5]]),
  (174, false, [true, true, true, true, false, false, false], [oK 174 (.iinc 3 1) (.int 1), oN 177 (.goto (-123)) [3]]),
  (180, false, [false, false, false, false, false, false, false], [oK 180 (.bipush (-4)) (.int (-4)), o0 182 .ireturn])]
set_option maxRecDepth 100000 in
theorem ck_X6_findRow : s_ck RX6 cX6_findRow 7 4 100 k_X6_findRow = true := by decide +kernel

set_option maxRecDepth 100000 in
set_option maxHeartbeats 4000000 in
theorem ok_X6_findRow : s_Ok c_X6_findRow := by
  refine s_ok_of k_X6_findRow (by decide +kernel) sta_X6_findRow ck_X6_findRow (And.intro ok_X6_livingBy (And.intro ok_X6_askedBy trivial)) ?_
  rintro vs L ⟨s, A, p, n, d, rfl, rfl, hn, hn8, he, hd, hnd, h0, hh0, hh0e⟩
  refine ⟨rfl, fun G hG => ?_⟩
  have e3 : (s 3).toNatClampNeg = n := by rw [hn, nI_clamp (by omega)]
  have e26 : (A 1 26).toNatClampNeg = h0 := by rw [hh0e, nI_clamp (by omega)]
  obtain ⟨AS, hAS⟩ : ∃ AS, AS = mdAS s A (A 1 28) (A 1 27) := ⟨_, rfl⟩
  obtain ⟨LB, hLB⟩ : ∃ LB, LB = mdLB s A := ⟨_, rfl⟩
  have hASe : ∀ h w : Nat, AS h w = p_asM s A (nI w) (nI h) (A 1 28) (A 1 27) := fun h w => by rw [hAS]; rfl
  have hASl : ∀ h w : Nat, h < 256 → w < n → AS h w = -4 ∨ ∃ b, b < 256 ∧ h < b ∧ AS h w = nI b := by
    intro h w hh hw
    by_cases q : AS h w = -4
    · exact Or.inl q
    · rw [hAS, mdAS, e3] at q ⊢
      exact Or.inr (p_as_gt hnd _ _ _ (by omega) hh _ _ q)
  obtain ⟨R, hR⟩ : ∃ R, R = mdBQ s A p := ⟨_, rfl⟩
  have fin : ∀ (a : Int32) (g : Nat → Nat → Int32), a = R.1 → bRq g R.2 → bWF R.2 → (R.1 = -4 ∨ ∃ h : Nat, h < 256 ∧ R.1 = nI h ∧ ¬ R.2.1 h = -4) → s_PP (some .int) false c_X6_findRow.2.2.2.2.2 [.ref 0, .int p] (mdW s A) (some (.int a)) (mdW s (md4 A g)) := fun a g ha h1 h2 h3 => by
    rw [hR] at ha h1 h2 h3
    exact ⟨rfl, ⟨by rw [ha]; rfl, g, rfl, h1, h2, h3⟩, fun h => by cases h⟩
  have l3 : ∀ (f i : Nat) (q : bQ) (x y : Int32) (g : Nat → Nat → Int32), 256 < f + i → i ≤ q.2.2.2 → x = nI i → y = nI q.2.2.2 → bWF q → bRq g q → R = p_bq AS LB p n f i q → G 3 [some (.ref 0), some (.int p), some (.int y), some (.int x), none, none, none] [] (mdW s (md4 A g)) := by
    intro f
    induction f with
    | zero =>
      intro i q x y g hf hi hx hy hw hr hR2
      have := p_cn_le q.1 256
      rw [hw.1] at this; omega
    | succ f ih =>
      intro i q x y g hf hi hx hy hw hr hR2
      have hm : q.2.2.2 ≤ 256 := by rw [← hw.1]; exact p_cn_le q.1 256
      refine hG 3 _ _ _ (And.intro (fun c => ?_) (fun c => ?_))
      rotate_left
      · have c : ¬ i < q.2.2.2 := by
          intro z
          apply c
          rw [hx, hy, nI_ltI (by omega) (by omega)]; exact z
        rw [p_bq, if_neg c] at hR2
        exact fin (-4) g (by rw [hR2]) (by rw [hR2]; exact hr) (by rw [hR2]; exact hw) (Or.inl (by rw [hR2]))
      have c : i < q.2.2.2 := by
        rw [hx, hy, nI_ltI (by omega) (by omega)] at c; exact c
      rw [p_bq, if_pos c] at hR2
      obtain ⟨h, hh⟩ : ∃ h, h = q.2.2.1 i := ⟨_, rfl⟩
      have hh2 : h < 256 ∧ ¬ q.1 h = -4 := by rw [hh]; exact hw.2.2.1 i c
      rw [← hh] at hR2
      refine And.intro (by rw [hx]; exact vp_in_nI (by omega) (by omega)) ?_
      obtain ⟨hv, hhv⟩ : ∃ v, v = g 12 x.toNatClampNeg := ⟨_, rfl⟩
      have hve : hv = nI h := by rw [hhv, hx, nI_clamp (by omega), hh]; exact hr.2.2 i c
      refine And.intro ⟨s, md4 A g, _, n, rfl, rfl, hn, hn8⟩ ?_
      intro r hr2
      obtain ⟨v, hv2⟩ : ∃ v, v = LB h := ⟨_, rfl⟩
      obtain rfl : r = some (.int v) := by rw [hv2, hLB, mdLB, p_LB, ← hve, hhv]; exact hr2
      rw [← hv2] at hR2
      refine And.intro (fun c2 => ?_) (fun c2 => ?_)
      · have c2 : ¬ p_hb v p = 0 := fun z => p_hb_0.mp z c2
        rw [if_neg c2] at hR2
        exact fin (g 12 x.toNatClampNeg) g (by rw [hR2, ← hhv, hve]) (by rw [hR2]; exact hr) (by rw [hR2]; exact hw) (Or.inr ⟨h, hh2.1, by rw [hR2], by rw [hR2]; exact hh2.2⟩)
      have c2 : p_hb v p = 0 := p_hb_0.mpr c2
      rw [if_pos c2] at hR2
      have l5 : ∀ (k w : Nat) (q2 : bQ) (u y : Int32) (g : Nat → Nat → Int32), w + k = n → u = nI w → y = nI q2.2.2.2 → q2 = p_bqI AS h q w → q.2.2.2 ≤ q2.2.2.2 → bWF q2 → ¬ q2.1 h = -4 → bRq g q2 → G 5 [some (.ref 0), some (.int p), some (.int y), some (.int x), some (.int hv), some (.int u), none] [] (mdW s (md4 A g)) := by
        intro k
        induction k with
        | zero =>
          intro w q2 u y g hk hu hy hq2 hle hw2 hvis hr2
          refine hG 5 _ _ _ (And.intro (fun c => ?_) (fun c => ?_))
          · have c : u < s 3 := c
            rw [hu, hn, nI_ltI (by omega) (by omega)] at c; omega
          · refine ih (i + 1) q2 _ y g (by omega) (by omega) (by rw [hx, nI_1]) hy hw2 hr2 ?_
            rw [hR2, hq2, show w = n by omega]
        | succ k ih2 =>
          intro w q2 u y g hk hu hy hq2 hle hw2 hvis hr2
          have hS := bWF_S (AS := AS) (h := h) (w := w) (by omega) hw2 hvis (hASl h w hh2.1 (by omega))
          have hI : p_bqI AS h q (w + 1) = p_bqS AS h w q2 := by rw [p_bqI, ← hq2]
          have skip : p_bqS AS h w q2 = q2 → G 5 [some (.ref 0), some (.int p), some (.int y), some (.int x), some (.int hv), some (.int (u + 1)), none] [] (mdW s (md4 A g)) := fun e => ih2 (w + 1) q2 _ y g (by omega) (by rw [hu, nI_1]) hy (by rw [hI, e]) hle hw2 hvis hr2
          refine hG 5 _ _ _ (And.intro (fun c => ?_) (fun c => ?_))
          rotate_left
          · have c : ¬ u < s 3 := c
            rw [hu, hn, nI_ltI (by omega) (by omega)] at c; omega
          refine And.intro (vp_in_nI (n := 28) (N := 159) (by decide) (by decide)) (And.intro (vp_in_nI (n := 27) (N := 159) (by decide) (by decide)) ?_)
          refine And.intro ⟨s, md4 A g, _, _, _, _, n, d, rfl, rfl, hn, hn8, he, hd⟩ ?_
          intro r hr3
          obtain ⟨th, hth⟩ : ∃ th, th = AS h w := ⟨_, rfl⟩
          obtain rfl : r = some (.int th) := by rw [hth, hASe, ← hve, ← hu]; exact hr3
          refine And.intro (fun c3 => ?_) (fun c3 => ?_)
          · have c3 : th = -4 := c3
            exact skip (by rw [p_bqS, ← hth, if_pos c3])
          have c3 : ¬ th = -4 := c3
          obtain ⟨b, hb, hhb, hbe⟩ : ∃ b, b < 256 ∧ h < b ∧ th = nI b := by
            rcases hASl h w hh2.1 (by omega) with z | z
            · rw [← hth] at z; exact absurd z c3
            · rw [← hth] at z; exact z
          have hbc : th.toNatClampNeg = b := by rw [hbe, nI_clamp (by omega)]
          have hinb : vp_in th 256 := by rw [hbe]; exact vp_in_nI hb (by omega)
          have hgb : g 11 th.toNatClampNeg = q2.1 b := by rw [hbc]; exact hr2.1 b hb
          refine And.intro hinb (And.intro (fun c4 => ?_) (fun c4 => ?_))
          rotate_left
          · have c4 : ¬ g 11 th.toNatClampNeg = -4 := c4
            rw [hgb] at c4
            exact skip (by rw [p_bqS, ← hth, if_neg c3, hbc, if_neg c4])
          have c4 : g 11 th.toNatClampNeg = -4 := c4
          rw [hgb] at c4
          have hlt := p_cn_lt c4 256 hb
          rw [hw2.1] at hlt
          have hyc : y.toNatClampNeg = q2.2.2.2 := by rw [hy, nI_clamp (by omega)]
          have hq3 : p_bqS AS h w q2 = (upd q2.1 b (nI w), b_up q2.2.1 b h, b_up q2.2.2.1 q2.2.2.2 b, q2.2.2.2 + 1) := by rw [p_bqS, ← hth, if_neg c3, hbc, if_pos c4]
          rw [hq3] at hS hI
          refine And.intro hinb (And.intro hinb (And.intro (by rw [hy]; exact vp_in_nI hlt (by omega)) ?_))
          refine ih2 (w + 1) (upd q2.1 b (nI w), b_up q2.2.1 b h, b_up q2.2.2.1 q2.2.2.2 b, q2.2.2.2 + 1) _ _ (va_up (va_up (va_up g 11 (upd (g 11) th.toNatClampNeg u)) 10 (upd (g 10) th.toNatClampNeg hv)) 12 (upd (g 12) y.toNatClampNeg th)) (by omega) (by rw [hu, nI_1]) (by rw [hy, nI_1]) hI.symm (by show q.2.2.2 ≤ q2.2.2.2 + 1; omega) hS.1 hS.2 ⟨?_, ?_, ?_⟩
          · intro j hj
            show upd (g 11) th.toNatClampNeg u j = upd q2.1 b (nI w) j
            rw [hbc, hu]
            exact agr_upd hr2.1 b (nI w) j hj
          · intro j hj hj4 hj8
            show upd (g 10) th.toNatClampNeg hv j = nI (b_up q2.2.1 b h j)
            rw [hbc, hve]
            unfold upd b_up
            by_cases e : j = b
            · rw [if_pos e, if_pos e]
            · rw [if_neg e, if_neg e]
              have hj4 : ¬ upd q2.1 b (nI w) j = -4 := hj4
              have hj8 : ¬ upd q2.1 b (nI w) j = 8 := hj8
              rw [upd, if_neg e] at hj4 hj8
              exact hr2.2.1 j hj hj4 hj8
          · intro j hj
            show upd (g 12) y.toNatClampNeg th j = nI (b_up q2.2.2.1 q2.2.2.2 b j)
            rw [hyc, hbe]
            unfold upd b_up
            by_cases e : j = q2.2.2.2
            · rw [if_pos e, if_pos e]
            · rw [if_neg e, if_neg e]
              have hj : j < q2.2.2.2 + 1 := hj
              exact hr2.2.2 j (by omega)
      have k5 := l5 n 0 q 0 y g (by omega) nI_0.symm hy rfl (Nat.le_refl _) hw hh2.2 hr
      rw [hhv] at k5
      exact k5
  have l1 : ∀ (k i : Nat) (x : Int32) (f : Nat → Int32), i + k = 256 → x = nI i → (∀ j, j < i → f j = -4) → G 1 [some (.ref 0), some (.int p), some (.int 1), some (.int x), none, none, none] [] (mdW s (va_up A 11 f)) := by
    intro k
    induction k with
    | zero =>
      intro i x f hi hx hf
      refine hG 1 _ _ _ (And.intro (fun q => ?_) (fun q => ?_))
      · rw [hx, show (256 : Int32) = nI 256 from rfl, nI_ltI (by omega) (by omega)] at q; omega
      · refine And.intro (vp_in_nI (n := 26) (N := 159) (by decide) (by decide)) (And.intro (vp_in_nI (n := 0) (N := 256) (by decide) (by decide)) (And.intro (vp_in_nI (n := 26) (N := 159) (by decide) (by decide)) (And.intro ?_ ?_)))
        · show vp_in (A 1 26) 256
          rw [hh0e]; exact vp_in_nI hh0 (by omega)
        · refine l3 257 0 (p_bq0 h0) _ _ (va_up (va_up A 11 (upd f (A 1 26).toNatClampNeg 8)) 12 (upd (A 12) 0 (A 1 26))) (by omega) (Nat.zero_le _) nI_0.symm rfl (bWF_0 hh0) ⟨?_, ?_, ?_⟩ (by rw [hR, mdBQ, ← hAS, ← hLB, e3, e26])
          · show ∀ j, j < 256 → upd f (A 1 26).toNatClampNeg 8 j = upd (fun _ => -4) h0 8 j
            rw [e26]
            exact agr_upd (fun j hj => hf j (by omega)) h0 8
          · intro j hj h4 h8
            have h4 : ¬ upd (fun _ => -4) h0 8 j = -4 := h4
            have h8 : ¬ upd (fun _ => -4) h0 8 j = 8 := h8
            rw [upd] at h4 h8
            by_cases e : j = h0
            · rw [if_pos e] at h8; exact absurd rfl h8
            · rw [if_neg e] at h4; exact absurd rfl h4
          · intro j hj
            have hj : j < 1 := hj
            show upd (A 12) 0 (A 1 26) j = nI h0
            rw [upd, if_pos (by omega), hh0e]
    | succ k ih =>
      intro i x f hi hx hf
      have hxc : x.toNatClampNeg = i := by rw [hx, nI_clamp (by omega)]
      refine hG 1 _ _ _ (And.intro (fun q => ?_) (fun q => ?_))
      · refine And.intro (by rw [hx]; exact vp_in_nI (by omega) (by omega)) ?_
        refine ih (i + 1) _ (upd f x.toNatClampNeg (-4)) (by omega) (by rw [hx, nI_1]) ?_
        intro j hj
        rw [hxc]
        unfold upd
        split
        · rfl
        · exact hf j (by omega)
      · rw [hx, show (256 : Int32) = nI 256 from rfl, nI_ltI (by omega) (by omega)] at q; omega
  have l := l1 256 0 0 (A 11) (by omega) nI_0.symm (fun j hj => by omega)
  rw [va_upI] at l
  exact hG 0 _ _ _ l
end
section
/-! ===== WishClerkModel: row ===== -/
def p_len (by_ : Nat → Int32) (bf : Nat → Nat) : Nat → Nat → Nat
  | 0, _ => 0
  | f + 1, x => if by_ x = 8 then 0 else p_len by_ bf f (bf x) + 1
/-- the wish at a place of the row, counted from its end -/
def p_fnd (by_ : Nat → Int32) (bf : Nat → Nat) (z : Int32) : Nat → Nat → Int32 → Int32 → Int32
  | 0, _, _, a => a
  | f + 1, x, k, a => if by_ x = 8 then a else p_fnd by_ bf z f (bf x) (k - 1) (if k - 1 = z then by_ x else a)
def p_rowA (R : Int32 × bQ) (z : Int32) : Int32 := if R.1 = -4 then -4 else if z = 0 then nI (p_len R.2.1 R.2.2.1 257 R.1.toNatClampNeg) else p_fnd R.2.1 R.2.2.1 (z - 10) 257 R.1.toNatClampNeg (nI (p_len R.2.1 R.2.2.1 257 R.1.toNatClampNeg)) (-4)
def r_mrow (s : Nat → Int32) (A : Nat → Nat → Int32) (p z : Int32) : Int32 := if p_in (s 2) p = 0 then -1 else if z = 0 then p_rowA (mdBQ s A p) z else if p_rg 10 17 z = 0 then -1 else p_rowA (mdBQ s A p) z
theorem p_len_le (by_ : Nat → Int32) (bf : Nat → Nat) : ∀ f x, p_len by_ bf f x ≤ f
  | 0, _ => Nat.le_refl _
  | f + 1, x => by
    rw [p_len]
    split
    · omega
    · have := p_len_le by_ bf f (bf x)
      omega
theorem mdBQ_W (s : Nat → Int32) (A : Nat → Nat → Int32) (p : Int32) : mdBQ (oI (mdW s A) 0) (bF (mdW s A)) p = mdBQ s A p := rfl
theorem r_mrow_W (s : Nat → Int32) (A : Nat → Nat → Int32) (p z : Int32) : r_mrow (oI (mdW s A) 0) (bF (mdW s A)) p z = r_mrow s A p z := by
  unfold r_mrow
  rw [mdBQ_W, show oI (mdW s A) 0 2 = s 2 from rfl]
def c_X6_row : sCtr := ((yX6_row, cX6_row, 8, (some .int)), (7, 2, 5, 126), false,
  mdfp,
  fun vs L => ∃ (s : Nat → Int32) (A : Nat → Nat → Int32) (p z : Int32) (m n d : Nat), vs = [.ref 0, .int p, .int z] ∧ L = mdW s A ∧ s 2 = nI m ∧ m ≤ 8 ∧ s 3 = nI n ∧ n ≤ 8 ∧ A 1 28 = nI d ∧ d ≤ 8 ∧ (∀ i, i < n → lt8 (A 1 (10 + i))) ∧ lt8 (A 1 26),
  fun vs L r L' => r = some (.int (r_mrow (oI L 0) (bF L) (vI vs 1) (vI vs 2))) ∧ ∃ g, L' = mdW (oI L 0) (md4 (bF L) g))
theorem sta_X6_row : s_Sta c_X6_row := ⟨⟨by decide +kernel, by decide +kernel, by decide +kernel⟩, List.mem_of_getElem? (i := 1127) (by decide +kernel), List.mem_of_getElem? (i := 70) (by decide +kernel), ⟨List.mem_of_getElem? (i := 1125) (by decide +kernel), List.mem_of_getElem? (i := 1126) (by decide +kernel), Or.inl ⟨_, rfl, rfl⟩⟩⟩

def k_X6_row : List sBk := [
  (0, false, [true, true, true, false, false, false, false, false], [o0 0 (.aload_n 0), o0 1 (.iload_n 1), oC 2 (.invokevirtual 192) [1035] c_X6_isOne, oN 5 (.ifCond .eq 21) [1], o0 8 (.iload_n 2), oN 9 (.ifCond .eq 19) [2], o0 12 (.iload_n 2), o0 13 .i2l, oV 14 (.ldc2_w 232) [1128] (.long 10), oV 17 (.ldc2_w 234) [1129] (.long 17), oC 20 (.invokestatic 90) [921] c_X6_in, oN 23 (.ifCond .ne 5) [2], oN 26 .nop [1]]),
  (26, false, [false, false, false, false, false, false, false, false], [oK 26 (.iconst (-1)) (.int (-1)), o0 27 .ireturn]),
  (28, false, [true, true, true, false, false, false, false, false], [o0 28 (.aload_n 0), o0 29 (.iload_n 1), oC 30 (.invokevirtual 236) [1130] c_X6_findRow, o0 33 (.istore_n 3), o0 34 (.iload_n 3), oK 35 (.bipush (-4)) (.int (-4)), oN 37 (.if_icmp .ne 6) [3], oK 40 (.bipush (-4)) (.int (-4)), o0 42 .ireturn]),
  (43, false, [true, false, true, true, false, false, false, false], [oK 43 (.iconst 0) (.int 0), o0 44 (.istore 4), o0 46 (.iload_n 3), o0 47 (.istore 5), oN 49 .nop [4]]),
  (49, true, [true, false, true, true, true, true, false, false], [o0 49 (.aload_n 0), oN 50 (.getfield 41) [6, 24, 846], o0 53 (.iload 5), o0 55 .iaload, oK 56 (.bipush 8) (.int 8), oN 58 (.if_icmp .eq 18) [5], oK 61 (.iinc 4 1) (.int 1), o0 64 (.aload_n 0), oN 65 (.getfield 38) [6, 23, 845], o0 68 (.iload 5), o0 70 .iaload, o0 71 (.istore 5), oN 73 (.goto (-24)) [4]]),
  (76, false, [true, false, true, true, true, false, false, false], [o0 76 (.iload_n 2), oN 77 (.ifCond .ne 6) [6], o0 80 (.iload 4), o0 82 .ireturn]),
  (83, false, [true, false, true, true, true, false, false, false], [oK 83 (.bipush (-4)) (.int (-4)), o0 85 (.istore 5), o0 87 (.iload 4), o0 89 (.istore 6), o0 91 (.iload_n 3), o0 92 (.istore 7), oN 94 .nop [7]]),
  (94, true, [true, false, true, false, false, true, true, true], [o0 94 (.aload_n 0), oN 95 (.getfield 41) [6, 24, 846], o0 98 (.iload 7), o0 100 .iaload, oK 101 (.bipush 8) (.int 8), oN 103 (.if_icmp .eq 41) [10], oK 106 (.iinc 6 (-1)) (.int (-1)), o0 109 (.iload 6), o0 111 (.iload_n 2), oK 112 (.bipush 10) (.int 10), o0 114 .isub, oN 115 (.if_icmp .ne 13) [8], o0 118 (.aload_n 0), oN 119 (.getfield 41) [6, 24, 846], o0 122 (.iload 7), o0 124 .iaload, oN 125 (.goto 5) [9]]),
  (128, false, [true, false, true, false, false, true, true, true], [o0 128 (.iload 5), oN 130 .nop [9]]),
  (130, false, [true, false, true, false, false, false, true, true], [o0 130 (.istore 5), o0 132 (.aload_n 0), oN 133 (.getfield 38) [6, 23, 845], o0 136 (.iload 7), o0 138 .iaload, o0 139 (.istore 7), oN 141 (.goto (-47)) [7]]),
  (144, false, [false, false, false, false, false, true, false, false], [o0 144 (.iload 5), o0 146 .ireturn])]
set_option maxRecDepth 100000 in
theorem ck_X6_row : s_ck RX6 cX6_row 8 5 126 k_X6_row = true := by decide +kernel

set_option maxRecDepth 100000 in
set_option maxHeartbeats 4000000 in
theorem ok_X6_row : s_Ok c_X6_row := by
  refine s_ok_of k_X6_row (by decide +kernel) sta_X6_row ck_X6_row (And.intro ok_X6_isOne (And.intro ok_X6_in (And.intro ok_X6_findRow trivial))) ?_
  rintro vs L ⟨s, A, p, z, m, n, d, rfl, rfl, hm, hm8, hn, hn8, he, hd, hnd, hh0⟩
  refine ⟨rfl, fun G hG => ?_⟩
  have fin : ∀ (a : Int32) (g : Nat → Nat → Int32), a = r_mrow s A p z → s_PP (some .int) false c_X6_row.2.2.2.2.2 [.ref 0, .int p, .int z] (mdW s A) (some (.int a)) (mdW s (md4 A g)) := fun a g ha => ⟨rfl, ⟨by
    show some (Value.int a) = some (Value.int (r_mrow (oI (mdW s A) 0) (bF (mdW s A)) p z))
    rw [r_mrow_W, ha], g, rfl⟩, fun h => by cases h⟩
  have fin0 : ∀ (a : Int32), a = r_mrow s A p z → s_PP (some .int) false c_X6_row.2.2.2.2.2 [.ref 0, .int p, .int z] (mdW s A) (some (.int a)) (mdW s A) := fun a ha => by
    have k := fin a A ha
    rw [md4_I] at k
    exact k
  obtain ⟨R, hR⟩ : ∃ R, R = mdBQ s A p := ⟨_, rfl⟩
  have main : r_mrow s A p z = p_rowA R z → s_go none k_X6_row G (s_PP (some .int) false c_X6_row.2.2.2.2.2 [.ref 0, .int p, .int z] (mdW s A)) false 99 2 [some (.ref 0), some (.int p), some (.int z), none, none, none, none, none] [] (mdW s A) := by
    intro hmain
    refine And.intro ⟨s, A, _, n, d, rfl, rfl, hn, hn8, he, hd, hnd, hh0⟩ ?_
    rintro r L' ⟨hr, g, hL, hq, hw, hend⟩
    replace hq : bRq g (mdBQ (oI (mdW s A) 0) (bF (mdW s A)) p).2 := hq
    replace hw : bWF (mdBQ (oI (mdW s A) 0) (bF (mdW s A)) p).2 := hw
    replace hend : (mdBQ (oI (mdW s A) 0) (bF (mdW s A)) p).1 = -4 ∨ ∃ h : Nat, h < 256 ∧ (mdBQ (oI (mdW s A) 0) (bF (mdW s A)) p).1 = nI h ∧ ¬ (mdBQ (oI (mdW s A) 0) (bF (mdW s A)) p).2.1 h = -4 := hend
    replace hr : r = some (.int (mdBQ (oI (mdW s A) 0) (bF (mdW s A)) p).1) := hr
    rw [mdBQ_W, ← hR] at hq hw hend hr
    obtain ⟨v, hv⟩ : ∃ v, v = R.1 := ⟨_, rfl⟩
    obtain rfl : r = some (.int v) := by rw [hv]; exact hr
    obtain rfl : L' = mdW s (md4 A g) := hL
    refine And.intro (fun c => ?_) (fun c => ?_)
    · have c : v = -4 := c
      rw [hv] at c
      exact fin (-4) g (by rw [hmain, p_rowA, if_pos c])
    have c : ¬ v = -4 := c
    rw [hv] at c
    rcases hend with q | ⟨h, hh, hhe, hvis⟩
    · exact absurd q c
    have hvc : R.1.toNatClampNeg = h := by rw [hhe, nI_clamp (by omega)]
    have hve : v = nI h := by rw [hv, hhe]
    obtain ⟨N, hN⟩ : ∃ N, N = p_len R.2.1 R.2.2.1 257 h := ⟨_, rfl⟩
    have hN2 : N ≤ 257 := by rw [hN]; exact p_len_le _ _ _ _
    have hmain2 : r_mrow s A p z = if z = 0 then nI N else p_fnd R.2.1 R.2.2.1 (z - 10) 257 h (nI N) (-4) := by
      rw [hmain, p_rowA, if_neg c, hvc, ← hN]
    have l7 : ∀ (f x : Nat) (u k a : Int32), x < f → x < 256 → u = nI x → ¬ R.2.1 x = -4 → ¬ z = 0 → r_mrow s A p z = p_fnd R.2.1 R.2.2.1 (z - 10) f x k a → G 7 [some (.ref 0), none, some (.int z), none, none, some (.int a), some (.int k), some (.int u)] [] (mdW s (md4 A g)) := by
      intro f
      induction f with
      | zero => intro x u k a hx; omega
      | succ f ih =>
        intro x u k a hx hx2 hu hvx hz hr2
        have hin : vp_in u 256 := by rw [hu]; exact vp_in_nI hx2 (by omega)
        have huc : u.toNatClampNeg = x := by rw [hu, nI_clamp (by omega)]
        have hg : g 11 u.toNatClampNeg = R.2.1 x := by rw [huc]; exact hq.1 x hx2
        refine hG 7 _ _ _ (And.intro hin (And.intro (fun c => ?_) (fun c => ?_)))
        · have c : g 11 u.toNatClampNeg = 8 := c
          rw [hg] at c
          rw [p_fnd, if_pos c] at hr2
          exact fin a g hr2.symm
        have c : ¬ g 11 u.toNatClampNeg = 8 := c
        rw [hg] at c
        rw [p_fnd, if_neg c] at hr2
        have hch := (hw.2.2.2 x hx2 hvx).resolve_left c
        have hbf : g 10 u.toNatClampNeg = nI (R.2.2.1 x) := by rw [huc]; exact hq.2.1 x hx2 hvx c
        refine And.intro (fun c2 => ?_) (fun c2 => ?_)
        · have c2 : k - 1 = z - 10 := by rw [Int32.sub_eq_add_neg]; exact c2
          rw [if_pos c2] at hr2
          refine And.intro hin (And.intro hin ?_)
          exact ih (R.2.2.1 x) (g 10 u.toNatClampNeg) (k + -1) (g 11 u.toNatClampNeg) (by omega) (by omega) hbf hch.2 hz (by rw [hr2, hg, Int32.sub_eq_add_neg (a := k)])
        · have c2 : ¬ k - 1 = z - 10 := by rw [Int32.sub_eq_add_neg]; exact c2
          rw [if_neg c2] at hr2
          refine And.intro hin ?_
          exact ih (R.2.2.1 x) (g 10 u.toNatClampNeg) (k + -1) a (by omega) (by omega) hbf hch.2 hz (by rw [hr2, Int32.sub_eq_add_neg (a := k)])
    have l4 : ∀ (f x a : Nat) (u y : Int32), x < f → x < 256 → u = nI x → y = nI a → ¬ R.2.1 x = -4 → N = a + p_len R.2.1 R.2.2.1 f x → G 4 [some (.ref 0), none, some (.int z), some (.int v), some (.int y), some (.int u), none, none] [] (mdW s (md4 A g)) := by
      intro f
      induction f with
      | zero => intro x a u y hx; omega
      | succ f ih =>
        intro x a u y hx hx2 hu hy hvx hNN
        have hin : vp_in u 256 := by rw [hu]; exact vp_in_nI hx2 (by omega)
        have huc : u.toNatClampNeg = x := by rw [hu, nI_clamp (by omega)]
        have hg : g 11 u.toNatClampNeg = R.2.1 x := by rw [huc]; exact hq.1 x hx2
        refine hG 4 _ _ _ (And.intro hin (And.intro (fun c => ?_) (fun c => ?_)))
        · have c : g 11 u.toNatClampNeg = 8 := c
          rw [hg] at c
          rw [p_len, if_pos c] at hNN
          refine And.intro (fun hz => ?_) (fun hz => ?_)
          · exact fin y g (by rw [hmain2, if_pos hz, hNN, hy, Nat.add_zero])
          · have hz : ¬ z = 0 := hz
            refine l7 257 h v y (-4) (by omega) hh hve hvis hz ?_
            rw [hmain2, if_neg hz, hNN, hy, Nat.add_zero]
        have c : ¬ g 11 u.toNatClampNeg = 8 := c
        rw [hg] at c
        rw [p_len, if_neg c] at hNN
        have hch := (hw.2.2.2 x hx2 hvx).resolve_left c
        have hbf : g 10 u.toNatClampNeg = nI (R.2.2.1 x) := by rw [huc]; exact hq.2.1 x hx2 hvx c
        refine And.intro hin ?_
        exact ih (R.2.2.1 x) (a + 1) (g 10 u.toNatClampNeg) _ (by omega) (by omega) hbf (by rw [hy, nI_1]) hch.2 (by omega)
    exact l4 257 h 0 v 0 (by omega) hh hve nI_0.symm hvis (by rw [hN, Nat.zero_add])
  refine hG 0 _ _ _ (And.intro ⟨s, A, _, m, rfl, rfl, hm, hm8⟩ ?_)
  intro r hr
  obtain ⟨b, hb⟩ : ∃ b, b = p_in (s 2) p := ⟨_, rfl⟩
  obtain rfl : r = some (.int b) := by rw [hb]; exact hr
  refine And.intro (fun h => ?_) (fun h => ?_)
  · have h : b = 0 := h
    exact fin0 (-1) (by rw [r_mrow, ← hb, if_pos h])
  have h : ¬ b = 0 := h
  refine And.intro (fun h2 => ?_) (fun h2 => ?_)
  · have h2 : z = 0 := h2
    exact main (by rw [r_mrow, ← hb, if_neg h, if_pos h2, hR])
  have h2 : ¬ z = 0 := h2
  refine And.intro ⟨_, _, _, rfl⟩ ?_
  intro r hr
  obtain ⟨b2, hb2⟩ : ∃ b, b = p_rg 10 17 z := ⟨_, rfl⟩
  obtain rfl : r = some (.int b2) := by rw [hb2, p_rg, ← p_in64_i]; exact hr
  refine And.intro (fun h3 => ?_) (fun h3 => ?_)
  · have h3 : b2 = 0 := h3
    exact fin0 (-1) (by rw [r_mrow, ← hb, if_neg h, if_neg h2, ← hb2, if_pos h3])
  · have h3 : ¬ b2 = 0 := h3
    exact main (by rw [r_mrow, ← hb, if_neg h, if_neg h2, ← hb2, if_neg h3, hR])
end
section
/-! ===== WishClerkModel: a line of one, wish, needs, clash ===== -/
theorem x_mu_so (x : zT) (b f : Int32) : z_so (x_mu x b f) = z_so x := by
  unfold x_mu
  split
  · split <;> rfl
  · rfl
theorem x_mu_dr (x : zT) (b f : Int32) : z_dr (x_mu x b f) = z_dr x := by
  unfold x_mu
  split
  · split <;> rfl
  · rfl
/-- no fault is told: what was asked for was so -/
theorem x_mu_ok {x : zT} {b f : Int32} (hf : ¬ f = 0) (h : z_fa (x_mu x b f) = 0) : z_fa x = 0 ∧ ¬ b = 0 ∧ x_mu x b f = x := by
  unfold x_mu at h ⊢
  by_cases c : b = 0
  · rw [if_pos c] at h
    by_cases c2 : z_fa x = 0
    · rw [if_pos c2] at h
      exact absurd h hf
    · rw [if_neg c2] at h
      exact absurd h c2
  · rw [if_neg c] at h ⊢
    exact ⟨h, c, rfl⟩
theorem x_lk_ok {x : zT} {lo hi : Int32} (h : z_fa (x_lk x lo hi) = 0) : z_fa x = 0 ∧ z_so x = 2 ∧ ¬ p_rg lo hi (z_va x) = 0 ∧ x_lk x lo hi = x := by
  unfold x_lk at h ⊢
  obtain ⟨h1, h2, h3⟩ := x_mu_ok (by decide) h
  rw [h3]
  unfold x_lk1 at h1 ⊢
  obtain ⟨h4, h5, h6⟩ := x_mu_ok (by decide) h1
  rw [h6]
  refine ⟨h4, ?_, h2, rfl⟩
  by_cases c : z_so x = 2
  · exact c
  · rw [if_neg c] at h5; exact absurd rfl h5
theorem p_rg_nI {v : Int32} {m : Nat} (hm : m < 2 ^ 31) (h : ¬ p_rg 0 (nI m) v = 0) : ∃ j : Nat, j ≤ m ∧ v = nI j := by
  unfold p_rg at h
  by_cases c : v < 0
  · rw [if_pos c] at h; exact absurd rfl h
  rw [if_neg c] at h
  by_cases c2 : nI m < v
  · rw [if_pos c2] at h; exact absurd rfl h
  obtain ⟨j, hj, rfl⟩ := nI_of c
  refine ⟨j, ?_, rfl⟩
  rw [nI_ltI hm hj] at c2
  omega
theorem r_lk_7 (x : zT) : ∃ j : Nat, j < 8 ∧ r_lk x 0 7 = nI j := by
  unfold r_lk
  by_cases h : z_fa (x_lk x 0 7) = 0
  · rw [if_pos h]
    obtain ⟨_, _, h3, _⟩ := x_lk_ok h
    obtain ⟨j, hj, e⟩ := p_rg_nI (m := 7) (by decide) h3
    exact ⟨j, by omega, e⟩
  · rw [if_neg h]
    exact ⟨0, by decide, rfl⟩
theorem x_nx_dr (ta : Nat → Int32) (ln : Int32) (x : zT) : z_dr (x_nx ta ln x) = z_dr x := by
  unfold x_nx
  split
  · rfl
  unfold x_n1
  split
  · rfl
  split
  · split
    · show z_dr (x_mu (x_n3 x (p_ru ta ln 32 32 161 (z_po x).toNatClampNeg) (p_ru ta ln 32 32 161 (z_po x).toNatClampNeg) 3) (if p_mlk ta ln (nI (p_ru ta ln 32 32 161 (z_po x).toNatClampNeg)) = 59 then 1 else 0) 1) = z_dr x
      rw [x_mu_dr]; rfl
    · rw [x_mu_dr]; rfl
  · rfl
theorem p_ru_S (ta : Nat → Int32) {t u : Nat} (lo hi : Int32) (h : 0 < lo) (ht : t ≤ 160) (hu : u < t) (hc : ¬ p_rg lo hi (p_mlk ta (nI t) (nI u)) = 0) : u < p_ru ta (nI t) lo hi 161 u := by
  rw [p_ru, if_neg hc]
  have := (p_ru_le ta (t := t) lo hi h ht 160 (u + 1) (by omega)).1
  omega
def zK (x : zT) (lo t : Nat) : Prop := ∃ p, z_po x = nI p ∧ lo ≤ p ∧ p ≤ t
/-- the place only grows, and grows where there was a token -/
theorem x_nx_K {ta : Nat → Int32} {x : zT} {lo t : Nat} (h2 : t ≤ 160) (h : zK x lo t) (hf : ¬ 0 < z_fa x) : zK (x_nx ta (nI t) x) lo t ∧ (¬ z_so (x_nx ta (nI t) x) = 0 → zK (x_nx ta (nI t) x) (lo + 1) t) := by
  obtain ⟨p, h3, h5, h4⟩ := h
  have hut := p_ru_le ta (t := t) 32 32 (by decide) h2 161 p h4
  rw [x_nx, if_neg hf, h3, nI_clamp (by omega)]
  obtain ⟨u, hu⟩ : ∃ u, u = p_ru ta (nI t) 32 32 161 p := ⟨_, rfl⟩
  rw [← hu] at hut ⊢
  unfold x_n1
  by_cases c1 : p_mlk ta (nI t) (nI u) < 0
  · rw [if_pos c1]
    exact ⟨⟨u, rfl, by omega, hut.2⟩, fun q => absurd rfl q⟩
  have hlt : u < t := p_mlk_n h2 (by omega) c1
  rw [if_neg c1]
  by_cases c2 : p_rg 97 122 (p_mlk ta (nI t) (nI u)) = 0
  rotate_left
  · rw [if_neg c2]
    have e := p_ru_le ta (t := t) 97 122 (by decide) h2 161 u hut.2
    have e2 := p_ru_S ta 97 122 (by decide) h2 hlt c2
    exact ⟨⟨_, rfl, by omega, e.2⟩, fun _ => ⟨_, rfl, by omega, e.2⟩⟩
  rw [if_pos c2]
  by_cases c3 : p_rg 48 57 (p_mlk ta (nI t) (nI u)) = 0
  · rw [if_pos c3]
    exact ⟨⟨u + 1, rfl, by omega, hlt⟩, fun _ => ⟨u + 1, rfl, by omega, hlt⟩⟩
  · rw [if_neg c3]
    have e := p_ru_le ta (t := t) 48 57 (by decide) h2 161 u hut.2
    have e2 := p_ru_S ta 48 57 (by decide) h2 hlt c3
    unfold zK
    rw [x_mu_po]
    exact ⟨⟨_, rfl, by omega, e.2⟩, fun _ => ⟨_, rfl, by omega, e.2⟩⟩
def r_kd (ta : Nat → Int32) (ln : Int32) (x : zT) : Int32 := if z_fa x = 0 then (if z_so x = 1 then p_mkn ta ln (z_po x) (z_fr x) else -4) else -4
def x_one1 (ta : Nat → Int32) (ln : Int32) (x : zT) : zT := x_nx ta ln (x_mu x (if r_kd ta ln x = -4 then 0 else 1) 2)
def p_flg (k c : Int32) : Int32 := if k = c then 1 else 0
def x_one2 (k : Int32) (y : zT) : zT := u_dr y (upd (z_dr y) 0 (z_dr y 0 ||| (p_flg k 0 <<< (z_dP y &&& 31))))
def x_one3 (k : Int32) (y : zT) : zT := u_dP (u_dr y (upd (z_dr y) 1 (z_dr y 1 ||| (p_flg k 2 <<< (z_dP y &&& 31))))) (z_dP y + 1)
def x_one (ta : Nat → Int32) (ln : Int32) (x : zT) : zT := x_one3 (r_kd ta ln x) (x_one2 (r_kd ta ln x) (x_one1 ta ln x))
def c_X6_readOne : sCtr := ((yX6_readOne, cX6_readOne, 2, none), (7, 0, 3, 65), false,
  mdfp,
  fun vs L => ∃ (s : Nat → Int32) (A : Nat → Nat → Int32) (x : zT) (t : Nat), vs = [.ref 0] ∧ L = mdZ s A x ∧ s 15 = nI t ∧ t ≤ 160 ∧ zJ x t,
  fun _ L r L' => r = none ∧ L' = mdR L (x_one (bF L 8) (oI L 0 15) (rX L)))
theorem sta_X6_readOne : s_Sta c_X6_readOne := ⟨⟨by decide +kernel, by decide +kernel, by decide +kernel⟩, List.mem_of_getElem? (i := 971) (by decide +kernel), List.mem_of_getElem? (i := 70) (by decide +kernel), ⟨List.mem_of_getElem? (i := 970) (by decide +kernel), List.mem_of_getElem? (i := 37) (by decide +kernel), Or.inl ⟨_, rfl, rfl⟩⟩⟩

def k_X6_readOne : List sBk := [
  (0, false, [true, false], [o0 0 (.aload_n 0), oN 1 (.getfield 97) [6, 20, 842], oN 4 (.ifCond .ne 18) [1], o0 7 (.aload_n 0), oN 8 (.getfield 121) [6, 18, 840], oK 11 (.iconst 1) (.int 1), oN 12 (.if_icmp .ne 10) [1], o0 15 (.aload_n 0), oC 16 (.invokevirtual 146) [972] c_X6_kindNow, oN 19 (.goto 5) [2]]),
  (22, false, [true, false], [oK 22 (.bipush (-4)) (.int (-4)), oN 24 .nop [2]]),
  (24, true, [true, false], [o0 24 (.istore_n 1), o0 25 (.aload_n 0), o0 26 (.iload_n 1), oK 27 (.bipush (-4)) (.int (-4)), oN 29 (.if_icmp .eq 7) [3], oK 32 (.iconst 1) (.int 1), oN 33 (.goto 4) [4]]),
  (36, false, [true, true], [oK 36 (.iconst 0) (.int 0), oN 37 .nop [4]]),
  (37, true, [true, true], [oK 37 (.iconst 2) (.int 2), oC 38 (.invokevirtual 135) [944] c_X6_must, o0 41 (.aload_n 0), oC 42 (.invokevirtual 143) [932] c_X6_next, o0 45 (.aload_n 0), oN 46 (.getfield 23) [6, 6, 828], oK 49 (.iconst 0) (.int 0), o0 50 .dup2, o0 51 .iaload, o0 52 (.iload_n 1), oN 53 (.ifCond .ne 7) [5], oK 56 (.iconst 1) (.int 1), oN 57 (.goto 4) [6]]),
  (60, false, [true, true], [oK 60 (.iconst 0) (.int 0), oN 61 .nop [6]]),
  (61, true, [true, true], [oC 61 (.invokestatic 150) [976] c_X6_flag, o0 64 (.aload_n 0), oN 65 (.getfield 65) [6, 7, 829], o0 68 .ishl, o0 69 .ior, o0 70 .iastore, o0 71 (.aload_n 0), oN 72 (.getfield 23) [6, 6, 828], oK 75 (.iconst 1) (.int 1), o0 76 .dup2, o0 77 .iaload, o0 78 (.iload_n 1), oK 79 (.iconst 2) (.int 2), oN 80 (.if_icmp .ne 7) [7], oK 83 (.iconst 1) (.int 1), oN 84 (.goto 4) [8]]),
  (87, false, [true, false], [oK 87 (.iconst 0) (.int 0), oN 88 .nop [8]]),
  (88, true, [true, false], [oC 88 (.invokestatic 150) [976] c_X6_flag, o0 91 (.aload_n 0), oN 92 (.getfield 65) [6, 7, 829], o0 95 .ishl, o0 96 .ior, o0 97 .iastore, o0 98 (.aload_n 0), o0 99 .dup, oN 100 (.getfield 65) [6, 7, 829], oK 103 (.iconst 1) (.int 1), o0 104 .iadd, oN 105 (.putfield 65) [6, 7, 829], o0 108 .return_])]
set_option maxRecDepth 100000 in
theorem ck_X6_readOne : s_ck RX6 cX6_readOne 2 3 65 k_X6_readOne = true := by decide +kernel

set_option maxRecDepth 100000 in
set_option maxHeartbeats 4000000 in
theorem ok_X6_readOne : s_Ok c_X6_readOne := by
  refine s_ok_of k_X6_readOne (by decide +kernel) sta_X6_readOne ck_X6_readOne (And.intro ok_X6_kindNow (And.intro ok_X6_must (And.intro ok_X6_next (And.intro ok_X6_flag (And.intro ok_X6_flag trivial))))) ?_
  rintro vs L ⟨s, A, x, t, rfl, rfl, ht, ht2, hJ⟩
  refine ⟨rfl, fun G hG => ?_⟩
  obtain ⟨k, hk⟩ : ∃ k, k = r_kd (A 8) (s 15) x := ⟨_, rfl⟩
  have g8 : ∀ (y : zT) (c : Int32), x_one (A 8) (s 15) x = x_one3 k y → c = p_flg k 2 → G 8 [some (.ref 0), none] [.int c, .int (z_dr y 1), .int 1, .ref 5] (mdZ s A y) := by
    intro y c hy hc
    refine hG 8 _ _ _ (And.intro ⟨_, rfl⟩ ?_)
    intro r hr
    obtain rfl : r = some (.int (p_flg k 2)) := by
      rw [show p_flg k 2 = (if c = 0 then 0 else 1) by
        rw [hc]; unfold p_flg; split <;> rfl]
      exact hr
    refine And.intro (vp_in_nI (n := 1) (N := 53) (by decide) (by decide)) ?_
    refine ⟨rfl, ⟨rfl, ?_⟩, fun h => by cases h⟩
    show mdZ s A (x_one3 k y) = mdR (mdZ s A x) (x_one (bF (mdZ s A x) 8) (oI (mdZ s A x) 0 15) (rX (mdZ s A x)))
    rw [zR, zM, zB8, zO15, hy]
  have g6 : ∀ (y : zT) (c : Int32), x_one (A 8) (s 15) x = x_one3 k (x_one2 k y) → c = p_flg k 0 → G 6 [some (.ref 0), some (.int k)] [.int c, .int (z_dr y 0), .int 0, .ref 5] (mdZ s A y) := by
    intro y c hy hc
    refine hG 6 _ _ _ (And.intro ⟨_, rfl⟩ ?_)
    intro r hr
    obtain rfl : r = some (.int (p_flg k 0)) := by
      rw [show p_flg k 0 = (if c = 0 then 0 else 1) by
        rw [hc]; unfold p_flg; split <;> rfl]
      exact hr
    refine And.intro (vp_in_nI (n := 0) (N := 53) (by decide) (by decide)) ?_
    refine And.intro (vp_in_nI (n := 1) (N := 53) (by decide) (by decide)) ?_
    refine And.intro (fun q => ?_) (fun q => ?_)
    · have q : k = 2 := q
      exact g8 (x_one2 k y) 1 hy (by rw [p_flg, if_pos q])
    · have q : ¬ k = 2 := q
      exact g8 (x_one2 k y) 0 hy (by rw [p_flg, if_neg q])
  have g4 : ∀ b, b = (if k = -4 then 0 else 1) → G 4 [some (.ref 0), some (.int k)] [.int b, .ref 0] (mdZ s A x) := by
    intro b hb
    refine hG 4 _ _ _ ?_
    refine And.intro ⟨s, A, x, _, _, rfl, rfl⟩ ?_
    rintro r L' ⟨rfl, hL⟩
    replace hL : L' = mdR (mdZ s A (x)) (x_mu (rX (mdZ s A (x))) (b) (2)) := hL
    rw [zR, zM] at hL
    obtain ⟨y, hy⟩ : ∃ q, q = x_mu (x) (b) (2) := ⟨_, rfl⟩
    rw [← hy] at hL
    subst hL
    refine And.intro (zI_pre s A (y) ⟨ht, ht2, (by rw [hy]; exact (zJ_mu hJ _ _).1)⟩) ?_
    rintro r L' ⟨rfl, hL⟩
    replace hL : L' = mdR (mdZ s A (y)) (x_nx (bF (mdZ s A (y)) 8) (oI (mdZ s A (y)) 0 15) (rX (mdZ s A (y)))) := hL
    rw [zR, zM, zB8, zO15] at hL
    obtain ⟨y2, hy2⟩ : ∃ q, q = x_nx (A 8) (s 15) (y) := ⟨_, rfl⟩
    rw [← hy2] at hL
    subst hL
    have e : x_one (A 8) (s 15) x = x_one3 k (x_one2 k y2) := by rw [x_one, x_one1, ← hk, ← hb, ← hy, ← hy2]
    refine And.intro (vp_in_nI (n := 0) (N := 53) (by decide) (by decide)) ?_
    refine And.intro (fun q => ?_) (fun q => ?_)
    · have q : k = 0 := q
      exact g6 y2 1 e (by rw [p_flg, if_pos q])
    · have q : ¬ k = 0 := q
      exact g6 y2 0 e (by rw [p_flg, if_neg q])
  have g2 : ∀ c, c = k → G 2 [some (.ref 0), none] [.int c] (mdZ s A x) := by
    intro c hc
    refine hG 2 _ _ _ (And.intro (fun q => ?_) (fun q => ?_))
    · have q : c = -4 := q
      rw [hc] at q ⊢
      exact g4 0 (by rw [if_pos q])
    · have q : ¬ c = -4 := q
      rw [hc] at q ⊢
      exact g4 1 (by rw [if_neg q])
  refine hG 0 _ _ _ (And.intro (fun h => ?_) (fun h => ?_))
  rotate_left
  · have h : ¬ z_fa x = 0 := h
    exact g2 (-4) (by rw [hk, r_kd, if_neg h])
  have h : z_fa x = 0 := h
  refine And.intro (fun h2 => ?_) (fun h2 => ?_)
  rotate_left
  · have h2 : ¬ z_so x = 1 := h2
    exact g2 (-4) (by rw [hk, r_kd, if_pos h, if_neg h2])
  have h2 : z_so x = 1 := h2
  obtain ⟨_, u, hu, hut⟩ := hJ
  refine And.intro ⟨zs s x, zA A x, u, t, rfl, mdZ_W s A x, hu, by omega, ht, ht2⟩ ?_
  intro r hr
  obtain ⟨c, hc⟩ : ∃ c, c = p_mkn (A 8) (s 15) (z_po x) (z_fr x) := ⟨_, rfl⟩
  obtain rfl : r = some (.int c) := by rw [hc]; exact hr
  exact g2 c (by rw [hk, r_kd, if_pos h, if_pos h2, hc])
end
section
/-! ===== WishClerkModel: a line of wish, needs, clash ===== -/
/-- a loop over numbers comes to its end -/
theorem x_nx_num {ta : Nat → Int32} {x : zT} {t f : Nat} (h2 : t ≤ 160) (hJ : zJ x t) (hp : ∃ p, z_po x = nI p ∧ p ≤ t ∧ t < f + 1 + p) : z_fa (x_nx ta (nI t) x) = 0 → z_so (x_nx ta (nI t) x) = 2 → ∃ p, z_po (x_nx ta (nI t) x) = nI p ∧ p ≤ t ∧ t < f + p := by
  intro h1 h3
  obtain ⟨p, hp1, hp2, hp3⟩ := hp
  by_cases hf : 0 < z_fa x
  · rw [x_nx_f _ _ hf] at h1
    rw [h1] at hf
    exact absurd hf (by decide)
  · have k := (x_nx_K (ta := ta) h2 (lo := p) ⟨p, hp1, Nat.le_refl _, hp2⟩ hf).2 (by rw [h3]; decide)
    obtain ⟨p', e1, e2, e3⟩ := k
    exact ⟨p', e1, e3, by omega⟩
def x_wlS (w : Nat) (x : zT) : zT :=
  if z_fa (x_lk x 0 7) = 0 then
    (if z_h1 x < r_lk x 0 7 then u_h1 (u_dr (x_mu x (if p_hb (z_dr x (2 + w)) (r_lk x 0 7) = 0 then 1 else 0) 4) (upd (z_dr x) (2 + w) (z_dr x (2 + w) ||| ((1 : Int32) <<< (r_lk x 0 7 &&& 31))))) (r_lk x 0 7)
     else u_dr (x_mu x (if p_hb (z_dr x (2 + w)) (r_lk x 0 7) = 0 then 1 else 0) 4) (upd (z_dr x) (2 + w) (z_dr x (2 + w) ||| ((1 : Int32) <<< (r_lk x 0 7 &&& 31)))))
  else x_lk x 0 7
def x_wl (ta : Nat → Int32) (ln : Int32) (w : Nat) : Nat → zT → zT
  | 0, x => x
  | f + 1, x => if z_fa x = 0 then (if z_so x = 2 then x_wl ta ln w f (x_nx ta ln (x_wlS w x)) else x) else x
def x_wi1 (ta : Nat → Int32) (ln : Int32) (x : zT) : zT := u_dy (x_nx ta ln (x_lk x 0 9)) (upd (z_dy (x_nx ta ln (x_lk x 0 9))) (z_dW x).toNatClampNeg (r_lk x 0 9))
def x_wi2 (ta : Nat → Int32) (ln : Int32) (w : Nat) (x : zT) : zT := u_dq (x_nx ta ln (x_lk x 0 9)) (upd (z_dq (x_nx ta ln (x_lk x 0 9))) w (r_lk x 0 9))
def x_wi3 (x : zT) : zT := u_dW x (z_dW x + 1)
def x_wi (ta : Nat → Int32) (ln : Int32) (x : zT) : zT := x_wi3 (x_wl ta ln (z_dW x).toNatClampNeg 161 (x_wi2 ta ln (z_dW x).toNatClampNeg (x_wi1 ta ln x)))
theorem x_mu_h1 (x : zT) (b f : Int32) : z_h1 (x_mu x b f) = z_h1 x := by
  unfold x_mu
  split
  · split <;> rfl
  · rfl
theorem x_wlS_J {w : Nat} {x : zT} {t : Nat} (h : zJ x t) : zJ (x_wlS w x) t ∧ z_po (x_wlS w x) = z_po x := by
  have h1 : zJ (x_mu x (if p_hb (z_dr x (2 + w)) (r_lk x 0 7) = 0 then 1 else 0) 4) t := zJ_mu h _ _
  have h2 : z_po (x_mu x (if p_hb (z_dr x (2 + w)) (r_lk x 0 7) = 0 then 1 else 0) 4) = z_po x := x_mu_po _ _ _
  have h3 : z_po (x_lk x 0 7) = z_po x := by rw [x_lk, x_mu_po, x_lk1, x_mu_po]
  unfold x_wlS
  obtain ⟨y, hy⟩ : ∃ y, y = x_mu x (if p_hb (z_dr x (2 + w)) (r_lk x 0 7) = 0 then 1 else 0) 4 := ⟨_, rfl⟩
  rw [← hy] at h1 h2 ⊢
  split
  · split
    · exact ⟨h1, h2⟩
    · exact ⟨h1, h2⟩
  · exact ⟨x_lk_J h _ _, h3⟩
def c_X6_readWish : sCtr := ((yX6_readWish, cX6_readWish, 3, none), (7, 0, 3, 70), false,
  mdfp,
  fun vs L => ∃ (s : Nat → Int32) (A : Nat → Nat → Int32) (x : zT) (t w : Nat), vs = [.ref 0] ∧ L = mdZ s A x ∧ s 15 = nI t ∧ t ≤ 160 ∧ zJ x t ∧ z_dW x = nI w ∧ w < 8,
  fun _ L r L' => r = none ∧ L' = mdR L (x_wi (bF L 8) (oI L 0 15) (rX L)))
theorem sta_X6_readWish : s_Sta c_X6_readWish := ⟨⟨by decide +kernel, by decide +kernel, by decide +kernel⟩, List.mem_of_getElem? (i := 982) (by decide +kernel), List.mem_of_getElem? (i := 70) (by decide +kernel), ⟨List.mem_of_getElem? (i := 981) (by decide +kernel), List.mem_of_getElem? (i := 39) (by decide +kernel), Or.inl ⟨_, rfl, rfl⟩⟩⟩

def k_X6_readWish : List sBk := [
  (0, false, [true, false, false], [o0 0 (.aload_n 0), oN 1 (.getfield 69) [6, 8, 830], o0 4 (.istore_n 1), o0 5 (.aload_n 0), oN 6 (.getfield 26) [6, 9, 831], o0 9 (.iload_n 1), o0 10 (.aload_n 0), oK 11 (.iconst 0) (.int 0), oK 12 (.bipush 9) (.int 9), oC 14 (.invokevirtual 154) [983] c_X6_readNumber, o0 17 .iastore, o0 18 (.aload_n 0), oN 19 (.getfield 29) [6, 10, 832], o0 22 (.iload_n 1), o0 23 (.aload_n 0), oK 24 (.iconst 0) (.int 0), oK 25 (.bipush 9) (.int 9), oC 27 (.invokevirtual 154) [983] c_X6_readNumber, o0 30 .iastore, oN 31 .nop [1]]),
  (31, true, [true, true, false], [o0 31 (.aload_n 0), oN 32 (.getfield 97) [6, 20, 842], oN 35 (.ifCond .ne 92) [7], o0 38 (.aload_n 0), oN 39 (.getfield 121) [6, 18, 840], oK 42 (.iconst 2) (.int 2), oN 43 (.if_icmp .ne 84) [7], o0 46 (.aload_n 0), oK 47 (.iconst 0) (.int 0), oK 48 (.bipush 7) (.int 7), oC 50 (.invokevirtual 139) [987] c_X6_looked, o0 53 (.istore_n 2), o0 54 (.aload_n 0), oN 55 (.getfield 97) [6, 20, 842], oN 58 (.ifCond .ne 62) [6], o0 61 (.aload_n 0), o0 62 (.aload_n 0), oN 63 (.getfield 23) [6, 6, 828], oK 66 (.iconst 2) (.int 2), o0 67 (.iload_n 1), o0 68 .iadd, o0 69 .iaload, o0 70 (.iload_n 2), o0 71 .ishr, oK 72 (.iconst 1) (.int 1), o0 73 .iand, oN 74 (.ifCond .ne 7) [2], oK 77 (.iconst 1) (.int 1), oN 78 (.goto 4) [3]]),
  (81, false, [true, true, true], [oK 81 (.iconst 0) (.int 0), oN 82 .nop [3]]),
  (82, true, [true, true, true], [oK 82 (.iconst 4) (.int 4), oC 83 (.invokevirtual 135) [944] c_X6_must, o0 86 (.aload_n 0), oN 87 (.getfield 23) [6, 6, 828], oK 90 (.iconst 2) (.int 2), o0 91 (.iload_n 1), o0 92 .iadd, o0 93 .dup2, o0 94 .iaload, oK 95 (.iconst 1) (.int 1), o0 96 (.iload_n 2), o0 97 .ishl, o0 98 .ior, o0 99 .iastore, o0 100 (.aload_n 0), o0 101 (.iload_n 2), o0 102 (.aload_n 0), oN 103 (.getfield 76) [6, 12, 834], oN 106 (.if_icmp .le 7) [4], o0 109 (.iload_n 2), oN 110 (.goto 7) [5]]),
  (113, false, [true, true, false], [o0 113 (.aload_n 0), oN 114 (.getfield 76) [6, 12, 834], oN 117 .nop [5]]),
  (117, true, [true, true, false], [oN 117 (.putfield 76) [6, 12, 834], oN 120 .nop [6]]),
  (120, true, [true, true, false], [o0 120 (.aload_n 0), oC 121 (.invokevirtual 143) [932] c_X6_next, oN 124 (.goto (-93)) [1]]),
  (127, false, [true, false, false], [o0 127 (.aload_n 0), o0 128 .dup, oN 129 (.getfield 69) [6, 8, 830], oK 132 (.iconst 1) (.int 1), o0 133 .iadd, oN 134 (.putfield 69) [6, 8, 830], o0 137 .return_])]
set_option maxRecDepth 100000 in
theorem ck_X6_readWish : s_ck RX6 cX6_readWish 3 3 70 k_X6_readWish = true := by decide +kernel

set_option maxRecDepth 100000 in
set_option maxHeartbeats 4000000 in
theorem ok_X6_readWish : s_Ok c_X6_readWish := by
  refine s_ok_of k_X6_readWish (by decide +kernel) sta_X6_readWish ck_X6_readWish (And.intro ok_X6_readNumber (And.intro ok_X6_readNumber (And.intro ok_X6_looked (And.intro ok_X6_must (And.intro ok_X6_next trivial))))) ?_
  rintro vs L ⟨s, A, x, t, w, rfl, rfl, ht, ht2, hJ, hw, hw8⟩
  refine ⟨rfl, fun G hG => ?_⟩
  have ewc : (z_dW x).toNatClampNeg = w := by rw [hw, nI_clamp (by omega)]
  have e2w : (2 : Int32) + z_dW x = nI (2 + w) := by rw [hw, show (2 : Int32) = nI 2 from rfl, nI_add]
  have hin8 : vp_in (z_dW x) 8 := by rw [hw]; exact vp_in_nI hw8 (by omega)
  have hin53 : vp_in (2 + z_dW x) 53 := by rw [e2w]; exact vp_in_nI (by omega) (by omega)
  have e2c : (2 + z_dW x).toNatClampNeg = 2 + w := by rw [e2w, nI_clamp (by omega)]
  have g1 : ∀ (f : Nat) (y : zT), zJ y t → (z_fa y = 0 → z_so y = 2 → ∃ p, z_po y = nI p ∧ p ≤ t ∧ t < f + p) → x_wi (A 8) (s 15) x = x_wi3 (x_wl (A 8) (s 15) w f y) → G 1 [some (.ref 0), some (.int (z_dW x)), none] [] (mdZ s A y) := by
    intro f
    induction f with
    | zero =>
      intro y hJy hm hy
      have fin : G 1 [some (.ref 0), some (.int (z_dW x)), none] [] (mdZ s A y) := by
        refine hG 1 _ _ _ (And.intro (fun h => ?_) (fun h => ?_))
        · have h : z_fa y = 0 := h
          refine And.intro (fun h2 => ?_) (fun h2 => ?_)
          · have h2 : z_so y = 2 := h2
            obtain ⟨p, _, q2, q3⟩ := hm h h2
            omega
          · refine ⟨rfl, ⟨rfl, ?_⟩, fun h => by cases h⟩
            show mdZ s A (x_wi3 y) = mdR (mdZ s A x) (x_wi (bF (mdZ s A x) 8) (oI (mdZ s A x) 0 15) (rX (mdZ s A x)))
            rw [zR, zM, zB8, zO15, hy]; rfl
        · refine ⟨rfl, ⟨rfl, ?_⟩, fun h => by cases h⟩
          show mdZ s A (x_wi3 y) = mdR (mdZ s A x) (x_wi (bF (mdZ s A x) 8) (oI (mdZ s A x) 0 15) (rX (mdZ s A x)))
          rw [zR, zM, zB8, zO15, hy]; rfl
      exact fin
    | succ f ih =>
      intro y hJy hm hy
      have fin : x_wl (A 8) (s 15) w (f + 1) y = y → s_PP none false c_X6_readWish.2.2.2.2.2 [.ref 0] (mdZ s A x) none (mdZ s A (x_wi3 y)) := by
        intro e
        refine ⟨rfl, ⟨rfl, ?_⟩, fun h => by cases h⟩
        show mdZ s A (x_wi3 y) = mdR (mdZ s A x) (x_wi (bF (mdZ s A x) 8) (oI (mdZ s A x) 0 15) (rX (mdZ s A x)))
        rw [zR, zM, zB8, zO15, hy, e]
      refine hG 1 _ _ _ (And.intro (fun h => ?_) (fun h => ?_))
      rotate_left
      · have h : ¬ z_fa y = 0 := h
        exact fin (by rw [x_wl, if_neg h])
      have h : z_fa y = 0 := h
      refine And.intro (fun h2 => ?_) (fun h2 => ?_)
      rotate_left
      · have h2 : ¬ z_so y = 2 := h2
        exact fin (by rw [x_wl, if_pos h, if_neg h2])
      have h2 : z_so y = 2 := h2
      obtain ⟨p, hp1, hp2, hp3⟩ := hm h h2
      have g6 : ∀ y2, y2 = x_wlS w y → G 6 [some (.ref 0), some (.int (z_dW x)), none] [] (mdZ s A y2) := by
        intro y2 hy2
        have hS := x_wlS_J (w := w) hJy
        rw [← hy2] at hS
        refine hG 6 _ _ _ ?_
        refine And.intro (zI_pre s A (y2) ⟨ht, ht2, hS.1.1⟩) ?_
        rintro r L' ⟨rfl, hL⟩
        replace hL : L' = mdR (mdZ s A (y2)) (x_nx (bF (mdZ s A (y2)) 8) (oI (mdZ s A (y2)) 0 15) (rX (mdZ s A (y2)))) := hL
        rw [zR, zM, zB8, zO15] at hL
        obtain ⟨y3, hy3⟩ : ∃ q, q = x_nx (A 8) (s 15) (y2) := ⟨_, rfl⟩
        rw [← hy3] at hL
        subst hL
        refine ih y3 (by rw [hy3, ht]; exact x_nx_I ht2 hS.1) (by rw [hy3, ht]; exact x_nx_num ht2 hS.1 ⟨p, by rw [hS.2]; exact hp1, hp2, by omega⟩) ?_
        rw [hy, x_wl, if_pos h, if_pos h2, ← hy2, ← hy3]
      obtain ⟨v, hv⟩ : ∃ v, v = r_lk y 0 7 := ⟨_, rfl⟩
      refine And.intro ⟨s, A, y, 0, 7, rfl, rfl⟩ ?_
      rintro r L' ⟨hr, hL⟩
      replace hL : L' = mdR (mdZ s A y) (x_lk (rX (mdZ s A y)) 0 7) := hL
      replace hr : r = some (.int (r_lk (rX (mdZ s A y)) 0 7)) := hr
      rw [zR, zM] at hL
      rw [zR, ← hv] at hr
      by_cases c : z_fa (x_lk y 0 7) = 0
      rotate_left
      · have e6 : x_lk y 0 7 = x_wlS w y := by rw [x_wlS, if_neg c]
        obtain ⟨y1, hy1⟩ : ∃ y1, y1 = x_lk y 0 7 := ⟨_, rfl⟩
        rw [← hy1] at hL c e6
        subst hL hr
        refine And.intro (fun q => absurd q c) (fun _ => ?_)
        exact g6 y1 e6
      rw [(x_lk_ok c).2.2.2] at hL
      subst hL hr
      refine And.intro (fun _ => ?_) (fun q => absurd h q)
      refine And.intro hin53 ?_
      obtain ⟨dr, hdr⟩ : ∃ d, d = upd (z_dr y) (2 + w) (z_dr y (2 + w) ||| ((1 : Int32) <<< (v &&& 31))) := ⟨_, rfl⟩
      have g3 : ∀ b, b = (if p_hb (z_dr y (2 + w)) v = 0 then 1 else 0) → G 3 [some (.ref 0), some (.int (z_dW x)), some (.int v)] [.int b, .ref 0] (mdZ s A y) := by
        intro b hb
        refine hG 3 _ _ _ ?_
        refine And.intro ⟨s, A, y, _, _, rfl, rfl⟩ ?_
        rintro r L' ⟨rfl, hL⟩
        replace hL : L' = mdR (mdZ s A (y)) (x_mu (rX (mdZ s A (y))) (b) (4)) := hL
        rw [zR, zM] at hL
        obtain ⟨y1, hy1⟩ : ∃ q, q = x_mu (y) (b) (4) := ⟨_, rfl⟩
        rw [← hy1] at hL
        subst hL
        have hy1d : z_dr y1 = z_dr y := by rw [hy1, x_mu_dr]
        have hy1h : z_h1 y1 = z_h1 y := by rw [hy1, x_mu_h1]
        have hdr1 : upd (z_dr y1) (2 + z_dW x).toNatClampNeg (z_dr y1 (2 + z_dW x).toNatClampNeg ||| ((1 : Int32) <<< (v &&& 31))) = dr := by rw [hy1d, e2c, hdr]
        have e6 : ∀ z, z = (if z_h1 y < v then u_h1 (u_dr y1 dr) v else u_dr y1 dr) → z = x_wlS w y := by
          intro z hz
          rw [hz, x_wlS, if_pos c, ← hv, ← hb, ← hy1, ← hdr]
        refine And.intro hin53 (And.intro hin53 ?_)
        refine And.intro (fun q => ?_) (fun q => ?_)
        · have q : z_h1 y1 < v := q
          have k := g6 (u_h1 (u_dr y1 dr) v) (e6 _ (by rw [hy1h] at q; rw [if_pos q]))
          rw [← hdr1] at k
          refine hG 5 _ _ _ ?_
          exact k
        · have q : ¬ z_h1 y1 < v := q
          have k := g6 (u_dr y1 dr) (e6 _ (by rw [hy1h] at q; rw [if_neg q]))
          rw [← hdr1] at k
          refine hG 5 _ _ _ ?_
          exact k
      refine And.intro (fun q => ?_) (fun q => ?_)
      · have q : p_hb (z_dr y (2 + w)) v = 0 := by rw [← p_hb_v, ← e2c]; exact q
        exact g3 1 (by rw [if_pos q])
      · have q : ¬ p_hb (z_dr y (2 + w)) v = 0 := by rw [← p_hb_v, ← e2c]; exact q
        exact g3 0 (by rw [if_neg q])
  refine hG 0 _ _ _ (And.intro ⟨s, A, x, 0, 9, t, rfl, rfl, ht, ht2, hJ⟩ ?_)
  rintro r L' ⟨hr, hL⟩
  replace hL : L' = mdR (mdZ s A x) (x_nx (bF (mdZ s A x) 8) (oI (mdZ s A x) 0 15) (x_lk (rX (mdZ s A x)) 0 9)) := hL
  replace hr : r = some (.int (r_lk (rX (mdZ s A x)) 0 9)) := hr
  rw [zR, zM, zB8, zO15] at hL
  rw [zR] at hr
  obtain ⟨v1, hv1⟩ : ∃ v, v = r_lk x 0 9 := ⟨_, rfl⟩
  obtain ⟨y1, hy1⟩ : ∃ y, y = x_nx (A 8) (s 15) (x_lk x 0 9) := ⟨_, rfl⟩
  have hJ1 : zJ y1 t := by rw [hy1, ht]; exact x_nx_I ht2 (x_lk_J hJ _ _)
  rw [← hy1] at hL
  rw [← hv1] at hr
  subst hL hr
  refine And.intro hin8 ?_
  obtain ⟨y2, hy2⟩ : ∃ y, y = u_dy y1 (upd (z_dy y1) (z_dW x).toNatClampNeg v1) := ⟨_, rfl⟩
  have hJ2 : zJ y2 t := by rw [hy2]; exact hJ1
  have e12 : y2 = x_wi1 (A 8) (s 15) x := by rw [hy2, x_wi1, ← hy1, ← hv1]
  refine And.intro ⟨s, A, u_dy y1 (upd (z_dy y1) (z_dW x).toNatClampNeg v1), 0, 9, t, rfl, rfl, ht, ht2, by rw [← hy2]; exact hJ2⟩ ?_
  rintro r L' ⟨hr, hL⟩
  replace hL : L' = mdR (mdZ s A (u_dy y1 (upd (z_dy y1) (z_dW x).toNatClampNeg v1))) (x_nx (bF (mdZ s A (u_dy y1 (upd (z_dy y1) (z_dW x).toNatClampNeg v1))) 8) (oI (mdZ s A (u_dy y1 (upd (z_dy y1) (z_dW x).toNatClampNeg v1))) 0 15) (x_lk (rX (mdZ s A (u_dy y1 (upd (z_dy y1) (z_dW x).toNatClampNeg v1)))) 0 9)) := hL
  replace hr : r = some (.int (r_lk (rX (mdZ s A (u_dy y1 (upd (z_dy y1) (z_dW x).toNatClampNeg v1)))) 0 9)) := hr
  rw [zR, zM, zB8, zO15, ← hy2] at hL
  rw [zR, ← hy2] at hr
  obtain ⟨v3, hv3⟩ : ∃ v, v = r_lk y2 0 9 := ⟨_, rfl⟩
  obtain ⟨y3, hy3⟩ : ∃ y, y = x_nx (A 8) (s 15) (x_lk y2 0 9) := ⟨_, rfl⟩
  have hJ3 : zJ y3 t := by rw [hy3, ht]; exact x_nx_I ht2 (x_lk_J hJ2 _ _)
  rw [← hy3] at hL
  rw [← hv3] at hr
  subst hL hr
  refine And.intro hin8 ?_
  refine g1 161 (u_dq y3 (upd (z_dq y3) (z_dW x).toNatClampNeg v3)) hJ3 (fun _ _ => ?_) ?_
  · obtain ⟨⟨p, hp1, hp2⟩, _⟩ := hJ3
    exact ⟨p, hp1, hp2, by omega⟩
  · rw [x_wi, ← e12, ewc, x_wi2, ← hy3, ← hv3]
end
section
/-! ===== WishClerkModel: a line of needs, clash ===== -/
/-- the state behind readWishBut -/
def x_rw (ta : Nat → Int32) (ln : Int32) (x : zT) (g : Int32) : zT := x_nx ta ln (x_wb2 x g)
theorem x_rw_J {ta : Nat → Int32} {x : zT} {t : Nat} (h2 : t ≤ 160) (h : zJ x t) (g : Int32) : zJ (x_rw ta (nI t) x g) t := x_nx_I h2 (x_wb2_J h g)
theorem x_wb2_po (x : zT) (g : Int32) : z_po (x_wb2 x g) = z_po x := by
  have h : z_po (x_wb1 x g) = z_po x := by rw [x_wb1, x_mu_po, x_lk, x_mu_po, x_lk1, x_mu_po]
  unfold x_wb2
  obtain ⟨y, hy⟩ : ∃ y, y = x_wb1 x g := ⟨_, rfl⟩
  rw [← hy] at h ⊢
  split
  · split
    · exact h
    · exact h
  · exact h
theorem x_wb2_dr (x : zT) (g : Int32) : z_dr (x_wb2 x g) = z_dr x := by
  have h : z_dr (x_wb1 x g) = z_dr x := by rw [x_wb1, x_mu_dr, x_lk, x_mu_dr, x_lk1, x_mu_dr]
  unfold x_wb2
  obtain ⟨y, hy⟩ : ∃ y, y = x_wb1 x g := ⟨_, rfl⟩
  rw [← hy] at h ⊢
  split
  · split
    · exact h
    · exact h
  · exact h
theorem x_rw_dr (ta : Nat → Int32) (ln : Int32) (x : zT) (g : Int32) : z_dr (x_rw ta ln x g) = z_dr x := by rw [x_rw, x_nx_dr, x_wb2_dr]
def x_ndS (ta : Nat → Int32) (ln : Int32) (w : Nat) (x : zT) : zT := u_dr (x_rw ta ln x (z_dr x (10 + w) ||| ((1 : Int32) <<< (nI w &&& 31)))) (upd (z_dr x) (10 + w) (z_dr x (10 + w) ||| (if z_fa (x_rw ta ln x (z_dr x (10 + w) ||| ((1 : Int32) <<< (nI w &&& 31)))) = 0 then (1 : Int32) <<< (r_lk x 0 7 &&& 31) else 0)))
def x_ndl (ta : Nat → Int32) (ln : Int32) (w : Nat) : Nat → zT → zT
  | 0, x => x
  | f + 1, x => if z_fa x = 0 then (if z_so x = 2 then x_ndl ta ln w f (x_ndS ta ln w x) else x) else x
def x_nd (ta : Nat → Int32) (ln : Int32) (x : zT) : zT := x_ndl ta ln (r_lk x 0 7).toNatClampNeg 161 (x_rw ta ln x 0)
def c_X6_readNeeds : sCtr := ((yX6_readNeeds, cX6_readNeeds, 3, none), (7, 0, 3, 69), false,
  mdfp,
  fun vs L => ∃ (s : Nat → Int32) (A : Nat → Nat → Int32) (x : zT) (t : Nat), vs = [.ref 0] ∧ L = mdZ s A x ∧ s 15 = nI t ∧ t ≤ 160 ∧ zJ x t,
  fun _ L r L' => r = none ∧ L' = mdR L (x_nd (bF L 8) (oI L 0 15) (rX L)))
theorem sta_X6_readNeeds : s_Sta c_X6_readNeeds := ⟨⟨by decide +kernel, by decide +kernel, by decide +kernel⟩, List.mem_of_getElem? (i := 994) (by decide +kernel), List.mem_of_getElem? (i := 70) (by decide +kernel), ⟨List.mem_of_getElem? (i := 993) (by decide +kernel), List.mem_of_getElem? (i := 42) (by decide +kernel), Or.inl ⟨_, rfl, rfl⟩⟩⟩

def k_X6_readNeeds : List sBk := [
  (0, false, [true, false, false], [o0 0 (.aload_n 0), oK 1 (.iconst 0) (.int 0), oC 2 (.invokevirtual 157) [995] c_X6_readWishBut, o0 5 (.istore_n 1), oN 6 .nop [1]]),
  (6, true, [true, true, false], [o0 6 (.aload_n 0), oN 7 (.getfield 97) [6, 20, 842], oN 10 (.ifCond .ne 58) [4], o0 13 (.aload_n 0), oN 14 (.getfield 121) [6, 18, 840], oK 17 (.iconst 2) (.int 2), oN 18 (.if_icmp .ne 50) [4], o0 21 (.aload_n 0), o0 22 (.aload_n 0), oN 23 (.getfield 23) [6, 6, 828], oK 26 (.bipush 10) (.int 10), o0 28 (.iload_n 1), o0 29 .iadd, o0 30 .iaload, oK 31 (.iconst 1) (.int 1), o0 32 (.iload_n 1), o0 33 .ishl, o0 34 .ior, oC 35 (.invokevirtual 157) [995] c_X6_readWishBut, o0 38 (.istore_n 2), o0 39 (.aload_n 0), oN 40 (.getfield 23) [6, 6, 828], oK 43 (.bipush 10) (.int 10), o0 45 (.iload_n 1), o0 46 .iadd, o0 47 .dup2, o0 48 .iaload, o0 49 (.aload_n 0), oN 50 (.getfield 97) [6, 20, 842], oN 53 (.ifCond .ne 9) [2], oK 56 (.iconst 1) (.int 1), o0 57 (.iload_n 2), o0 58 .ishl, oN 59 (.goto 4) [3]]),
  (62, false, [true, true, false], [oK 62 (.iconst 0) (.int 0), oN 63 .nop [3]]),
  (63, false, [true, true, false], [o0 63 .ior, o0 64 .iastore, oN 65 (.goto (-59)) [1]]),
  (68, false, [false, false, false], [o0 68 .return_])]
set_option maxRecDepth 100000 in
theorem ck_X6_readNeeds : s_ck RX6 cX6_readNeeds 3 3 69 k_X6_readNeeds = true := by decide +kernel

set_option maxRecDepth 100000 in
set_option maxHeartbeats 4000000 in
theorem ok_X6_readNeeds : s_Ok c_X6_readNeeds := by
  refine s_ok_of k_X6_readNeeds (by decide +kernel) sta_X6_readNeeds ck_X6_readNeeds (And.intro ok_X6_readWishBut (And.intro ok_X6_readWishBut trivial)) ?_
  rintro vs L ⟨s, A, x, t, rfl, rfl, ht, ht2, hJ⟩
  refine ⟨rfl, fun G hG => ?_⟩
  obtain ⟨w, hw8, hw⟩ := r_lk_7 x
  have ewc : (r_lk x 0 7).toNatClampNeg = w := by rw [hw, nI_clamp (by omega)]
  have e10 : (10 : Int32) + nI w = nI (10 + w) := by rw [show (10 : Int32) = nI 10 from rfl, nI_add]
  have hin53 : vp_in (10 + nI w) 53 := by rw [e10]; exact vp_in_nI (by omega) (by omega)
  have e10c : (10 + nI w).toNatClampNeg = 10 + w := by rw [e10, nI_clamp (by omega)]
  have g1 : ∀ (f : Nat) (y : zT), zJ y t → (z_fa y = 0 → z_so y = 2 → ∃ p, z_po y = nI p ∧ p ≤ t ∧ t < f + p) → x_nd (A 8) (s 15) x = x_ndl (A 8) (s 15) w f y → G 1 [some (.ref 0), some (.int (nI w)), none] [] (mdZ s A y) := by
    intro f
    induction f with
    | zero =>
      intro y hJy hm hy
      have fin : s_PP none false c_X6_readNeeds.2.2.2.2.2 [.ref 0] (mdZ s A x) none (mdZ s A y) := by
        refine ⟨rfl, ⟨rfl, ?_⟩, fun h => by cases h⟩
        show mdZ s A y = mdR (mdZ s A x) (x_nd (bF (mdZ s A x) 8) (oI (mdZ s A x) 0 15) (rX (mdZ s A x)))
        rw [zR, zM, zB8, zO15, hy]; rfl
      refine hG 1 _ _ _ (And.intro (fun h => ?_) (fun h => ?_))
      · have h : z_fa y = 0 := h
        refine And.intro (fun h2 => ?_) (fun h2 => ?_)
        · have h2 : z_so y = 2 := h2
          obtain ⟨p, _, q2, q3⟩ := hm h h2
          omega
        · exact fin
      · exact fin
    | succ f ih =>
      intro y hJy hm hy
      have fin : x_ndl (A 8) (s 15) w (f + 1) y = y → s_PP none false c_X6_readNeeds.2.2.2.2.2 [.ref 0] (mdZ s A x) none (mdZ s A y) := by
        intro e
        refine ⟨rfl, ⟨rfl, ?_⟩, fun h => by cases h⟩
        show mdZ s A y = mdR (mdZ s A x) (x_nd (bF (mdZ s A x) 8) (oI (mdZ s A x) 0 15) (rX (mdZ s A x)))
        rw [zR, zM, zB8, zO15, hy, e]
      refine hG 1 _ _ _ (And.intro (fun h => ?_) (fun h => ?_))
      rotate_left
      · have h : ¬ z_fa y = 0 := h
        exact fin (by rw [x_ndl, if_neg h])
      have h : z_fa y = 0 := h
      refine And.intro (fun h2 => ?_) (fun h2 => ?_)
      rotate_left
      · have h2 : ¬ z_so y = 2 := h2
        exact fin (by rw [x_ndl, if_pos h, if_neg h2])
      have h2 : z_so y = 2 := h2
      obtain ⟨p, hp1, hp2, hp3⟩ := hm h h2
      refine And.intro hin53 ?_
      obtain ⟨g, hg⟩ : ∃ g, g = z_dr y (10 + nI w).toNatClampNeg ||| ((1 : Int32) <<< (nI w &&& 31)) := ⟨_, rfl⟩
      obtain ⟨v, hv⟩ : ∃ v, v = r_lk y 0 7 := ⟨_, rfl⟩
      refine And.intro ⟨s, A, y, z_dr y (10 + nI w).toNatClampNeg ||| ((1 : Int32) <<< (nI w &&& 31)), t, rfl, rfl, ht, ht2, hJy⟩ ?_
      rintro r L' ⟨hr, hL⟩
      replace hL : L' = mdR (mdZ s A y) (x_nx (bF (mdZ s A y) 8) (oI (mdZ s A y) 0 15) (x_wb2 (rX (mdZ s A y)) (z_dr y (10 + nI w).toNatClampNeg ||| ((1 : Int32) <<< (nI w &&& 31))))) := hL
      replace hr : r = some (.int (r_lk (rX (mdZ s A y)) 0 7)) := hr
      rw [zR, zM, zB8, zO15, ← hg] at hL
      rw [zR, ← hv] at hr
      obtain ⟨y1, hy1⟩ : ∃ y1, y1 = x_rw (A 8) (s 15) y g := ⟨_, rfl⟩
      have hL : L' = mdZ s A y1 := by rw [hL, hy1, x_rw]
      subst hL hr
      have hd1 : z_dr y1 = z_dr y := by rw [hy1, x_rw_dr]
      have hJ1 : zJ y1 t := by rw [hy1, ht]; exact x_rw_J ht2 hJy g
      have hg2 : g = z_dr y (10 + w) ||| ((1 : Int32) <<< (nI w &&& 31)) := by rw [hg, e10c]
      have hS : ∀ c, c = (if z_fa y1 = 0 then (1 : Int32) <<< (v &&& 31) else 0) → u_dr y1 (upd (z_dr y1) (10 + nI w).toNatClampNeg (z_dr y1 (10 + nI w).toNatClampNeg ||| c)) = x_ndS (A 8) (s 15) w y := by
        intro c hc
        rw [x_ndS, ← hg2, ← hy1, ← hv, ← hc, hd1, e10c]
      have hm2 := fun q1 q2 => x_nx_num (ta := A 8) (f := f) ht2 (x_wb2_J hJy g) ⟨p, by rw [x_wb2_po]; exact hp1, hp2, by omega⟩ q1 q2
      rw [← ht] at hm2
      have hm3 : z_fa y1 = 0 → z_so y1 = 2 → ∃ p, z_po y1 = nI p ∧ p ≤ t ∧ t < f + p := by rw [hy1, x_rw]; exact hm2
      have nxt : ∀ c, c = (if z_fa y1 = 0 then (1 : Int32) <<< (v &&& 31) else 0) → G 1 [some (.ref 0), some (.int (nI w)), none] [] (mdZ s A (u_dr y1 (upd (z_dr y1) (10 + nI w).toNatClampNeg (z_dr y1 (10 + nI w).toNatClampNeg ||| c)))) := by
        intro c hc
        refine ih _ hJ1 hm3 ?_
        rw [hy, x_ndl, if_pos h, if_pos h2, hS c hc]
      refine And.intro hin53 (And.intro (fun q => ?_) (fun q => ?_))
      · have q : z_fa y1 = 0 := q
        refine And.intro hin53 ?_
        exact nxt ((1 : Int32) <<< (v &&& 31)) (by rw [if_pos q])
      · have q : ¬ z_fa y1 = 0 := q
        refine And.intro hin53 ?_
        exact nxt 0 (by rw [if_neg q])
  refine hG 0 _ _ _ (And.intro ⟨s, A, x, 0, t, rfl, rfl, ht, ht2, hJ⟩ ?_)
  rintro r L' ⟨hr, hL⟩
  replace hL : L' = mdR (mdZ s A x) (x_nx (bF (mdZ s A x) 8) (oI (mdZ s A x) 0 15) (x_wb2 (rX (mdZ s A x)) 0)) := hL
  replace hr : r = some (.int (r_lk (rX (mdZ s A x)) 0 7)) := hr
  rw [zR, zM, zB8, zO15] at hL
  rw [zR, hw] at hr
  obtain ⟨y1, hy1⟩ : ∃ y, y = x_rw (A 8) (s 15) x 0 := ⟨_, rfl⟩
  have hL : L' = mdZ s A y1 := by rw [hL, hy1, x_rw]
  subst hL hr
  have hJ1 : zJ y1 t := by rw [hy1, ht]; exact x_rw_J ht2 hJ 0
  refine g1 161 y1 hJ1 (fun _ _ => ?_) (by rw [x_nd, ewc, ← hy1])
  obtain ⟨⟨p, hp1, hp2⟩, _⟩ := hJ1
  exact ⟨p, hp1, hp2, by omega⟩
def x_clA (ta : Nat → Int32) (ln : Int32) (w : Nat) (y : zT) : zT := x_rw ta ln y (z_dr y (18 + w) ||| ((1 : Int32) <<< (nI w &&& 31)))
def x_cl2 (w v : Nat) (y : zT) : zT := u_dr y (upd (upd (z_dr y) (18 + w) (z_dr y (18 + w) ||| ((1 : Int32) <<< (nI v &&& 31)))) (18 + v) (upd (z_dr y) (18 + w) (z_dr y (18 + w) ||| ((1 : Int32) <<< (nI v &&& 31))) (18 + v) ||| ((1 : Int32) <<< (nI w &&& 31))))
def x_cl1 (ta : Nat → Int32) (ln : Int32) (w : Nat) (y : zT) : zT := if z_fa (x_clA ta ln w y) = 0 then x_cl2 w (r_lk y 0 7).toNatClampNeg (x_clA ta ln w y) else x_clA ta ln w y
def x_cl (ta : Nat → Int32) (ln : Int32) (x : zT) : zT := x_cl1 ta ln (r_lk x 0 7).toNatClampNeg (x_rw ta ln x 0)
def c_X6_readClash : sCtr := ((yX6_readClash, cX6_readClash, 3, none), (7, 0, 3, 69), false,
  mdfp,
  fun vs L => ∃ (s : Nat → Int32) (A : Nat → Nat → Int32) (x : zT) (t : Nat), vs = [.ref 0] ∧ L = mdZ s A x ∧ s 15 = nI t ∧ t ≤ 160 ∧ zJ x t,
  fun _ L r L' => r = none ∧ L' = mdR L (x_cl (bF L 8) (oI L 0 15) (rX L)))
theorem sta_X6_readClash : s_Sta c_X6_readClash := ⟨⟨by decide +kernel, by decide +kernel, by decide +kernel⟩, List.mem_of_getElem? (i := 1002) (by decide +kernel), List.mem_of_getElem? (i := 70) (by decide +kernel), ⟨List.mem_of_getElem? (i := 1001) (by decide +kernel), List.mem_of_getElem? (i := 44) (by decide +kernel), Or.inl ⟨_, rfl, rfl⟩⟩⟩

def k_X6_readClash : List sBk := [
  (0, false, [true, false, false], [o0 0 (.aload_n 0), oK 1 (.iconst 0) (.int 0), oC 2 (.invokevirtual 157) [995] c_X6_readWishBut, o0 5 (.istore_n 1), o0 6 (.aload_n 0), o0 7 (.aload_n 0), oN 8 (.getfield 23) [6, 6, 828], oK 11 (.bipush 18) (.int 18), o0 13 (.iload_n 1), o0 14 .iadd, o0 15 .iaload, oK 16 (.iconst 1) (.int 1), o0 17 (.iload_n 1), o0 18 .ishl, o0 19 .ior, oC 20 (.invokevirtual 157) [995] c_X6_readWishBut, o0 23 (.istore_n 2), o0 24 (.aload_n 0), oN 25 (.getfield 97) [6, 20, 842], oN 28 (.ifCond .ne 33) [1], o0 31 (.aload_n 0), oN 32 (.getfield 23) [6, 6, 828], oK 35 (.bipush 18) (.int 18), o0 37 (.iload_n 1), o0 38 .iadd, o0 39 .dup2, o0 40 .iaload, oK 41 (.iconst 1) (.int 1), o0 42 (.iload_n 2), o0 43 .ishl, o0 44 .ior, o0 45 .iastore, o0 46 (.aload_n 0), oN 47 (.getfield 23) [6, 6, 828], oK 50 (.bipush 18) (.int 18), o0 52 (.iload_n 2), o0 53 .iadd, o0 54 .dup2, o0 55 .iaload, oK 56 (.iconst 1) (.int 1), o0 57 (.iload_n 1), o0 58 .ishl, o0 59 .ior, o0 60 .iastore, oN 61 .nop [1]]),
  (61, false, [false, false, false], [o0 61 .return_])]
set_option maxRecDepth 100000 in
theorem ck_X6_readClash : s_ck RX6 cX6_readClash 3 3 69 k_X6_readClash = true := by decide +kernel

set_option maxRecDepth 100000 in
set_option maxHeartbeats 4000000 in
theorem ok_X6_readClash : s_Ok c_X6_readClash := by
  refine s_ok_of k_X6_readClash (by decide +kernel) sta_X6_readClash ck_X6_readClash (And.intro ok_X6_readWishBut (And.intro ok_X6_readWishBut trivial)) ?_
  rintro vs L ⟨s, A, x, t, rfl, rfl, ht, ht2, hJ⟩
  refine ⟨rfl, fun G hG => ?_⟩
  obtain ⟨w, hw8, hw⟩ := r_lk_7 x
  have ewc : (r_lk x 0 7).toNatClampNeg = w := by rw [hw, nI_clamp (by omega)]
  have e18 : ∀ w : Nat, (18 : Int32) + nI w = nI (18 + w) := fun w => by rw [show (18 : Int32) = nI 18 from rfl, nI_add]
  have hin53 : ∀ w : Nat, w < 8 → vp_in (18 + nI w) 53 := fun w hw => by rw [e18]; exact vp_in_nI (by omega) (by omega)
  have e18c : ∀ w : Nat, w < 8 → (18 + nI w).toNatClampNeg = 18 + w := fun w hw => by rw [e18, nI_clamp (by omega)]
  have fin : ∀ y, x_cl (A 8) (s 15) x = y → s_PP none false c_X6_readClash.2.2.2.2.2 [.ref 0] (mdZ s A x) none (mdZ s A y) := by
    intro y hy
    refine ⟨rfl, ⟨rfl, ?_⟩, fun h => by cases h⟩
    show mdZ s A y = mdR (mdZ s A x) (x_cl (bF (mdZ s A x) 8) (oI (mdZ s A x) 0 15) (rX (mdZ s A x)))
    rw [zR, zM, zB8, zO15, hy]
  refine hG 0 _ _ _ (And.intro ⟨s, A, x, 0, t, rfl, rfl, ht, ht2, hJ⟩ ?_)
  rintro r L' ⟨hr, hL⟩
  replace hL : L' = mdR (mdZ s A x) (x_nx (bF (mdZ s A x) 8) (oI (mdZ s A x) 0 15) (x_wb2 (rX (mdZ s A x)) 0)) := hL
  replace hr : r = some (.int (r_lk (rX (mdZ s A x)) 0 7)) := hr
  rw [zR, zM, zB8, zO15] at hL
  rw [zR, hw] at hr
  obtain ⟨y, hy⟩ : ∃ y, y = x_rw (A 8) (s 15) x 0 := ⟨_, rfl⟩
  have hL : L' = mdZ s A y := by rw [hL, hy, x_rw]
  subst hL hr
  have hJy : zJ y t := by rw [hy, ht]; exact x_rw_J ht2 hJ 0
  refine And.intro (hin53 w hw8) ?_
  obtain ⟨v, hv8, hv⟩ := r_lk_7 y
  have evc : (r_lk y 0 7).toNatClampNeg = v := by rw [hv, nI_clamp (by omega)]
  refine And.intro ⟨s, A, y, z_dr y (18 + nI w).toNatClampNeg ||| ((1 : Int32) <<< (nI w &&& 31)), t, rfl, rfl, ht, ht2, hJy⟩ ?_
  rintro r L' ⟨hr, hL⟩
  replace hL : L' = mdR (mdZ s A y) (x_nx (bF (mdZ s A y) 8) (oI (mdZ s A y) 0 15) (x_wb2 (rX (mdZ s A y)) (z_dr y (18 + nI w).toNatClampNeg ||| ((1 : Int32) <<< (nI w &&& 31))))) := hL
  replace hr : r = some (.int (r_lk (rX (mdZ s A y)) 0 7)) := hr
  rw [zR, zM, zB8, zO15, e18c w hw8] at hL
  rw [zR, hv] at hr
  obtain ⟨y1, hy1⟩ : ∃ y1, y1 = x_clA (A 8) (s 15) w y := ⟨_, rfl⟩
  have hL : L' = mdZ s A y1 := by rw [hL, hy1, x_clA, x_rw]
  subst hL hr
  have hx : x_cl (A 8) (s 15) x = x_cl1 (A 8) (s 15) w y := by rw [x_cl, ewc, ← hy]
  refine And.intro (fun q => ?_) (fun q => ?_)
  · have q : z_fa y1 = 0 := q
    refine And.intro (hin53 w hw8) (And.intro (hin53 w hw8) (And.intro (hin53 v hv8) (And.intro (hin53 v hv8) ?_)))
    have k := fin (x_cl2 w v y1) (by rw [hx, x_cl1, ← hy1, if_pos q, evc])
    rw [x_cl2, ← e18c w hw8, ← e18c v hv8] at k
    exact k
  · have q : ¬ z_fa y1 = 0 := q
    exact fin y1 (by rw [hx, x_cl1, ← hy1, if_neg q])
end
