section
-- ===== PART A: goes FIRST, ahead of the names: the tables' words, and 'selects' of the private methods out of them =====
/-- a private method of a class that the tables say can be made, by its rows of tables_1 -/
def lw_okq (q : MethodName × Nat) : Prop := (q.1.cls ≠ "java/lang/invoke/MethodHandle" ∧ q.1.cls ≠ "java/lang/invoke/VarHandle") ∧ Cond.instantiable q.1.cls q.2 ∈ tables_1 ∧ Cond.privateMethod q.1 ∈ tables_1 ∧ Cond.instanceMethod q.1 ∈ tables_1
theorem lw_p0 : lw_okq (⟨"ChainLeap", "chainNumber", "(I)I"⟩, 9) := ⟨⟨by decide +kernel, by decide +kernel⟩, List.mem_of_getElem? (i := 18) (by decide +kernel), List.mem_of_getElem? (i := 222) (by decide +kernel), List.mem_of_getElem? (i := 223) (by decide +kernel)⟩
theorem lw_p1 : lw_okq (⟨"ChainLeap", "rowRefusal", "(I)I"⟩, 9) := ⟨⟨by decide +kernel, by decide +kernel⟩, List.mem_of_getElem? (i := 18) (by decide +kernel), List.mem_of_getElem? (i := 230) (by decide +kernel), List.mem_of_getElem? (i := 231) (by decide +kernel)⟩
theorem lw_p2 : lw_okq (⟨"ChainLeap", "readTries", "(LChainLeap$Shelf;)I"⟩, 9) := ⟨⟨by decide +kernel, by decide +kernel⟩, List.mem_of_getElem? (i := 18) (by decide +kernel), List.mem_of_getElem? (i := 245) (by decide +kernel), List.mem_of_getElem? (i := 246) (by decide +kernel)⟩
theorem lw_p3 : lw_okq (⟨"ChainLeap$Reader", "need", "(C)V"⟩, 4) := ⟨⟨by decide +kernel, by decide +kernel⟩, List.mem_of_getElem? (i := 157) (by decide +kernel), List.mem_of_getElem? (i := 268) (by decide +kernel), List.mem_of_getElem? (i := 269) (by decide +kernel)⟩
theorem lw_p4 : lw_okq (⟨"ChainLeap$Reader", "accepts", "(C)Z"⟩, 4) := ⟨⟨by decide +kernel, by decide +kernel⟩, List.mem_of_getElem? (i := 157) (by decide +kernel), List.mem_of_getElem? (i := 272) (by decide +kernel), List.mem_of_getElem? (i := 273) (by decide +kernel)⟩
theorem lw_p5 : lw_okq (⟨"ChainLeap$Reader", "next", "()I"⟩, 4) := ⟨⟨by decide +kernel, by decide +kernel⟩, List.mem_of_getElem? (i := 157) (by decide +kernel), List.mem_of_getElem? (i := 276) (by decide +kernel), List.mem_of_getElem? (i := 277) (by decide +kernel)⟩
theorem lw_p6 : lw_okq (⟨"ChainLeap$Reader", "number", "()I"⟩, 4) := ⟨⟨by decide +kernel, by decide +kernel⟩, List.mem_of_getElem? (i := 157) (by decide +kernel), List.mem_of_getElem? (i := 280) (by decide +kernel), List.mem_of_getElem? (i := 281) (by decide +kernel)⟩
theorem lw_p7 : lw_okq (⟨"ChainLeap$Reader", "digit", "()I"⟩, 4) := ⟨⟨by decide +kernel, by decide +kernel⟩, List.mem_of_getElem? (i := 157) (by decide +kernel), List.mem_of_getElem? (i := 284) (by decide +kernel), List.mem_of_getElem? (i := 285) (by decide +kernel)⟩
theorem lw_p8 : lw_okq (⟨"ChainLeap$Reader", "isAtDigit", "()Z"⟩, 4) := ⟨⟨by decide +kernel, by decide +kernel⟩, List.mem_of_getElem? (i := 157) (by decide +kernel), List.mem_of_getElem? (i := 288) (by decide +kernel), List.mem_of_getElem? (i := 289) (by decide +kernel)⟩
theorem lw_p9 : lw_okq (⟨"ChainLeap", "storyRefusal", "(I)I"⟩, 9) := ⟨⟨by decide +kernel, by decide +kernel⟩, List.mem_of_getElem? (i := 18) (by decide +kernel), List.mem_of_getElem? (i := 325) (by decide +kernel), List.mem_of_getElem? (i := 326) (by decide +kernel)⟩
theorem lw_p10 : lw_okq (⟨"ChainLeap$Tale", "kickOfKicked", "(LChainLeap$Setting;)I"⟩, 2) := ⟨⟨by decide +kernel, by decide +kernel⟩, List.mem_of_getElem? (i := 121) (by decide +kernel), List.mem_of_getElem? (i := 337) (by decide +kernel), List.mem_of_getElem? (i := 338) (by decide +kernel)⟩
theorem lw_p11 : lw_okq (⟨"ChainLeap$Tale", "kickOfThrown", "(LChainLeap$Setting;)I"⟩, 2) := ⟨⟨by decide +kernel, by decide +kernel⟩, List.mem_of_getElem? (i := 121) (by decide +kernel), List.mem_of_getElem? (i := 341) (by decide +kernel), List.mem_of_getElem? (i := 342) (by decide +kernel)⟩
theorem lw_p12 : lw_okq (⟨"ChainLeap", "filmRefusal", "(I)I"⟩, 9) := ⟨⟨by decide +kernel, by decide +kernel⟩, List.mem_of_getElem? (i := 18) (by decide +kernel), List.mem_of_getElem? (i := 432) (by decide +kernel), List.mem_of_getElem? (i := 433) (by decide +kernel)⟩
theorem lw_p13 : lw_okq (⟨"ChainLeap", "fits", "(LChainLeap$Tale;LChainLeap$Shelf;I)Z"⟩, 9) := ⟨⟨by decide +kernel, by decide +kernel⟩, List.mem_of_getElem? (i := 18) (by decide +kernel), List.mem_of_getElem? (i := 440) (by decide +kernel), List.mem_of_getElem? (i := 441) (by decide +kernel)⟩
theorem lw_p14 : lw_okq (⟨"ChainLeap", "paceBehind", "(LChainLeap$Tale;II)I"⟩, 9) := ⟨⟨by decide +kernel, by decide +kernel⟩, List.mem_of_getElem? (i := 18) (by decide +kernel), List.mem_of_getElem? (i := 478) (by decide +kernel), List.mem_of_getElem? (i := 479) (by decide +kernel)⟩
theorem lw_p15 : lw_okq (⟨"ChainLeap$Tale", "waitOfKicked", "()I"⟩, 2) := ⟨⟨by decide +kernel, by decide +kernel⟩, List.mem_of_getElem? (i := 121) (by decide +kernel), List.mem_of_getElem? (i := 577) (by decide +kernel), List.mem_of_getElem? (i := 578) (by decide +kernel)⟩
def lw_privs_1 : List (MethodName × Nat) := [(⟨"ChainLeap", "chainNumber", "(I)I"⟩, 9), (⟨"ChainLeap", "rowRefusal", "(I)I"⟩, 9), (⟨"ChainLeap", "readTries", "(LChainLeap$Shelf;)I"⟩, 9), (⟨"ChainLeap$Reader", "need", "(C)V"⟩, 4), (⟨"ChainLeap$Reader", "accepts", "(C)Z"⟩, 4), (⟨"ChainLeap$Reader", "next", "()I"⟩, 4), (⟨"ChainLeap$Reader", "number", "()I"⟩, 4), (⟨"ChainLeap$Reader", "digit", "()I"⟩, 4), (⟨"ChainLeap$Reader", "isAtDigit", "()Z"⟩, 4), (⟨"ChainLeap", "storyRefusal", "(I)I"⟩, 9), (⟨"ChainLeap$Tale", "kickOfKicked", "(LChainLeap$Setting;)I"⟩, 2), (⟨"ChainLeap$Tale", "kickOfThrown", "(LChainLeap$Setting;)I"⟩, 2), (⟨"ChainLeap", "filmRefusal", "(I)I"⟩, 9), (⟨"ChainLeap", "fits", "(LChainLeap$Tale;LChainLeap$Shelf;I)Z"⟩, 9), (⟨"ChainLeap", "paceBehind", "(LChainLeap$Tale;II)I"⟩, 9), (⟨"ChainLeap$Tale", "waitOfKicked", "()I"⟩, 2)]
theorem lw_r1 : ∀ q ∈ lw_privs_1, lw_okq q := List.forall_mem_cons.mpr ⟨lw_p0, List.forall_mem_cons.mpr ⟨lw_p1, List.forall_mem_cons.mpr ⟨lw_p2, List.forall_mem_cons.mpr ⟨lw_p3, List.forall_mem_cons.mpr ⟨lw_p4, List.forall_mem_cons.mpr ⟨lw_p5, List.forall_mem_cons.mpr ⟨lw_p6, List.forall_mem_cons.mpr ⟨lw_p7, List.forall_mem_cons.mpr ⟨lw_p8, List.forall_mem_cons.mpr ⟨lw_p9, List.forall_mem_cons.mpr ⟨lw_p10, List.forall_mem_cons.mpr ⟨lw_p11, List.forall_mem_cons.mpr ⟨lw_p12, List.forall_mem_cons.mpr ⟨lw_p13, List.forall_mem_cons.mpr ⟨lw_p14, List.forall_mem_cons.mpr ⟨lw_p15, fun _ h => absurd h List.not_mem_nil⟩⟩⟩⟩⟩⟩⟩⟩⟩⟩⟩⟩⟩⟩⟩⟩
theorem lw_p16 : lw_okq (⟨"ChainLeap$Tale", "waitOfThrown", "()I"⟩, 2) := ⟨⟨by decide +kernel, by decide +kernel⟩, List.mem_of_getElem? (i := 121) (by decide +kernel), List.mem_of_getElem? (i := 581) (by decide +kernel), List.mem_of_getElem? (i := 582) (by decide +kernel)⟩
theorem lw_p17 : lw_okq (⟨"java/lang/Throwable", "fillInStackTrace", "(I)Ljava/lang/Throwable;"⟩, 6) := ⟨⟨by decide +kernel, by decide +kernel⟩, List.mem_of_getElem? (i := 637) (by decide +kernel), List.mem_of_getElem? (i := 635) (by decide +kernel), List.mem_of_getElem? (i := 636) (by decide +kernel)⟩
theorem lw_p18 : lw_okq (⟨"ChainLeapModel", "wrongRow", "(I)I"⟩, 39) := ⟨⟨by decide +kernel, by decide +kernel⟩, List.mem_of_getElem? (i := 712) (by decide +kernel), List.mem_of_getElem? (i := 853) (by decide +kernel), List.mem_of_getElem? (i := 854) (by decide +kernel)⟩
theorem lw_p19 : lw_okq (⟨"ChainLeapModel", "readStatement", "()V"⟩, 39) := ⟨⟨by decide +kernel, by decide +kernel⟩, List.mem_of_getElem? (i := 712) (by decide +kernel), List.mem_of_getElem? (i := 858) (by decide +kernel), List.mem_of_getElem? (i := 859) (by decide +kernel)⟩
theorem lw_p20 : lw_okq (⟨"ChainLeapModel", "take", "(I)V"⟩, 39) := ⟨⟨by decide +kernel, by decide +kernel⟩, List.mem_of_getElem? (i := 712) (by decide +kernel), List.mem_of_getElem? (i := 862) (by decide +kernel), List.mem_of_getElem? (i := 863) (by decide +kernel)⟩
theorem lw_p21 : lw_okq (⟨"ChainLeapModel", "here", "()I"⟩, 39) := ⟨⟨by decide +kernel, by decide +kernel⟩, List.mem_of_getElem? (i := 712) (by decide +kernel), List.mem_of_getElem? (i := 866) (by decide +kernel), List.mem_of_getElem? (i := 867) (by decide +kernel)⟩
theorem lw_p22 : lw_okq (⟨"ChainLeapModel", "readNumber", "()I"⟩, 39) := ⟨⟨by decide +kernel, by decide +kernel⟩, List.mem_of_getElem? (i := 712) (by decide +kernel), List.mem_of_getElem? (i := 870) (by decide +kernel), List.mem_of_getElem? (i := 871) (by decide +kernel)⟩
theorem lw_p23 : lw_okq (⟨"ChainLeapModel", "readDigit", "()I"⟩, 39) := ⟨⟨by decide +kernel, by decide +kernel⟩, List.mem_of_getElem? (i := 712) (by decide +kernel), List.mem_of_getElem? (i := 874) (by decide +kernel), List.mem_of_getElem? (i := 875) (by decide +kernel)⟩
theorem lw_p24 : lw_okq (⟨"ChainLeapModel", "hasLetter", "(I)Z"⟩, 39) := ⟨⟨by decide +kernel, by decide +kernel⟩, List.mem_of_getElem? (i := 712) (by decide +kernel), List.mem_of_getElem? (i := 880) (by decide +kernel), List.mem_of_getElem? (i := 881) (by decide +kernel)⟩
theorem lw_p25 : lw_okq (⟨"ChainLeapModel", "wrongStory", "(I)I"⟩, 39) := ⟨⟨by decide +kernel, by decide +kernel⟩, List.mem_of_getElem? (i := 712) (by decide +kernel), List.mem_of_getElem? (i := 899) (by decide +kernel), List.mem_of_getElem? (i := 900) (by decide +kernel)⟩
theorem lw_p26 : lw_okq (⟨"ChainLeapModel", "tellOn", "(I)V"⟩, 39) := ⟨⟨by decide +kernel, by decide +kernel⟩, List.mem_of_getElem? (i := 712) (by decide +kernel), List.mem_of_getElem? (i := 903) (by decide +kernel), List.mem_of_getElem? (i := 904) (by decide +kernel)⟩
theorem lw_p27 : lw_okq (⟨"ChainLeapModel", "tell", "(IIIII)V"⟩, 39) := ⟨⟨by decide +kernel, by decide +kernel⟩, List.mem_of_getElem? (i := 712) (by decide +kernel), List.mem_of_getElem? (i := 907) (by decide +kernel), List.mem_of_getElem? (i := 908) (by decide +kernel)⟩
theorem lw_p28 : lw_okq (⟨"ChainLeapModel", "tickOn", "()V"⟩, 39) := ⟨⟨by decide +kernel, by decide +kernel⟩, List.mem_of_getElem? (i := 712) (by decide +kernel), List.mem_of_getElem? (i := 916) (by decide +kernel), List.mem_of_getElem? (i := 917) (by decide +kernel)⟩
theorem lw_p29 : lw_okq (⟨"ChainLeapModel", "less", "()I"⟩, 39) := ⟨⟨by decide +kernel, by decide +kernel⟩, List.mem_of_getElem? (i := 712) (by decide +kernel), List.mem_of_getElem? (i := 920) (by decide +kernel), List.mem_of_getElem? (i := 921) (by decide +kernel)⟩
theorem lw_p30 : lw_okq (⟨"ChainLeapModel", "begin", "()V"⟩, 39) := ⟨⟨by decide +kernel, by decide +kernel⟩, List.mem_of_getElem? (i := 712) (by decide +kernel), List.mem_of_getElem? (i := 928) (by decide +kernel), List.mem_of_getElem? (i := 929) (by decide +kernel)⟩
theorem lw_p31 : lw_okq (⟨"ChainLeapModel", "aheadOf", "(III)I"⟩, 39) := ⟨⟨by decide +kernel, by decide +kernel⟩, List.mem_of_getElem? (i := 712) (by decide +kernel), List.mem_of_getElem? (i := 947) (by decide +kernel), List.mem_of_getElem? (i := 948) (by decide +kernel)⟩
def lw_privs_2 : List (MethodName × Nat) := [(⟨"ChainLeap$Tale", "waitOfThrown", "()I"⟩, 2), (⟨"java/lang/Throwable", "fillInStackTrace", "(I)Ljava/lang/Throwable;"⟩, 6), (⟨"ChainLeapModel", "wrongRow", "(I)I"⟩, 39), (⟨"ChainLeapModel", "readStatement", "()V"⟩, 39), (⟨"ChainLeapModel", "take", "(I)V"⟩, 39), (⟨"ChainLeapModel", "here", "()I"⟩, 39), (⟨"ChainLeapModel", "readNumber", "()I"⟩, 39), (⟨"ChainLeapModel", "readDigit", "()I"⟩, 39), (⟨"ChainLeapModel", "hasLetter", "(I)Z"⟩, 39), (⟨"ChainLeapModel", "wrongStory", "(I)I"⟩, 39), (⟨"ChainLeapModel", "tellOn", "(I)V"⟩, 39), (⟨"ChainLeapModel", "tell", "(IIIII)V"⟩, 39), (⟨"ChainLeapModel", "tickOn", "()V"⟩, 39), (⟨"ChainLeapModel", "less", "()I"⟩, 39), (⟨"ChainLeapModel", "begin", "()V"⟩, 39), (⟨"ChainLeapModel", "aheadOf", "(III)I"⟩, 39)]
theorem lw_r2 : ∀ q ∈ lw_privs_2, lw_okq q := List.forall_mem_cons.mpr ⟨lw_p16, List.forall_mem_cons.mpr ⟨lw_p17, List.forall_mem_cons.mpr ⟨lw_p18, List.forall_mem_cons.mpr ⟨lw_p19, List.forall_mem_cons.mpr ⟨lw_p20, List.forall_mem_cons.mpr ⟨lw_p21, List.forall_mem_cons.mpr ⟨lw_p22, List.forall_mem_cons.mpr ⟨lw_p23, List.forall_mem_cons.mpr ⟨lw_p24, List.forall_mem_cons.mpr ⟨lw_p25, List.forall_mem_cons.mpr ⟨lw_p26, List.forall_mem_cons.mpr ⟨lw_p27, List.forall_mem_cons.mpr ⟨lw_p28, List.forall_mem_cons.mpr ⟨lw_p29, List.forall_mem_cons.mpr ⟨lw_p30, List.forall_mem_cons.mpr ⟨lw_p31, fun _ h => absurd h List.not_mem_nil⟩⟩⟩⟩⟩⟩⟩⟩⟩⟩⟩⟩⟩⟩⟩⟩
theorem lw_p32 : lw_okq (⟨"ChainLeapModel", "sharedOf", "(I)I"⟩, 39) := ⟨⟨by decide +kernel, by decide +kernel⟩, List.mem_of_getElem? (i := 712) (by decide +kernel), List.mem_of_getElem? (i := 951) (by decide +kernel), List.mem_of_getElem? (i := 952) (by decide +kernel)⟩
theorem lw_p33 : lw_okq (⟨"ChainLeapModel", "wrongTwo", "(II)I"⟩, 39) := ⟨⟨by decide +kernel, by decide +kernel⟩, List.mem_of_getElem? (i := 712) (by decide +kernel), List.mem_of_getElem? (i := 959) (by decide +kernel), List.mem_of_getElem? (i := 960) (by decide +kernel)⟩
theorem lw_p34 : lw_okq (⟨"ChainLeapModel", "wrongFilms", "(I)I"⟩, 39) := ⟨⟨by decide +kernel, by decide +kernel⟩, List.mem_of_getElem? (i := 712) (by decide +kernel), List.mem_of_getElem? (i := 969) (by decide +kernel), List.mem_of_getElem? (i := 970) (by decide +kernel)⟩
theorem lw_p35 : lw_okq (⟨"ChainLeapModel", "isLet", "(IIII)Z"⟩, 39) := ⟨⟨by decide +kernel, by decide +kernel⟩, List.mem_of_getElem? (i := 712) (by decide +kernel), List.mem_of_getElem? (i := 973) (by decide +kernel), List.mem_of_getElem? (i := 974) (by decide +kernel)⟩
theorem lw_p36 : lw_okq (⟨"ChainLeapModel", "skippedIn", "(I)J"⟩, 39) := ⟨⟨by decide +kernel, by decide +kernel⟩, List.mem_of_getElem? (i := 712) (by decide +kernel), List.mem_of_getElem? (i := 977) (by decide +kernel), List.mem_of_getElem? (i := 978) (by decide +kernel)⟩
theorem lw_p37 : lw_okq (⟨"ChainLeapModel", "paceAfter", "(I)I"⟩, 39) := ⟨⟨by decide +kernel, by decide +kernel⟩, List.mem_of_getElem? (i := 712) (by decide +kernel), List.mem_of_getElem? (i := 1004) (by decide +kernel), List.mem_of_getElem? (i := 1005) (by decide +kernel)⟩
theorem lw_p38 : lw_okq (⟨"ChainLeapModel", "open", "()V"⟩, 39) := ⟨⟨by decide +kernel, by decide +kernel⟩, List.mem_of_getElem? (i := 712) (by decide +kernel), List.mem_of_getElem? (i := 1008) (by decide +kernel), List.mem_of_getElem? (i := 1009) (by decide +kernel)⟩
theorem lw_p39 : lw_okq (⟨"ChainLeapModel", "close", "()V"⟩, 39) := ⟨⟨by decide +kernel, by decide +kernel⟩, List.mem_of_getElem? (i := 712) (by decide +kernel), List.mem_of_getElem? (i := 1012) (by decide +kernel), List.mem_of_getElem? (i := 1013) (by decide +kernel)⟩
theorem lw_p40 : lw_okq (⟨"ChainLeapModel", "carryAll", "()V"⟩, 39) := ⟨⟨by decide +kernel, by decide +kernel⟩, List.mem_of_getElem? (i := 712) (by decide +kernel), List.mem_of_getElem? (i := 1045) (by decide +kernel), List.mem_of_getElem? (i := 1046) (by decide +kernel)⟩
theorem lw_p41 : lw_okq (⟨"ChainLeapModel", "carry", "(I)I"⟩, 39) := ⟨⟨by decide +kernel, by decide +kernel⟩, List.mem_of_getElem? (i := 712) (by decide +kernel), List.mem_of_getElem? (i := 1049) (by decide +kernel), List.mem_of_getElem? (i := 1050) (by decide +kernel)⟩
theorem lw_p42 : lw_okq (⟨"ChainLeapModel", "waitOf", "(I)I"⟩, 39) := ⟨⟨by decide +kernel, by decide +kernel⟩, List.mem_of_getElem? (i := 712) (by decide +kernel), List.mem_of_getElem? (i := 1088) (by decide +kernel), List.mem_of_getElem? (i := 1089) (by decide +kernel)⟩
def lw_privs_3 : List (MethodName × Nat) := [(⟨"ChainLeapModel", "sharedOf", "(I)I"⟩, 39), (⟨"ChainLeapModel", "wrongTwo", "(II)I"⟩, 39), (⟨"ChainLeapModel", "wrongFilms", "(I)I"⟩, 39), (⟨"ChainLeapModel", "isLet", "(IIII)Z"⟩, 39), (⟨"ChainLeapModel", "skippedIn", "(I)J"⟩, 39), (⟨"ChainLeapModel", "paceAfter", "(I)I"⟩, 39), (⟨"ChainLeapModel", "open", "()V"⟩, 39), (⟨"ChainLeapModel", "close", "()V"⟩, 39), (⟨"ChainLeapModel", "carryAll", "()V"⟩, 39), (⟨"ChainLeapModel", "carry", "(I)I"⟩, 39), (⟨"ChainLeapModel", "waitOf", "(I)I"⟩, 39)]
theorem lw_r3 : ∀ q ∈ lw_privs_3, lw_okq q := List.forall_mem_cons.mpr ⟨lw_p32, List.forall_mem_cons.mpr ⟨lw_p33, List.forall_mem_cons.mpr ⟨lw_p34, List.forall_mem_cons.mpr ⟨lw_p35, List.forall_mem_cons.mpr ⟨lw_p36, List.forall_mem_cons.mpr ⟨lw_p37, List.forall_mem_cons.mpr ⟨lw_p38, List.forall_mem_cons.mpr ⟨lw_p39, List.forall_mem_cons.mpr ⟨lw_p40, List.forall_mem_cons.mpr ⟨lw_p41, List.forall_mem_cons.mpr ⟨lw_p42, fun _ h => absurd h List.not_mem_nil⟩⟩⟩⟩⟩⟩⟩⟩⟩⟩⟩
def lw_privs : List (MethodName × Nat) := lw_privs_1 ++ (lw_privs_2 ++ (lw_privs_3))
def lw_tbl : List Cond := k2_sels lw_privs ++ tables_1
theorem lw_privs_ok : ∀ q ∈ lw_privs, lw_okq q := by
  show ∀ q ∈ lw_privs_1 ++ (lw_privs_2 ++ (lw_privs_3)), lw_okq q
  exact List.forall_mem_append.mpr ⟨lw_r1, List.forall_mem_append.mpr ⟨lw_r2, lw_r3⟩⟩
-- ===== names (printed) =====
def RX0 : String := "ChainLeap$Course"
def TX0 : u_T := fun k => match k with
  | 0 => ("ChainLeap$Course", "tick", "I", false)
  | 1 => ("ChainLeap$Course", "pace", "I", false)
  | 2 => ("ChainLeap$Course", "arch", "I", false)
  | 3 => ("ChainLeap$Course", "out", "I", false)
  | _ => ("ChainLeap$Course", "highest", "I", false)
def tyX0 : Nat → FieldType := fun k => match k with
  | 0 => .int
  | 1 => .int
  | 2 => .int
  | 3 => .int
  | _ => .int
abbrev wsX00 : List Cond := u_ws RX0 TX0 5
theorem nmX0 : ∀ a, a < 5 → ∀ b, b < 5 → a ≠ b → (TX0 a).2.1 ≠ (TX0 b).2.1 := by decide +kernel
theorem tyX0_ok : ∀ k, k < 5 → parseFieldDescriptor (TX0 k).2.2.1 = some (tyX0 k) := by decide +kernel
abbrev cX0_init : ByteArray := prog_2_method_1_code
def yX0_init : MethodName := ⟨RX0, "<init>", "()V"⟩
abbrev cX0_clear : ByteArray := prog_2_method_2_code
def yX0_clear : MethodName := ⟨RX0, "clear", "()V"⟩
abbrev cX0_take : ByteArray := prog_2_method_3_code
def yX0_take : MethodName := ⟨RX0, "take", "(LChainLeap$Course;)V"⟩
abbrev cX0_step : ByteArray := prog_2_method_4_code
def yX0_step : MethodName := ⟨RX0, "step", "(IIII)V"⟩
def RX1 : String := "ChainLeap$Reader"
def TX1 : u_T := fun k => match k with
  | 0 => ("ChainLeap$Reader", "text", "[I", true)
  | 1 => ("ChainLeap$Reader", "size", "I", false)
  | 2 => ("ChainLeap$Reader", "at", "I", false)
  | _ => ("ChainLeap$Reader", "broken", "Z", false)
def tyX1 : Nat → FieldType := fun k => match k with
  | 0 => .array .int
  | 1 => .int
  | 2 => .int
  | _ => .boolean
abbrev wsX10 : List Cond := u_ws RX1 TX1 4
theorem nmX1 : ∀ a, a < 4 → ∀ b, b < 4 → a ≠ b → (TX1 a).2.1 ≠ (TX1 b).2.1 := by decide +kernel
theorem tyX1_ok : ∀ k, k < 4 → parseFieldDescriptor (TX1 k).2.2.1 = some (tyX1 k) := by decide +kernel
abbrev cX1_init : ByteArray := prog_3_method_1_code
def yX1_init : MethodName := ⟨RX1, "<init>", "()V"⟩
abbrev cX1_open : ByteArray := prog_3_method_2_code
def yX1_open : MethodName := ⟨RX1, "open", "(LChainLeap$Shelf;)V"⟩
abbrev cX1_isAtEnd : ByteArray := prog_3_method_3_code
def yX1_isAtEnd : MethodName := ⟨RX1, "isAtEnd", "()Z"⟩
abbrev cX1_readStatement : ByteArray := prog_3_method_4_code
def yX1_readStatement : MethodName := ⟨RX1, "readStatement", "(LChainLeap$Setting;LChainLeap$Setting;)V"⟩
abbrev cX1_next : ByteArray := prog_3_method_5_code
def yX1_next : MethodName := ⟨RX1, "next", "()I"⟩
abbrev cX1_isAtDigit : ByteArray := prog_3_method_6_code
def yX1_isAtDigit : MethodName := ⟨RX1, "isAtDigit", "()Z"⟩
abbrev cX1_accepts : ByteArray := prog_3_method_7_code
def yX1_accepts : MethodName := ⟨RX1, "accepts", "(C)Z"⟩
abbrev cX1_need : ByteArray := prog_3_method_8_code
def yX1_need : MethodName := ⟨RX1, "need", "(C)V"⟩
abbrev cX1_digit : ByteArray := prog_3_method_9_code
def yX1_digit : MethodName := ⟨RX1, "digit", "()I"⟩
abbrev cX1_number : ByteArray := prog_3_method_10_code
def yX1_number : MethodName := ⟨RX1, "number", "()I"⟩
def RX2 : String := "ChainLeap$Scene"
def TX2 : u_T := fun k => match k with
  | 0 => ("ChainLeap$Scene", "chain", "LChainLeap$Setting;", true)
  | 1 => ("ChainLeap$Scene", "length", "I", false)
  | 2 => ("ChainLeap$Scene", "tried", "[LChainLeap$Setting;", true)
  | 3 => ("ChainLeap$Scene", "tryCount", "I", false)
  | _ => ("ChainLeap$Scene", "course", "LChainLeap$Course;", true)
def tyX2 : Nat → FieldType := fun k => match k with
  | 0 => .object "ChainLeap$Setting"
  | 1 => .int
  | 2 => .array (.object "ChainLeap$Setting")
  | 3 => .int
  | _ => .object "ChainLeap$Course"
abbrev wsX20 : List Cond := u_ws RX2 TX2 5
theorem nmX2 : ∀ a, a < 5 → ∀ b, b < 5 → a ≠ b → (TX2 a).2.1 ≠ (TX2 b).2.1 := by decide +kernel
theorem tyX2_ok : ∀ k, k < 5 → parseFieldDescriptor (TX2 k).2.2.1 = some (tyX2 k) := by decide +kernel
abbrev cX2_init : ByteArray := prog_4_method_1_code
def yX2_init : MethodName := ⟨RX2, "<init>", "()V"⟩
abbrev cX2_take : ByteArray := prog_4_method_2_code
def yX2_take : MethodName := ⟨RX2, "take", "(LChainLeap$Scene;)V"⟩
abbrev cX2_hasTry : ByteArray := prog_4_method_3_code
def yX2_hasTry : MethodName := ⟨RX2, "hasTry", "(I)Z"⟩
abbrev cX2_isDone : ByteArray := prog_4_method_4_code
def yX2_isDone : MethodName := ⟨RX2, "isDone", "()Z"⟩
abbrev cX2_step : ByteArray := prog_4_method_5_code
def yX2_step : MethodName := ⟨RX2, "step", "(LChainLeap$Course;LChainLeap$Tale;)V"⟩
abbrev cX2_admits : ByteArray := prog_4_method_6_code
def yX2_admits : MethodName := ⟨RX2, "admits", "(LChainLeap$Setting;I)Z"⟩
def RX3 : String := "ChainLeap$Setting"
def TX3 : u_T := fun k => match k with
  | 0 => ("ChainLeap$Setting", "rod", "I", false)
  | 1 => ("ChainLeap$Setting", "bend", "I", false)
  | 2 => ("ChainLeap$Setting", "laid", "I", false)
  | _ => ("ChainLeap$Setting", "drop", "I", false)
def tyX3 : Nat → FieldType := fun k => match k with
  | 0 => .int
  | 1 => .int
  | 2 => .int
  | _ => .int
abbrev wsX30 : List Cond := u_ws RX3 TX3 4
theorem nmX3 : ∀ a, a < 4 → ∀ b, b < 4 → a ≠ b → (TX3 a).2.1 ≠ (TX3 b).2.1 := by decide +kernel
theorem tyX3_ok : ∀ k, k < 4 → parseFieldDescriptor (TX3 k).2.2.1 = some (tyX3 k) := by decide +kernel
abbrev cX3_init : ByteArray := prog_5_method_1_code
def yX3_init : MethodName := ⟨RX3, "<init>", "()V"⟩
abbrev cX3_take : ByteArray := prog_5_method_2_code
def yX3_take : MethodName := ⟨RX3, "take", "(LChainLeap$Setting;)V"⟩
abbrev cX3_isAsTold : ByteArray := prog_5_method_3_code
def yX3_isAsTold : MethodName := ⟨RX3, "isAsTold", "()Z"⟩
def RX4 : String := "ChainLeap$Shelf"
def TX4 : u_T := fun k => match k with
  | 0 => ("ChainLeap$Shelf", "held", "I", false)
  | 1 => ("ChainLeap$Shelf", "tale", "LChainLeap$Tale;", true)
  | 2 => ("ChainLeap$Shelf", "sort", "I", false)
  | 3 => ("ChainLeap$Shelf", "size", "I", false)
  | _ => ("ChainLeap$Shelf", "elements", "[I", true)
def tyX4 : Nat → FieldType := fun k => match k with
  | 0 => .int
  | 1 => .object "ChainLeap$Tale"
  | 2 => .int
  | 3 => .int
  | _ => .array .int
abbrev wsX40 : List Cond := u_ws RX4 TX4 5
theorem nmX4 : ∀ a, a < 5 → ∀ b, b < 5 → a ≠ b → (TX4 a).2.1 ≠ (TX4 b).2.1 := by decide +kernel
theorem tyX4_ok : ∀ k, k < 5 → parseFieldDescriptor (TX4 k).2.2.1 = some (tyX4 k) := by decide +kernel
abbrev cX4_init : ByteArray := prog_6_method_1_code
def yX4_init : MethodName := ⟨RX4, "<init>", "()V"⟩
abbrev cX4_isEmpty : ByteArray := prog_6_method_2_code
def yX4_isEmpty : MethodName := ⟨RX4, "isEmpty", "()Z"⟩
abbrev cX4_holdsStory : ByteArray := prog_6_method_3_code
def yX4_holdsStory : MethodName := ⟨RX4, "holdsStory", "()Z"⟩
abbrev cX4_holdsRow : ByteArray := prog_6_method_4_code
def yX4_holdsRow : MethodName := ⟨RX4, "holdsRow", "()Z"⟩
abbrev cX4_clear : ByteArray := prog_6_method_5_code
def yX4_clear : MethodName := ⟨RX4, "clear", "()V"⟩
abbrev cX4_holdStory : ByteArray := prog_6_method_6_code
def yX4_holdStory : MethodName := ⟨RX4, "holdStory", "(II)V"⟩
abbrev cX4_holdRow : ByteArray := prog_6_method_7_code
def yX4_holdRow : MethodName := ⟨RX4, "holdRow", "(II)V"⟩
abbrev cX4_hasPlace : ByteArray := prog_6_method_8_code
def yX4_hasPlace : MethodName := ⟨RX4, "hasPlace", "(I)Z"⟩
abbrev cX4_hasStretch : ByteArray := prog_6_method_9_code
def yX4_hasStretch : MethodName := ⟨RX4, "hasStretch", "(II)Z"⟩
abbrev cX4_change : ByteArray := prog_6_method_10_code
def yX4_change : MethodName := ⟨RX4, "change", "(II)V"⟩
abbrev cX4_at : ByteArray := prog_6_method_11_code
def yX4_at : MethodName := ⟨RX4, "at", "(I)I"⟩
abbrev cX4_tells : ByteArray := prog_6_method_12_code
def yX4_tells : MethodName := ⟨RX4, "tells", "(I)Z"⟩
def RX5 : String := "ChainLeap$Tale"
def TX5 : u_T := fun k => match k with
  | 0 => ("ChainLeap$Tale", "kind", "I", false)
  | _ => ("ChainLeap$Tale", "figure", "I", false)
def tyX5 : Nat → FieldType := fun k => match k with
  | 0 => .int
  | _ => .int
abbrev wsX50 : List Cond := u_ws RX5 TX5 2
theorem nmX5 : ∀ a, a < 2 → ∀ b, b < 2 → a ≠ b → (TX5 a).2.1 ≠ (TX5 b).2.1 := by decide +kernel
theorem tyX5_ok : ∀ k, k < 2 → parseFieldDescriptor (TX5 k).2.2.1 = some (tyX5 k) := by decide +kernel
abbrev cX5_init : ByteArray := prog_7_method_1_code
def yX5_init : MethodName := ⟨RX5, "<init>", "()V"⟩
abbrev cX5_become : ByteArray := prog_7_method_2_code
def yX5_become : MethodName := ⟨RX5, "become", "(II)V"⟩
abbrev cX5_kick : ByteArray := prog_7_method_3_code
def yX5_kick : MethodName := ⟨RX5, "kick", "(LChainLeap$Setting;)I"⟩
abbrev cX5_kickOfKicked : ByteArray := prog_7_method_4_code
def yX5_kickOfKicked : MethodName := ⟨RX5, "kickOfKicked", "(LChainLeap$Setting;)I"⟩
abbrev cX5_kickOfThrown : ByteArray := prog_7_method_5_code
def yX5_kickOfThrown : MethodName := ⟨RX5, "kickOfThrown", "(LChainLeap$Setting;)I"⟩
abbrev cX5_draw : ByteArray := prog_7_method_6_code
def yX5_draw : MethodName := ⟨RX5, "draw", "()I"⟩
abbrev cX5_hold : ByteArray := prog_7_method_7_code
def yX5_hold : MethodName := ⟨RX5, "hold", "()I"⟩
abbrev cX5_less : ByteArray := prog_7_method_8_code
def yX5_less : MethodName := ⟨RX5, "less", "(LChainLeap$Setting;)I"⟩
abbrev cX5_archAt : ByteArray := prog_7_method_9_code
def yX5_archAt : MethodName := ⟨RX5, "archAt", "(LChainLeap$Setting;I)I"⟩
abbrev cX5_arch : ByteArray := prog_7_method_10_code
def yX5_arch : MethodName := ⟨RX5, "arch", "(LChainLeap$Setting;)I"⟩
abbrev cX5_waiting : ByteArray := prog_7_method_11_code
def yX5_waiting : MethodName := ⟨RX5, "waiting", "()I"⟩
abbrev cX5_waitOfKicked : ByteArray := prog_7_method_12_code
def yX5_waitOfKicked : MethodName := ⟨RX5, "waitOfKicked", "()I"⟩
abbrev cX5_waitOfThrown : ByteArray := prog_7_method_13_code
def yX5_waitOfThrown : MethodName := ⟨RX5, "waitOfThrown", "()I"⟩
abbrev cX5_fail : ByteArray := prog_7_method_14_code
def yX5_fail : MethodName := ⟨RX5, "fail", "()V"⟩
def RX6 : String := "ChainLeap"
def TX6 : u_T := fun k => match k with
  | 0 => ("ChainLeap", "scene", "LChainLeap$Scene;", true)
  | 1 => ("ChainLeap", "pictured", "LChainLeap$Scene;", true)
  | 2 => ("ChainLeap", "isPictured", "Z", false)
  | 3 => ("ChainLeap", "shelves", "[LChainLeap$Shelf;", true)
  | 4 => ("ChainLeap", "reader", "LChainLeap$Reader;", true)
  | 5 => ("ChainLeap", "draft", "LChainLeap$Setting;", true)
  | 6 => ("ChainLeap", "fancy", "LChainLeap$Tale;", true)
  | 7 => ("ChainLeap", "plain", "LChainLeap$Tale;", true)
  | _ => ("ChainLeap", "mind", "LChainLeap$Course;", true)
def tyX6 : Nat → FieldType := fun k => match k with
  | 0 => .object "ChainLeap$Scene"
  | 1 => .object "ChainLeap$Scene"
  | 2 => .boolean
  | 3 => .array (.object "ChainLeap$Shelf")
  | 4 => .object "ChainLeap$Reader"
  | 5 => .object "ChainLeap$Setting"
  | 6 => .object "ChainLeap$Tale"
  | 7 => .object "ChainLeap$Tale"
  | _ => .object "ChainLeap$Course"
abbrev wsX60 : List Cond := u_ws RX6 TX6 9
theorem nmX6 : ∀ a, a < 9 → ∀ b, b < 9 → a ≠ b → (TX6 a).2.1 ≠ (TX6 b).2.1 := by decide +kernel
theorem tyX6_ok : ∀ k, k < 9 → parseFieldDescriptor (TX6 k).2.2.1 = some (tyX6 k) := by decide +kernel
abbrev cX6_init : ByteArray := prog_1_method_1_code
def yX6_init : MethodName := ⟨RX6, "<init>", "()V"⟩
abbrev cX6_isWithin : ByteArray := prog_1_method_2_code
def yX6_isWithin : MethodName := ⟨RX6, "isWithin", "(III)Z"⟩
abbrev cX6_isShelf : ByteArray := prog_1_method_3_code
def yX6_isShelf : MethodName := ⟨RX6, "isShelf", "(I)Z"⟩
abbrev cX6_storyRefusal : ByteArray := prog_1_method_4_code
def yX6_storyRefusal : MethodName := ⟨RX6, "storyRefusal", "(I)I"⟩
abbrev cX6_rowRefusal : ByteArray := prog_1_method_5_code
def yX6_rowRefusal : MethodName := ⟨RX6, "rowRefusal", "(I)I"⟩
abbrev cX6_firstRefusal : ByteArray := prog_1_method_6_code
def yX6_firstRefusal : MethodName := ⟨RX6, "firstRefusal", "(II)I"⟩
abbrev cX6_putApart : ByteArray := prog_1_method_7_code
def yX6_putApart : MethodName := ⟨RX6, "putApart", "(I)I"⟩
abbrev cX6_set : ByteArray := prog_1_method_8_code
def yX6_set : MethodName := ⟨RX6, "set", "(II)I"⟩
abbrev cX6_maySet : ByteArray := prog_1_method_9_code
def yX6_maySet : MethodName := ⟨RX6, "maySet", "(II)Z"⟩
abbrev cX6_chainNumber : ByteArray := prog_1_method_10_code
def yX6_chainNumber : MethodName := ⟨RX6, "chainNumber", "(I)I"⟩
abbrev cX6_tries : ByteArray := prog_1_method_11_code
def yX6_tries : MethodName := ⟨RX6, "tries", "(I)I"⟩
abbrev cX6_readTries : ByteArray := prog_1_method_12_code
def yX6_readTries : MethodName := ⟨RX6, "readTries", "(LChainLeap$Shelf;)I"⟩
abbrev cX6_tryOf : ByteArray := prog_1_method_13_code
def yX6_tryOf : MethodName := ⟨RX6, "tryOf", "(II)I"⟩
abbrev cX6_leave : ByteArray := prog_1_method_14_code
def yX6_leave : MethodName := ⟨RX6, "leave", "()I"⟩
abbrev cX6_story : ByteArray := prog_1_method_15_code
def yX6_story : MethodName := ⟨RX6, "story", "(II)I"⟩
abbrev cX6_run : ByteArray := prog_1_method_16_code
def yX6_run : MethodName := ⟨RX6, "run", "(II)I"⟩
abbrev cX6_anew : ByteArray := prog_1_method_17_code
def yX6_anew : MethodName := ⟨RX6, "anew", "()I"⟩
abbrev cX6_state : ByteArray := prog_1_method_18_code
def yX6_state : MethodName := ⟨RX6, "state", "(I)I"⟩
abbrev cX6_rests : ByteArray := prog_1_method_19_code
def yX6_rests : MethodName := ⟨RX6, "rests", "(II)I"⟩
abbrev cX6_greatestShared : ByteArray := prog_1_method_20_code
def yX6_greatestShared : MethodName := ⟨RX6, "greatestShared", "(II)I"⟩
abbrev cX6_ahead : ByteArray := prog_1_method_21_code
def yX6_ahead : MethodName := ⟨RX6, "ahead", "(II)I"⟩
abbrev cX6_parts : ByteArray := prog_1_method_22_code
def yX6_parts : MethodName := ⟨RX6, "parts", "(III)I"⟩
abbrev cX6_unlikeness : ByteArray := prog_1_method_23_code
def yX6_unlikeness : MethodName := ⟨RX6, "unlikeness", "(LChainLeap$Tale;LChainLeap$Tale;LChainLeap$Setting;)I"⟩
abbrev cX6_films : ByteArray := prog_1_method_24_code
def yX6_films : MethodName := ⟨RX6, "films", "(III)I"⟩
abbrev cX6_filmRefusal : ByteArray := prog_1_method_25_code
def yX6_filmRefusal : MethodName := ⟨RX6, "filmRefusal", "(I)I"⟩
abbrev cX6_fits : ByteArray := prog_1_method_26_code
def yX6_fits : MethodName := ⟨RX6, "fits", "(LChainLeap$Tale;LChainLeap$Shelf;I)Z"⟩
abbrev cX6_isNear : ByteArray := prog_1_method_27_code
def yX6_isNear : MethodName := ⟨RX6, "isNear", "(III)Z"⟩
abbrev cX6_numbers : ByteArray := prog_1_method_28_code
def yX6_numbers : MethodName := ⟨RX6, "numbers", "(IIII)I"⟩
abbrev cX6_most : ByteArray := prog_1_method_29_code
def yX6_most : MethodName := ⟨RX6, "most", "(I)I"⟩
abbrev cX6_lays : ByteArray := prog_1_method_30_code
def yX6_lays : MethodName := ⟨RX6, "lays", "(I)I"⟩
abbrev cX6_without : ByteArray := prog_1_method_31_code
def yX6_without : MethodName := ⟨RX6, "without", "(II)I"⟩
abbrev cX6_paceBehind : ByteArray := prog_1_method_32_code
def yX6_paceBehind : MethodName := ⟨RX6, "paceBehind", "(LChainLeap$Tale;II)I"⟩
abbrev cX6_rested : ByteArray := prog_1_method_33_code
def yX6_rested : MethodName := ⟨RX6, "rested", "(I)I"⟩
abbrev cX6_when : ByteArray := prog_1_method_34_code
def yX6_when : MethodName := ⟨RX6, "when", "(I)I"⟩
abbrev cX6_floor : ByteArray := prog_1_method_35_code
def yX6_floor : MethodName := ⟨RX6, "floor", "(III)I"⟩
abbrev cX6_scale : ByteArray := prog_1_method_36_code
def yX6_scale : MethodName := ⟨RX6, "scale", "(II)I"⟩
abbrev cX6_slant : ByteArray := prog_1_method_37_code
def yX6_slant : MethodName := ⟨RX6, "slant", "(II)I"⟩
abbrev cX6_judge : ByteArray := prog_1_method_38_code
def yX6_judge : MethodName := ⟨RX6, "judge", "(II)I"⟩
abbrev cX6_image : ByteArray := prog_1_method_39_code
def yX6_image : MethodName := ⟨RX6, "image", "()I"⟩
abbrev cX6_restore : ByteArray := prog_1_method_40_code
def yX6_restore : MethodName := ⟨RX6, "restore", "()I"⟩
abbrev cX6_count : ByteArray := prog_1_method_41_code
def yX6_count : MethodName := ⟨RX6, "count", "(I)I"⟩
abbrev cX6_keep : ByteArray := prog_1_method_42_code
def yX6_keep : MethodName := ⟨RX6, "keep", "(IIII)I"⟩
abbrev cX6_row : ByteArray := prog_1_method_43_code
def yX6_row : MethodName := ⟨RX6, "row", "(III)I"⟩
abbrev cX6_put : ByteArray := prog_1_method_44_code
def yX6_put : MethodName := ⟨RX6, "put", "(III)I"⟩
abbrev cX6_element : ByteArray := prog_1_method_45_code
def yX6_element : MethodName := ⟨RX6, "element", "(II)J"⟩
abbrev cX6_copy : ByteArray := prog_1_method_46_code
def yX6_copy : MethodName := ⟨RX6, "copy", "(IIIII)I"⟩
abbrev cX6_waits : ByteArray := prog_1_method_47_code
def yX6_waits : MethodName := ⟨RX6, "waits", "(I)I"⟩
abbrev cX6_toss : ByteArray := prog_1_method_48_code
def yX6_toss : MethodName := ⟨RX6, "toss", "(I)I"⟩
abbrev cX6_tossed : ByteArray := prog_1_method_49_code
def yX6_tossed : MethodName := ⟨RX6, "tossed", "(LChainLeap$Tale;)I"⟩
def RX7 : String := "ChainLeapModel"
def TX7 : u_T := fun k => match k with
  | 0 => ("ChainLeapModel", "rod", "I", false)
  | 1 => ("ChainLeapModel", "bend", "I", false)
  | 2 => ("ChainLeapModel", "laid", "I", false)
  | 3 => ("ChainLeapModel", "length", "I", false)
  | 4 => ("ChainLeapModel", "drop", "I", false)
  | 5 => ("ChainLeapModel", "tries", "I", false)
  | 6 => ("ChainLeapModel", "told", "[I", true)
  | 7 => ("ChainLeapModel", "tick", "I", false)
  | 8 => ("ChainLeapModel", "pace", "I", false)
  | 9 => ("ChainLeapModel", "arch", "I", false)
  | 10 => ("ChainLeapModel", "out", "I", false)
  | 11 => ("ChainLeapModel", "highest", "I", false)
  | 12 => ("ChainLeapModel", "thrown", "I", false)
  | 13 => ("ChainLeapModel", "base", "I", false)
  | 14 => ("ChainLeapModel", "end", "I", false)
  | 15 => ("ChainLeapModel", "at", "I", false)
  | 16 => ("ChainLeapModel", "isBad", "Z", false)
  | 17 => ("ChainLeapModel", "statements", "I", false)
  | 18 => ("ChainLeapModel", "placeOf", "[I", true)
  | 19 => ("ChainLeapModel", "numbers", "[I", true)
  | 20 => ("ChainLeapModel", "kick", "I", false)
  | 21 => ("ChainLeapModel", "draw", "I", false)
  | 22 => ("ChainLeapModel", "hold", "I", false)
  | 23 => ("ChainLeapModel", "savedTick", "I", false)
  | 24 => ("ChainLeapModel", "savedPace", "I", false)
  | 25 => ("ChainLeapModel", "savedArch", "I", false)
  | 26 => ("ChainLeapModel", "savedOut", "I", false)
  | 27 => ("ChainLeapModel", "savedHighest", "I", false)
  | 28 => ("ChainLeapModel", "hasImage", "Z", false)
  | 29 => ("ChainLeapModel", "imaged", "[I", true)
  | 30 => ("ChainLeapModel", "imageAt", "I", false)
  | 31 => ("ChainLeapModel", "isTaking", "Z", false)
  | 32 => ("ChainLeapModel", "holdsWhat", "[I", true)
  | 33 => ("ChainLeapModel", "storyKind", "[I", true)
  | 34 => ("ChainLeapModel", "storyFigure", "[I", true)
  | 35 => ("ChainLeapModel", "rowSort", "[I", true)
  | 36 => ("ChainLeapModel", "rowMany", "[I", true)
  | 37 => ("ChainLeapModel", "rows", "[J", true)
  | _ => ("ChainLeapModel", "between", "[J", true)
def tyX7 : Nat → FieldType := fun k => match k with
  | 0 => .int
  | 1 => .int
  | 2 => .int
  | 3 => .int
  | 4 => .int
  | 5 => .int
  | 6 => .array .int
  | 7 => .int
  | 8 => .int
  | 9 => .int
  | 10 => .int
  | 11 => .int
  | 12 => .int
  | 13 => .int
  | 14 => .int
  | 15 => .int
  | 16 => .boolean
  | 17 => .int
  | 18 => .array .int
  | 19 => .array .int
  | 20 => .int
  | 21 => .int
  | 22 => .int
  | 23 => .int
  | 24 => .int
  | 25 => .int
  | 26 => .int
  | 27 => .int
  | 28 => .boolean
  | 29 => .array .int
  | 30 => .int
  | 31 => .boolean
  | 32 => .array .int
  | 33 => .array .int
  | 34 => .array .int
  | 35 => .array .int
  | 36 => .array .int
  | 37 => .array .long
  | _ => .array .long
abbrev wsX70 : List Cond := u_ws RX7 TX7 39
theorem nmX7 : ∀ a, a < 39 → ∀ b, b < 39 → a ≠ b → (TX7 a).2.1 ≠ (TX7 b).2.1 := by decide +kernel
theorem tyX7_ok : ∀ k, k < 39 → parseFieldDescriptor (TX7 k).2.2.1 = some (tyX7 k) := by decide +kernel
abbrev cX7_init : ByteArray := prog_9_method_1_code
def yX7_init : MethodName := ⟨RX7, "<init>", "()V"⟩
abbrev cX7_thrown : ByteArray := prog_9_method_2_code
def yX7_thrown : MethodName := ⟨RX7, "thrown", "()I"⟩
abbrev cX7_in : ByteArray := prog_9_method_3_code
def yX7_in : MethodName := ⟨RX7, "in", "(JJJ)Z"⟩
abbrev cX7_far : ByteArray := prog_9_method_4_code
def yX7_far : MethodName := ⟨RX7, "far", "(I)I"⟩
abbrev cX7_set : ByteArray := prog_9_method_5_code
def yX7_set : MethodName := ⟨RX7, "set", "(II)I"⟩
abbrev cX7_here : ByteArray := prog_9_method_6_code
def yX7_here : MethodName := ⟨RX7, "here", "()I"⟩
abbrev cX7_take : ByteArray := prog_9_method_7_code
def yX7_take : MethodName := ⟨RX7, "take", "(I)V"⟩
abbrev cX7_readDigit : ByteArray := prog_9_method_8_code
def yX7_readDigit : MethodName := ⟨RX7, "readDigit", "()I"⟩
abbrev cX7_readNumber : ByteArray := prog_9_method_9_code
def yX7_readNumber : MethodName := ⟨RX7, "readNumber", "()I"⟩
abbrev cX7_hasLetter : ByteArray := prog_9_method_10_code
def yX7_hasLetter : MethodName := ⟨RX7, "hasLetter", "(I)Z"⟩
abbrev cX7_readStatement : ByteArray := prog_9_method_11_code
def yX7_readStatement : MethodName := ⟨RX7, "readStatement", "()V"⟩
abbrev cX7_tries : ByteArray := prog_9_method_12_code
def yX7_tries : MethodName := ⟨RX7, "tries", "(I)I"⟩
abbrev cX7_tryOf : ByteArray := prog_9_method_13_code
def yX7_tryOf : MethodName := ⟨RX7, "tryOf", "(II)I"⟩
abbrev cX7_leave : ByteArray := prog_9_method_14_code
def yX7_leave : MethodName := ⟨RX7, "leave", "()I"⟩
abbrev cX7_tell : ByteArray := prog_9_method_15_code
def yX7_tell : MethodName := ⟨RX7, "tell", "(IIIII)V"⟩
abbrev cX7_less : ByteArray := prog_9_method_16_code
def yX7_less : MethodName := ⟨RX7, "less", "()I"⟩
abbrev cX7_tellOn : ByteArray := prog_9_method_17_code
def yX7_tellOn : MethodName := ⟨RX7, "tellOn", "(I)V"⟩
abbrev cX7_wrongStory : ByteArray := prog_9_method_18_code
def yX7_wrongStory : MethodName := ⟨RX7, "wrongStory", "(I)I"⟩
abbrev cX7_story : ByteArray := prog_9_method_19_code
def yX7_story : MethodName := ⟨RX7, "story", "(II)I"⟩
abbrev cX7_tickOn : ByteArray := prog_9_method_20_code
def yX7_tickOn : MethodName := ⟨RX7, "tickOn", "()V"⟩
abbrev cX7_begin : ByteArray := prog_9_method_21_code
def yX7_begin : MethodName := ⟨RX7, "begin", "()V"⟩
abbrev cX7_open : ByteArray := prog_9_method_22_code
def yX7_open : MethodName := ⟨RX7, "open", "()V"⟩
abbrev cX7_close : ByteArray := prog_9_method_23_code
def yX7_close : MethodName := ⟨RX7, "close", "()V"⟩
abbrev cX7_run : ByteArray := prog_9_method_24_code
def yX7_run : MethodName := ⟨RX7, "run", "(II)I"⟩
abbrev cX7_anew : ByteArray := prog_9_method_25_code
def yX7_anew : MethodName := ⟨RX7, "anew", "()I"⟩
abbrev cX7_state : ByteArray := prog_9_method_26_code
def yX7_state : MethodName := ⟨RX7, "state", "(I)I"⟩
abbrev cX7_divisor : ByteArray := prog_9_method_27_code
def yX7_divisor : MethodName := ⟨RX7, "divisor", "(II)I"⟩
abbrev cX7_rests : ByteArray := prog_9_method_28_code
def yX7_rests : MethodName := ⟨RX7, "rests", "(II)I"⟩
abbrev cX7_sharedOf : ByteArray := prog_9_method_29_code
def yX7_sharedOf : MethodName := ⟨RX7, "sharedOf", "(I)I"⟩
abbrev cX7_aheadOf : ByteArray := prog_9_method_30_code
def yX7_aheadOf : MethodName := ⟨RX7, "aheadOf", "(III)I"⟩
abbrev cX7_ahead : ByteArray := prog_9_method_31_code
def yX7_ahead : MethodName := ⟨RX7, "ahead", "(II)I"⟩
abbrev cX7_wrongTwo : ByteArray := prog_9_method_32_code
def yX7_wrongTwo : MethodName := ⟨RX7, "wrongTwo", "(II)I"⟩
abbrev cX7_parts : ByteArray := prog_9_method_33_code
def yX7_parts : MethodName := ⟨RX7, "parts", "(III)I"⟩
abbrev cX7_skippedIn : ByteArray := prog_9_method_34_code
def yX7_skippedIn : MethodName := ⟨RX7, "skippedIn", "(I)J"⟩
abbrev cX7_isLet : ByteArray := prog_9_method_35_code
def yX7_isLet : MethodName := ⟨RX7, "isLet", "(IIII)Z"⟩
abbrev cX7_wrongFilms : ByteArray := prog_9_method_36_code
def yX7_wrongFilms : MethodName := ⟨RX7, "wrongFilms", "(I)I"⟩
abbrev cX7_films : ByteArray := prog_9_method_37_code
def yX7_films : MethodName := ⟨RX7, "films", "(III)I"⟩
abbrev cX7_numbers : ByteArray := prog_9_method_38_code
def yX7_numbers : MethodName := ⟨RX7, "numbers", "(IIII)I"⟩
abbrev cX7_most : ByteArray := prog_9_method_39_code
def yX7_most : MethodName := ⟨RX7, "most", "(I)I"⟩
abbrev cX7_lays : ByteArray := prog_9_method_40_code
def yX7_lays : MethodName := ⟨RX7, "lays", "(I)I"⟩
abbrev cX7_paceAfter : ByteArray := prog_9_method_41_code
def yX7_paceAfter : MethodName := ⟨RX7, "paceAfter", "(I)I"⟩
abbrev cX7_without : ByteArray := prog_9_method_42_code
def yX7_without : MethodName := ⟨RX7, "without", "(II)I"⟩
abbrev cX7_rested : ByteArray := prog_9_method_43_code
def yX7_rested : MethodName := ⟨RX7, "rested", "(I)I"⟩
abbrev cX7_when : ByteArray := prog_9_method_44_code
def yX7_when : MethodName := ⟨RX7, "when", "(I)I"⟩
abbrev cX7_floor : ByteArray := prog_9_method_45_code
def yX7_floor : MethodName := ⟨RX7, "floor", "(III)I"⟩
abbrev cX7_scale : ByteArray := prog_9_method_46_code
def yX7_scale : MethodName := ⟨RX7, "scale", "(II)I"⟩
abbrev cX7_slant : ByteArray := prog_9_method_47_code
def yX7_slant : MethodName := ⟨RX7, "slant", "(II)I"⟩
abbrev cX7_judge : ByteArray := prog_9_method_48_code
def yX7_judge : MethodName := ⟨RX7, "judge", "(II)I"⟩
abbrev cX7_carry : ByteArray := prog_9_method_49_code
def yX7_carry : MethodName := ⟨RX7, "carry", "(I)I"⟩
abbrev cX7_carryAll : ByteArray := prog_9_method_50_code
def yX7_carryAll : MethodName := ⟨RX7, "carryAll", "()V"⟩
abbrev cX7_image : ByteArray := prog_9_method_51_code
def yX7_image : MethodName := ⟨RX7, "image", "()I"⟩
abbrev cX7_restore : ByteArray := prog_9_method_52_code
def yX7_restore : MethodName := ⟨RX7, "restore", "()I"⟩
abbrev cX7_count : ByteArray := prog_9_method_53_code
def yX7_count : MethodName := ⟨RX7, "count", "(I)I"⟩
abbrev cX7_keep : ByteArray := prog_9_method_54_code
def yX7_keep : MethodName := ⟨RX7, "keep", "(IIII)I"⟩
abbrev cX7_wrongRow : ByteArray := prog_9_method_55_code
def yX7_wrongRow : MethodName := ⟨RX7, "wrongRow", "(I)I"⟩
abbrev cX7_narrowed : ByteArray := prog_9_method_56_code
def yX7_narrowed : MethodName := ⟨RX7, "narrowed", "(II)J"⟩
abbrev cX7_row : ByteArray := prog_9_method_57_code
def yX7_row : MethodName := ⟨RX7, "row", "(III)I"⟩
abbrev cX7_put : ByteArray := prog_9_method_58_code
def yX7_put : MethodName := ⟨RX7, "put", "(III)I"⟩
abbrev cX7_element : ByteArray := prog_9_method_59_code
def yX7_element : MethodName := ⟨RX7, "element", "(II)J"⟩
abbrev cX7_copy : ByteArray := prog_9_method_60_code
def yX7_copy : MethodName := ⟨RX7, "copy", "(IIIII)I"⟩
abbrev cX7_waitOf : ByteArray := prog_9_method_61_code
def yX7_waitOf : MethodName := ⟨RX7, "waitOf", "(I)I"⟩
abbrev cX7_waits : ByteArray := prog_9_method_62_code
def yX7_waits : MethodName := ⟨RX7, "waits", "(I)I"⟩
abbrev cX7_toss : ByteArray := prog_9_method_63_code
def yX7_toss : MethodName := ⟨RX7, "toss", "(I)I"⟩
def RJ9 : String := "java/lang/Math"
def TJ9 : u_T := fun k => match k with
  | _ => ("", "", "", false)
def tyJ9 : Nat → FieldType := fun k => match k with
  | _ => .int
abbrev wsJ90 : List Cond := u_ws RJ9 TJ9 0
theorem nmJ9 : ∀ a, a < 0 → ∀ b, b < 0 → a ≠ b → (TJ9 a).2.1 ≠ (TJ9 b).2.1 := by decide +kernel
theorem tyJ9_ok : ∀ k, k < 0 → parseFieldDescriptor (TJ9 k).2.2.1 = some (tyJ9 k) := by decide +kernel
abbrev cJ9_abs_0f7a4 : ByteArray := prog_13_method_59_code
def yJ9_abs_0f7a4 : MethodName := ⟨RJ9, "abs", "(I)I"⟩
abbrev cJ9_abs_067f4 : ByteArray := prog_13_method_61_code
def yJ9_abs_067f4 : MethodName := ⟨RJ9, "abs", "(J)J"⟩
abbrev cJ9_max_7cf53 : ByteArray := prog_13_method_65_code
def yJ9_max_7cf53 : MethodName := ⟨RJ9, "max", "(II)I"⟩
abbrev cJ9_min_7cf53 : ByteArray := prog_13_method_69_code
def yJ9_min_7cf53 : MethodName := ⟨RJ9, "min", "(II)I"⟩
def RJ0 : String := "java/lang/String"
def TJ0 : u_T := fun k => match k with
  | _ => ("", "", "", false)
def tyJ0 : Nat → FieldType := fun k => match k with
  | _ => .int
abbrev wsJ00 : List Cond := u_ws RJ0 TJ0 0
theorem nmJ0 : ∀ a, a < 0 → ∀ b, b < 0 → a ≠ b → (TJ0 a).2.1 ≠ (TJ0 b).2.1 := by decide +kernel
theorem tyJ0_ok : ∀ k, k < 0 → parseFieldDescriptor (TJ0 k).2.2.1 = some (tyJ0 k) := by decide +kernel
def RJ10 : String := "java/lang/System"
def TJ10 : u_T := fun k => match k with
  | _ => ("", "", "", false)
def tyJ10 : Nat → FieldType := fun k => match k with
  | _ => .int
abbrev wsJ100 : List Cond := u_ws RJ10 TJ10 0
theorem nmJ10 : ∀ a, a < 0 → ∀ b, b < 0 → a ≠ b → (TJ10 a).2.1 ≠ (TJ10 b).2.1 := by decide +kernel
theorem tyJ10_ok : ∀ k, k < 0 → parseFieldDescriptor (TJ10 k).2.2.1 = some (tyJ10 k) := by decide +kernel
def RL : String := "ChainLeapLaw"
abbrev cL_element : ByteArray := method_3_code
def yL_element : MethodName := ⟨RL, "element", "(LChainLeap;II[J)I"⟩
abbrev cL_law : ByteArray := code
def yL_law : MethodName := ⟨RL, "law", "([I)Z"⟩
abbrev vwCl : List vw_C := [(RX0, TX0, 5), (RX1, TX1, 4), (RX2, TX2, 5), (RX3, TX3, 4), (RX4, TX4, 5), (RX5, TX5, 2), (RX6, TX6, 9), (RX7, TX7, 39)]
-- ===== the words that last =====
def gtbl : List Cond := lw_tbl.filter goodWord
theorem gt_of {w : Cond} (i : Nat) (h : lw_tbl[i]? = some w) (hg : goodWord w = true) : w ∈ gtbl := List.mem_filter.mpr ⟨List.mem_of_getElem? h, hg⟩
theorem gt_good {w : Cond} (h : w ∈ gtbl) : (w.onTables && w.keeps) = true ∨ ∃ ty, w = .arrayClass ty := good_of_word (List.mem_filter.mp h).2
theorem gt_in {w : Cond} (h : w ∈ gtbl) : w ∈ lw_tbl := (List.mem_filter.mp h).1
theorem gt_ws (ws : List Cond) (ps : List Nat) (hp : ws = ps.filterMap (fun i => lw_tbl[i]?)) (hg : ws.all goodWord = true) : ∀ w ∈ ws, w ∈ gtbl := by
  intro w hw
  have h1 := List.all_eq_true.mp hg w hw
  rw [hp] at hw
  obtain ⟨i, -, hi⟩ := List.mem_filterMap.mp hw
  exact gt_of i hi h1
theorem gt_GoodIn {y : MethodName} {b : ByteArray} {n : Nat} {r : Option FieldType} (h : Cond.code y b n r ∈ gtbl) : GoodIn gtbl (Cond.code y b n r :: gtbl) := by
  intro w hw
  rcases List.mem_cons.mp hw with rfl | hw
  · exact ⟨h, gt_good h⟩
  · exact ⟨hw, gt_good hw⟩
set_option maxRecDepth 20000 in
theorem inX0 : ∀ w ∈ u_ws RX0 TX0 5, w ∈ gtbl := gt_ws _ [124, 126, 128, 130, 132] (by decide +kernel) (by decide +kernel)
set_option maxRecDepth 20000 in
theorem inX1 : ∀ w ∈ u_ws RX1 TX1 4, w ∈ gtbl := gt_ws _ [211, 213, 215, 217] (by decide +kernel) (by decide +kernel)
set_option maxRecDepth 20000 in
theorem inX2 : ∀ w ∈ u_ws RX2 TX2 5, w ∈ gtbl := gt_ws _ [145, 147, 149, 151, 153] (by decide +kernel) (by decide +kernel)
set_option maxRecDepth 20000 in
theorem inX3 : ∀ w ∈ u_ws RX3 TX3 4, w ∈ gtbl := gt_ws _ [97, 99, 101, 103] (by decide +kernel) (by decide +kernel)
set_option maxRecDepth 20000 in
theorem inX4 : ∀ w ∈ u_ws RX4 TX4 5, w ∈ gtbl := gt_ws _ [187, 189, 191, 193, 195] (by decide +kernel) (by decide +kernel)
set_option maxRecDepth 20000 in
theorem inX5 : ∀ w ∈ u_ws RX5 TX5 2, w ∈ gtbl := gt_ws _ [172, 174] (by decide +kernel) (by decide +kernel)
set_option maxRecDepth 20000 in
theorem inX6 : ∀ w ∈ u_ws RX6 TX6 9, w ∈ gtbl := gt_ws _ [235, 237, 239, 241, 243, 245, 247, 249, 251] (by decide +kernel) (by decide +kernel)
set_option maxRecDepth 20000 in
theorem inX7 : ∀ w ∈ u_ws RX7 TX7 39, w ∈ gtbl := gt_ws _ [799, 801, 803, 805, 807, 809, 811, 813, 815, 817, 819, 821, 823, 825, 827, 829, 831, 833, 835, 837, 839, 841, 843, 845, 847, 849, 851, 853, 855, 857, 859, 861, 863, 865, 867, 869, 871, 873, 875] (by decide +kernel) (by decide +kernel)
end
section
/-! ===== worlds of numbered cells: n cells, the k-th at ad k, holding F k ===== -/
def zW (n : Nat) (ad : Nat → Nat) (F : Nat → va_E) : va_W := (List.range n).map (fun k => (ad k, F k))
theorem zW_get {n k : Nat} {ad : Nat → Nat} {F : Nat → va_E} (h : k < n) : (zW n ad F)[k]? = some (ad k, F k) := by
  simp [zW, h]
theorem zW_getI {n k : Nat} {ad : Nat → Nat} {F : Nat → va_E} {q : Nat × va_E} (h : (zW n ad F)[k]? = some q) : k < n ∧ q = (ad k, F k) := by
  by_cases hk : k < n
  · rw [zW_get hk] at h
    exact ⟨hk, (Option.some.inj h).symm⟩
  · simp [zW, hk] at h
theorem zW_set {n k : Nat} {ad : Nat → Nat} {F : Nat → va_E} {e : va_E} (_ : k < n) : (zW n ad F).set k (ad k, e) = zW n ad (va_up F k e) := by
  apply List.ext_getElem?
  intro j
  rw [List.getElem?_set]
  by_cases hj : k = j
  · subst hj
    simp [zW, va_up, *]
  · have hj' : j ≠ k := fun h => hj h.symm
    simp only [hj, if_false, zW, List.getElem?_map, va_up, hj']
    cases hr : (List.range n)[j]? with
    | none => rfl
    | some q =>
      have : q = j := by
        have := List.getElem?_eq_some_iff.mp hr
        obtain ⟨h1, h2⟩ := this
        simpa using h2.symm
      subst this
      simp [hj']
theorem zW_push {n a : Nat} {ad : Nat → Nat} {F : Nat → va_E} {e : va_E} : zW n ad F ++ [(a, e)] = zW (n + 1) (va_up ad n a) (va_up F n e) := by
  unfold zW
  rw [List.range_succ, List.map_append]
  congr 1
  · apply List.map_congr_left
    intro k hk
    have : k ≠ n := Nat.ne_of_lt (List.mem_range.mp hk)
    simp [va_up, this]
  · simp [va_up]
def zA (n : Nat) (ad : Nat → Nat) (sz : Nat) : Nat → Prop := va_A (zW n ad (fun _ => .inr (0, []))) sz
theorem zA_eq {n sz : Nat} {ad : Nat → Nat} {F : Nat → va_E} : va_A (zW n ad F) sz = zA n ad sz := by
  funext q
  apply propext
  constructor
  · rintro (⟨k, e, h⟩ | h)
    · obtain ⟨h1, h2⟩ := zW_getI h
      cases h2
      exact Or.inl ⟨k, _, zW_get h1⟩
    · exact Or.inr h
  · rintro (⟨k, e, h⟩ | h)
    · obtain ⟨h1, h2⟩ := zW_getI h
      cases h2
      exact Or.inl ⟨k, _, zW_get h1⟩
    · exact Or.inr h
theorem zA_le {n sz q : Nat} {ad : Nat → Nat} (h : sz ≤ q) : zA n ad sz q := Or.inr h
theorem zD_chg {n : Nat} {ad : Nat → Nat} {F F' : Nat → va_E} {A : Nat → Prop} (h : va_D A (zW n ad F)) : va_D A (zW n ad F') := by
  refine ⟨fun i j p q hi hj e => ?_, fun k q hk => ?_⟩
  · obtain ⟨h1, rfl⟩ := zW_getI hi
    obtain ⟨h2, rfl⟩ := zW_getI hj
    exact h.1 i j _ _ (zW_get h1) (zW_get h2) e
  · obtain ⟨h1, rfl⟩ := zW_getI hk
    exact h.2 k (ad k, F k) (zW_get h1)
theorem zA_sub {n sz : Nat} {ad : Nat → Nat} {F : Nat → va_E} {A : Nat → Prop} (h : va_D A (zW n ad F)) (hA : ∀ q, sz ≤ q → A q) : ∀ q, zA n ad sz q → A q := by
  rintro q (⟨k, e, hk⟩ | h1)
  · obtain ⟨h1, h2⟩ := zW_getI hk
    cases h2
    exact h.2 k _ (zW_get h1)
  · exact hA q h1
/-! ===== words of nest mates and of arrays of objects ===== -/
def nestW : Cond → Bool
  | .fieldLinkNest .. => true
  | .methodLinkNest .. => true
  | .arrayOver (.object _) => true
  | _ => false
def zN (U : State) : Prop := ∀ w ∈ lw_tbl, nestW w = true → w.before #[] U = true
theorem zN.warm {s U : State} (hW : s.WarmedH U.vm) (h : zN s) : zN U := by
  intro w hw hn
  have hb := h w hw hn
  match w, hn with
  | .fieldLinkNest _ _ _ _ _ _, _ => exact va_Nw.warmF hW hb
  | .methodLinkNest _ _ _ _, _ => exact va_Nw.warmM hW hb
  | .arrayOver (.object C), _ => exact va_AO.moved hW.alike hb
theorem zN.same {s U : State} (hW : s.vm = U.vm) (h : zN s) : zN U := by
  intro w hw hn
  have hb := h w hw hn
  match w, hn with
  | .fieldLinkNest _ _ _ _ _ _, _ => exact va_Nw.same rfl hW hb
  | .methodLinkNest _ _ _ _, _ => exact va_Nw.same rfl hW hb
  | .arrayOver (.object C), _ => exact va_AO.moved (by rw [hW]; exact Vm.Alike.refl _) hb
/-! ===== what stands all the while, and the heap now ===== -/
def zT (cy : Nat → Nat) : List (ClassId × FieldType) := [(cy 0, .int), (cy 1, .long), (cy 2, .object RX3), (cy 3, .object RX4)]
def zC (p : Program) (m : MethodId) (c : Code) (cc : ByteArray) (nL : Nat) (s : State) (args : Array Value) (own : String) (D : va_G) (cy : Nat → Nat) : Prop :=
  CallFix p m c cc nL s args gtbl own ∧ va_K D vwCl (zT cy) s ∧ zN s
def zH (D : va_G) (A : Nat → Prop) (H0 : Heap) (n : Nat) (ad : Nat → Nat) (F : Nat → va_E) (H : Heap) (locs : List Loc) : Prop :=
  va_P D vwCl (zW n ad F) H ∧ va_D A (zW n ad F) ∧ va_S A H0 H locs
def zw (y : MethodName) (b : ByteArray) (nl : Nat) (ret : Option FieldType) : List Cond := Cond.code y b nl ret :: gtbl
def rmL (k : Nat) : Room := { frames := k, cells := 0, slots := 0, locals := 32 * k }
def zPc (D : va_G) (cy : Nat → Nat) (n : Nat) (ad : Nat → Nat) (F : Nat → va_E) (sz : Nat) (av : List Value) : Array Value → State → Prop :=
  va_Pc av (fun U => U.heap.size = sz ∧ va_P D vwCl (zW n ad F) U.heap ∧ va_K D vwCl (zT cy) U ∧ va_D (fun _ => True) (zW n ad F) ∧ zN U)
def zB (D : va_G) (n : Nat) (ad : Nat → Nat) (F' : Nat → va_E) (t : State) : Prop := va_P D vwCl (zW n ad F') t.heap
theorem zPc.blind {D : va_G} {cy : Nat → Nat} {n : Nat} {ad : Nat → Nat} {F : Nat → va_E} {sz : Nat} {av : List Value} : FrameBlind (zPc D cy n ad F sz av) := by
  rintro a U g mk ⟨h1, h2, h3, h4, h5, h6⟩
  exact ⟨h1, h2, h3, va_K.moved (u := U) (U := U.calling g mk a) (Vm.Alike.refl U.vm) h4, h5, zN.same (s := U) (U := U.calling g mk a) rfl h6⟩
section ZR
variable {p : Program} {l : Launch} {e : Env} {R : Room} {s : State} {m : MethodId} {args : Array Value} {below : List Frame} {meth : Method} {c : Code} {H : Heap} {locs : List Loc} {cells slots : Nat} {Q : State → Prop}
variable {cc : ByteArray} {nL pc : Nat} {ls : Array Slot} {rest : List Value} {D : va_G} {cy : Nat → Nat} {A : Nat → Prop} {H0 : Heap} {own : String} {n : Nat} {ad : Nat → Nat} {F : Nat → va_E}
/-- a method's body, from its entry -/
theorem zmet {y : MethodName} {maxL : Nat} {ret : Option FieldType} {rm : Room} {sz mc ms : Nat} {av : List Value} {Qc : Array Value → State → Outcome → State → Prop} (hy : plainName y.cls = true) (hlen : (lg_sl av).length ≤ maxL)
    (body : ∀ (p : Program) (e : Env) (s : State) (m : MethodId) (args : Array Value) (below : List Frame) (meth : Method) (c : Code) (ls : Array Slot),
      zC p m c cc maxL s args y.cls D cy → s.heap.size = sz → zH D (zA n ad sz) s.heap n ad F s.heap [] → (∀ q, s.heap.size ≤ q → zA n ad sz q) → meth.sig.returnType = ret → meth.locks = false → meth.name = y.name →
      lv_has ls maxL (lv_args 0 av) → W p l e rm s m args below meth c s.heap [] 0 0 (MQ below Qc args s mc ms (zA n ad sz)) (F0 m 0 ls [])) :
    Met l y (zw y cc maxL ret) rm (zPc D cy n ad F sz av) Qc mc ms (zA n ad sz) := by
  refine Met.ofW (cc := cc) (maxL := maxL) (ret := ret) hy rfl ?_
  intro p e s m args below meth c s₁ B hml hv
  obtain ⟨rfl, hsz, hP, hK, hD0, hN⟩ := hv
  have hts := atoms_spec (ws := zw y cc maxL ret) B.pre
  have hown : s.vm.findClass y.cls = some m.cls := findClass_of_methodNamed B.named
  have hl := lv_entry av (n := maxL) hlen
  rw [lg_entry_eq]
  refine body p e s m _ below meth c _ ⟨⟨B.exec, B.bytes, hml, hown, fun w hw => hts w (List.mem_cons_of_mem _ hw)⟩, hK, hN⟩ hsz ⟨hP, ?_, va_S.rf⟩ (fun q h => by rw [hsz] at h; exact zA_le h) B.returns B.notSynchronized (name_of_methodNamed B.named B.method).1 hl
  have := hD0.self (sz := sz)
  rwa [zA_eq] at this
/-! ===== fields ===== -/
def zFld (own : String) (index ci j : Nat) : Prop := ∃ (C : String) (T : u_T) (N : Nat), vwCl[ci]? = some (C, T, N) ∧ (∀ w ∈ u_ws C T N, w ∈ gtbl) ∧ j < N ∧ (T j).1 = C ∧
  (Cond.fieldLink own index C (T j).2.1 (T j).2.2.1 ∈ gtbl ∨ ∃ host, Cond.fieldLinkNest own index C (T j).2.1 (T j).2.2.1 host ∈ lw_tbl)
def zFldP (own : String) (index ci j : Nat) (fin : Bool) (ty : FieldType) : Prop := ∃ (C : String) (T : u_T) (N : Nat) (ty0 : Nat → FieldType), vwCl[ci]? = some (C, T, N) ∧ (∀ w ∈ u_ws C T N, w ∈ gtbl) ∧ j < N ∧ (T j).1 = C ∧
  (Cond.fieldLink own index C (T j).2.1 (T j).2.2.1 ∈ gtbl ∨ (fin = false ∧ ∃ host, Cond.fieldLinkNest own index C (T j).2.1 (T j).2.2.1 host ∈ lw_tbl)) ∧
  (∀ k, k < N → parseFieldDescriptor (T k).2.2.1 = some (ty0 k)) ∧ (∀ a, a < N → ∀ b, b < N → a ≠ b → (T a).2.1 ≠ (T b).2.1) ∧ (T j).2.2.2 = fin ∧ parseFieldDescriptor (T j).2.2.1 = some ty ∧ (fin = true → C = own)
theorem zget (hC : zC p m c cc nL s args own D cy) (hZ : zH D A H0 n ad F H locs) {index ci j k : Nat} (hf : zFld own index ci j) (hk : k < n) {fs : List Value} (hF : F k = .inr (ci, fs)) {v : Value} (hv : fs[j]? = some v) (hd : decode cc pc = .ok (.getfield index, 3))
    (kk : W p l e R s m args below meth c H locs cells slots Q (F0 m (pc + 3) ls (v :: rest))) : W p l e R s m args below meth c H locs cells slots Q (F0 m pc ls (.ref (ad k) :: rest)) := by
  obtain ⟨⟨hx, hb, hml, hown, hts⟩, hK, hN⟩ := hC
  obtain ⟨C, T, N, hc, hin, hj, hcl, hl⟩ := hf
  have he : (zW n ad F)[k]? = some (ad k, .inr (ci, fs)) := by rw [zW_get hk, hF]
  subst hcl
  rcases hl with hl | ⟨host, hl⟩
  · exact va_get (ref := (T j).1) hx hb hts hin hown hK hZ.1 k he hc j hj (hts _ hl) (fun _ h => h) hv hd kk
  · exact va_getN (ref := (T j).1) hx hb hts hin hown hK hZ.1 k he hc j hj (va_Nw.use rfl (hN _ hl rfl)) (fun _ h => h) hv hd kk
theorem zput (hC : zC p m c cc nL s args own D cy) (hZ : zH D A H0 n ad F H locs) {index ci j k : Nat} {ty : FieldType} (hf : zFldP own index ci j false ty) (hk : k < n) {fs : List Value} (hF : F k = .inr (ci, fs)) {v : Value} {E : va_E} (hE : (.inr (ci, fs.set j v) : va_E) = E) (hn : narrow ty v = v) (hfit : fits ty v = true) (hl : j < fs.length) (hd : decode cc pc = .ok (.putfield index, 3))
    (kk : ∀ (F1 : Nat → va_E), F1 = va_up F k E → ∀ (H1 : Heap) (locs1 : List Loc), zH D A H0 n ad F1 H1 locs1 → W p l e R s m args below meth c H1 locs1 cells slots Q (F0 m (pc + 3) ls rest)) : W p l e R s m args below meth c H locs cells slots Q (F0 m pc ls (v :: .ref (ad k) :: rest)) := by
  subst hE
  obtain ⟨⟨hx, hb, hml, hown, hts⟩, hK, hN⟩ := hC
  obtain ⟨C, T, N, ty0, hc, hin, hj, hcl, hl, hty, hnm, hfin, hpd, -⟩ := hf
  have he : (zW n ad F)[k]? = some (ad k, .inr (ci, fs)) := by rw [zW_get hk, hF]
  subst hcl
  have go : ∀ (H1 : Heap) (locs1 : List Loc), va_P D vwCl ((zW n ad F).set k (ad k, .inr (ci, fs.set j v))) H1 → va_D A ((zW n ad F).set k (ad k, .inr (ci, fs.set j v))) → va_S A H0 H1 locs1 → W p l e R s m args below meth c H1 locs1 cells slots Q (F0 m (pc + 3) ls rest) := by
    intro H1 locs1 h1 h2 h3
    rw [zW_set hk] at h1 h2
    exact kk _ rfl H1 locs1 ⟨h1, h2, h3⟩
  rcases hl with hl | ⟨-, host, hl⟩
  · exact va_put (ref := (T j).1) hx hb hts hin ty0 hty hnm hown hK hZ.1 hZ.2.1 hZ.2.2 k he hc j hj (hts _ hl) (fun _ h => h) hfin hpd hn hfit (by assumption) hd go
  · exact va_putN (ref := (T j).1) hx hb hts hin ty0 hty hnm hown hK hZ.1 hZ.2.1 hZ.2.2 k he hc j hj (va_Nw.use rfl (hN _ hl rfl)) (fun _ h => h) hfin hpd hn hfit (by assumption) hd go
theorem zputF (hC : zC p m c cc nL s args own D cy) (hZ : zH D A H0 n ad F H locs) (hin2 : meth.name = "<init>") {index ci j k : Nat} {ty : FieldType} (hf : zFldP own index ci j true ty) (hk : k < n) {fs : List Value} (hF : F k = .inr (ci, fs)) {v : Value} {E : va_E} (hE : (.inr (ci, fs.set j v) : va_E) = E) (hn : narrow ty v = v) (hfit : fits ty v = true) (hl : j < fs.length) (hd : decode cc pc = .ok (.putfield index, 3))
    (kk : ∀ (F1 : Nat → va_E), F1 = va_up F k E → ∀ (H1 : Heap) (locs1 : List Loc), zH D A H0 n ad F1 H1 locs1 → W p l e R s m args below meth c H1 locs1 cells slots Q (F0 m (pc + 3) ls rest)) : W p l e R s m args below meth c H locs cells slots Q (F0 m pc ls (v :: .ref (ad k) :: rest)) := by
  subst hE
  obtain ⟨⟨hx, hb, hml, hown, hts⟩, hK, hN⟩ := hC
  obtain ⟨C, T, N, ty0, hc, hin, hj, hcl, hl, hty, hnm, hfin, hpd, ho⟩ := hf
  have he : (zW n ad F)[k]? = some (ad k, .inr (ci, fs)) := by rw [zW_get hk, hF]
  subst hcl
  have go : ∀ (H1 : Heap) (locs1 : List Loc), va_P D vwCl ((zW n ad F).set k (ad k, .inr (ci, fs.set j v))) H1 → va_D A ((zW n ad F).set k (ad k, .inr (ci, fs.set j v))) → va_S A H0 H1 locs1 → W p l e R s m args below meth c H1 locs1 cells slots Q (F0 m (pc + 3) ls rest) := by
    intro H1 locs1 h1 h2 h3
    rw [zW_set hk] at h1 h2
    exact kk _ rfl H1 locs1 ⟨h1, h2, h3⟩
  rcases hl with hl | ⟨h, -⟩
  · exact va_putF (ref := (T j).1) hx hb hts hin ty0 hty hnm hown hK hZ.1 hZ.2.1 hZ.2.2 k he hc j hj (hts _ hl) (fun _ h => h) hfin hin2 (ho rfl) hpd hn hfit (by assumption) hd go
  · cases h
/-! ===== arrays ===== -/
theorem ziald (hC : zC p m c cc nL s args own D cy) (hZ : zH D A H0 n ad F H locs) {k N : Nat} (hk : k < n) {f : Nat → Int32} (hF : F k = .inl (cy 0, N, .inl f)) {i : Int32} {x : Nat} (hi : i = nI x) (hx : x < N) (hN : N < 2 ^ 31) (hd : decode cc pc = .ok (.iaload, 1))
    (kk : W p l e R s m args below meth c H locs cells slots Q (F0 m (pc + 1) ls (.int (f x) :: rest))) : W p l e R s m args below meth c H locs cells slots Q (F0 m pc ls (.int i :: .ref (ad k) :: rest)) := by
  obtain ⟨⟨hx0, hb, hml, hown, hts⟩, hK, hNN⟩ := hC
  subst hi
  have he : (zW n ad F)[k]? = some (ad k, .inl (cy 0, N, .inl f)) := by rw [zW_get hk, hF]
  refine va_iald hx0 hb hK hZ.1 k 0 he rfl (vp_in_nI hx hN) hd ?_
  rw [nI_clamp (Nat.lt_trans hx hN)]
  exact kk
theorem zlald (hC : zC p m c cc nL s args own D cy) (hZ : zH D A H0 n ad F H locs) {k N : Nat} (hk : k < n) {f : Nat → Int64} (hF : F k = .inl (cy 1, N, .inr (.inl f))) {i : Int32} {x : Nat} (hi : i = nI x) (hx : x < N) (hN : N < 2 ^ 31) (hd : decode cc pc = .ok (.laload, 1))
    (kk : W p l e R s m args below meth c H locs cells slots Q (F0 m (pc + 1) ls (.long (f x) :: rest))) : W p l e R s m args below meth c H locs cells slots Q (F0 m pc ls (.int i :: .ref (ad k) :: rest)) := by
  obtain ⟨⟨hx0, hb, hml, hown, hts⟩, hK, hNN⟩ := hC
  subst hi
  have he : (zW n ad F)[k]? = some (ad k, .inl (cy 1, N, .inr (.inl f))) := by rw [zW_get hk, hF]
  refine va_lald hx0 hb hK hZ.1 k 1 he rfl (vp_in_nI hx hN) hd ?_
  rw [nI_clamp (Nat.lt_trans hx hN)]
  exact kk
theorem zaald (hC : zC p m c cc nL s args own D cy) (hZ : zH D A H0 n ad F H locs) {k N t q : Nat} (hk : k < n) {f : Nat → Option Nat} (hF : F k = .inl (cy t, N, .inr (.inr (.inr (.inr f))))) {C : String} (ht : (zT cy)[t]? = some (cy t, .object C)) {i : Int32} {x : Nat} (hi : i = nI x) (hx : x < N) (hN : N < 2 ^ 31) (hq : f x = some q) (hd : decode cc pc = .ok (.aaload, 1))
    (kk : W p l e R s m args below meth c H locs cells slots Q (F0 m (pc + 1) ls (.ref q :: rest))) : W p l e R s m args below meth c H locs cells slots Q (F0 m pc ls (.int i :: .ref (ad k) :: rest)) := by
  obtain ⟨⟨hx0, hb, hml, hown, hts⟩, hK, hNN⟩ := hC
  subst hi
  have he : (zW n ad F)[k]? = some (ad k, .inl (cy t, N, .inr (.inr (.inr (.inr f))))) := by rw [zW_get hk, hF]
  refine va_aldq hx0 hb hK hZ.1 k t he ht (vp_in_nI hx hN) hd ?_
  rw [nI_clamp (Nat.lt_trans hx hN), hq]
  exact kk
theorem ziast (hC : zC p m c cc nL s args own D cy) (hZ : zH D A H0 n ad F H locs) {k N : Nat} (hk : k < n) {f : Nat → Int32} (hF : F k = .inl (cy 0, N, .inl f)) {i v : Int32} {x : Nat} (hi : i = nI x) (hx : x < N) (hN : N < 2 ^ 31) (hd : decode cc pc = .ok (.iastore, 1))
    (kk : ∀ (F1 : Nat → va_E), F1 = va_up F k (.inl (cy 0, N, .inl (upd f x v))) → ∀ (H1 : Heap) (locs1 : List Loc), zH D A H0 n ad F1 H1 locs1 → W p l e R s m args below meth c H1 locs1 cells slots Q (F0 m (pc + 1) ls rest)) : W p l e R s m args below meth c H locs cells slots Q (F0 m pc ls (.int v :: .int i :: .ref (ad k) :: rest)) := by
  obtain ⟨⟨hx0, hb, hml, hown, hts⟩, hK, hNN⟩ := hC
  subst hi
  have he : (zW n ad F)[k]? = some (ad k, .inl (cy 0, N, .inl f)) := by rw [zW_get hk, hF]
  refine va_iast hx0 hb hK hZ.1 hZ.2.1 hZ.2.2 k 0 he rfl (vp_in_nI hx hN) hd (fun H1 locs1 h1 h2 h3 => ?_)
  rw [zW_set hk, nI_clamp (Nat.lt_trans hx hN)] at h1 h2
  exact kk _ rfl H1 locs1 ⟨h1, h2, h3⟩
theorem zlast (hC : zC p m c cc nL s args own D cy) (hZ : zH D A H0 n ad F H locs) {k N : Nat} (hk : k < n) {f : Nat → Int64} (hF : F k = .inl (cy 1, N, .inr (.inl f))) {i : Int32} {v : Int64} {x : Nat} (hi : i = nI x) (hx : x < N) (hN : N < 2 ^ 31) (hd : decode cc pc = .ok (.lastore, 1))
    (kk : ∀ (F1 : Nat → va_E), F1 = va_up F k (.inl (cy 1, N, .inr (.inl (vp_updL f x v)))) → ∀ (H1 : Heap) (locs1 : List Loc), zH D A H0 n ad F1 H1 locs1 → W p l e R s m args below meth c H1 locs1 cells slots Q (F0 m (pc + 1) ls rest)) : W p l e R s m args below meth c H locs cells slots Q (F0 m pc ls (.long v :: .int i :: .ref (ad k) :: rest)) := by
  obtain ⟨⟨hx0, hb, hml, hown, hts⟩, hK, hNN⟩ := hC
  subst hi
  have he : (zW n ad F)[k]? = some (ad k, .inl (cy 1, N, .inr (.inl f))) := by rw [zW_get hk, hF]
  refine va_last hx0 hb hK hZ.1 hZ.2.1 hZ.2.2 k 1 he rfl (vp_in_nI hx hN) hd (fun H1 locs1 h1 h2 h3 => ?_)
  rw [zW_set hk, nI_clamp (Nat.lt_trans hx hN)] at h1 h2
  exact kk _ rfl H1 locs1 ⟨h1, h2, h3⟩
/-! ===== ends ===== -/
theorem zend {A : Nat → Prop} {F' : Nat → va_E} (hZ : zH D A s.heap n ad F' H locs) {t : State} (ht : t.heap = H) : zB D n ad F' t ∧ va_F A s t := ⟨by show va_P _ _ _ _; rw [ht]; exact hZ.1, hZ.2.2.F ht⟩
theorem zireti {A : Nat → Prop} (hC : zC p m c cc nL s args own D cy) (hZ : zH D A s.heap n ad F H locs) (hr : meth.sig.returnType = some .int) (hlocks : meth.locks = false) {v : Int32} {φ : Int32 → (Nat → va_E) → Prop} (hφ : φ v F) (hd : decode cc pc = .ok (.ireturn, 1)) :
    W p l e R s m args below meth c H locs cells slots (MQ below (va_Qi φ (zB D n ad) A) args s cells slots A) (F0 m pc ls [.int v]) :=
  W.iret hC.1.1 hC.1.2.1 hr (fun t ht _ => ⟨⟨v, F, rfl, hφ, (zend hZ ht).1⟩, (zend hZ ht).2⟩) hZ.2.2.2.2 hd hlocks
theorem zbreti {A : Nat → Prop} (hC : zC p m c cc nL s args own D cy) (hZ : zH D A s.heap n ad F H locs) (hr : meth.sig.returnType = some .boolean) (hlocks : meth.locks = false) {v : Int32} (hv : narrow .boolean (.int v) = .int v) {φ : Int32 → (Nat → va_E) → Prop} (hφ : φ v F) (hd : decode cc pc = .ok (.ireturn, 1)) :
    W p l e R s m args below meth c H locs cells slots (MQ below (va_Qi φ (zB D n ad) A) args s cells slots A) (F0 m pc ls [.int v]) :=
  W.zret hC.1.1 hC.1.2.1 hr hv (fun t ht _ => ⟨⟨v, F, rfl, hφ, (zend hZ ht).1⟩, (zend hZ ht).2⟩) hZ.2.2.2.2 hd hlocks
theorem zlret {A : Nat → Prop} (hC : zC p m c cc nL s args own D cy) (hZ : zH D A s.heap n ad F H locs) (hr : meth.sig.returnType = some .long) (hlocks : meth.locks = false) {v : Int64} {φ : Int64 → (Nat → va_E) → Prop} (hφ : φ v F) (hd : decode cc pc = .ok (.lreturn, 1)) :
    W p l e R s m args below meth c H locs cells slots (MQ below (va_Ql φ (zB D n ad) A) args s cells slots A) (F0 m pc ls [.long v]) :=
  W.lret hC.1.1 hC.1.2.1 hr (fun t ht _ => ⟨⟨v, F, rfl, hφ, (zend hZ ht).1⟩, (zend hZ ht).2⟩) hZ.2.2.2.2 hd hlocks
theorem zvret {A : Nat → Prop} (hC : zC p m c cc nL s args own D cy) (hZ : zH D A s.heap n ad F H locs) (hr : meth.sig.returnType = none) (hlocks : meth.locks = false) {φ : (Nat → va_E) → Prop} (hφ : φ F) (hd : decode cc pc = .ok (.return_, 1)) :
    W p l e R s m args below meth c H locs cells slots (MQ below (va_Qv φ (zB D n ad) A) args s cells slots A) (F0 m pc ls []) :=
  W.vret hC.1.1 hC.1.2.1 hr (fun t ht _ => ⟨⟨F, rfl, hφ, (zend hZ ht).1⟩, (zend hZ ht).2⟩) hZ.2.2.2.2 hd hlocks
/-! ===== calls ===== -/
def zMd (y : MethodName) (b : ByteArray) (nl : Nat) (ret : Option FieldType) (na : Nat) : Prop :=
  (y.cls ≠ "java/lang/invoke/MethodHandle" ∧ y.cls ≠ "java/lang/invoke/VarHandle" ∧ (parseMethodDescriptor y.desc).map (fun d => d.parameters.length) = some na) ∧ Cond.code y b nl ret ∈ gtbl ∧ Cond.initialized y.cls ∈ gtbl ∧ nl ≤ 13
def zMi (y : MethodName) : Prop := Cond.instanceMethod y ∈ gtbl ∧ Cond.selects y.cls y y ∈ gtbl
def zLk (own : String) (index : Nat) (y : MethodName) : Prop := Cond.methodLink own index y ∈ gtbl ∨ ∃ host, Cond.methodLinkNest own index y host ∈ lw_tbl
def zRj (R : Room) (j : Nat) : Prop := j + 1 ≤ R.frames ∧ 32 * (j + 1) ≤ R.locals
theorem zRj_of {k j : Nat} (h : Nat.ble (j + 1) k = true) : zRj (rmL k) j := by
  have := Nat.le_of_ble_eq_true h
  refine ⟨this, ?_⟩
  show 32 * (j + 1) ≤ 32 * k
  omega
theorem zcB {y : MethodName} {b : ByteArray} {nl na j : Nat} {ret : Option FieldType} {index : Nat} (hts : ∀ w ∈ gtbl, w.before args s = true) (hmd : zMd y b nl ret na) (hlk : Cond.methodLink own index y ∈ gtbl) (hR : zRj R j) :
    CallB R s args own index y b nl ret (zw y b nl ret) (rmL j) 0 0 na := by
  obtain ⟨h1, h2, h3, h4⟩ := hmd
  exact callB_of na hts (gt_GoodIn h2) rfl rfl rfl (hts _ h3) (hts _ hlk) h1 ⟨hR.1, by have := hR.2; show 8 + (nl + 11) + 32 * j ≤ _; omega⟩
theorem zcN {y : MethodName} {b : ByteArray} {nl na j : Nat} {ret : Option FieldType} {index : Nat} {host : String} (hts : ∀ w ∈ gtbl, w.before args s = true) (hN : zN s) (hmd : zMd y b nl ret na) (hlk : Cond.methodLinkNest own index y host ∈ lw_tbl) (hR : zRj R j) :
    va_CN R s args own index y host b nl ret (zw y b nl ret) (rmL j) 0 0 na := by
  obtain ⟨h1, h2, h3, h4⟩ := hmd
  exact va_cnB na hts (gt_GoodIn h2) rfl rfl rfl (hN _ hlk rfl) (hts _ h3) h1 ⟨hR.1, by have := hR.2; show 8 + (nl + 11) + 32 * j ≤ _; omega⟩
theorem zpre (hC : zC p m c cc nL s args own D cy) (hZ : zH D A H0 n ad F H locs) {av : List Value} : ∀ U : State, U.heap = H → s.WarmedH U.vm → zPc D cy n ad F H.size av av.toArray U :=
  fun U hU hW => ⟨rfl, by rw [hU], by rw [hU]; exact hZ.1, va_K.moved hW.alike hC.2.1, hZ.2.1.weaken (fun _ _ _ _ => trivial), hC.2.2.warm hW⟩
theorem zrunV (hC : zC p m c cc nL s args own D cy) (hZ : zH D A H0 n ad F H locs) {y : MethodName} {b : ByteArray} {nl na j k index : Nat} {ret : Option FieldType} {As : List Value} {Qc : Array Value → State → Outcome → State → Prop} {free : Addr → Prop} {st0 : List Value}
    (hM : Met l y (zw y b nl ret) (rmL j) (zPc D cy n ad F H.size (.ref (ad k) :: As)) Qc 0 0 free) (hmd : zMd y b nl ret na) (hmi : zMi y) (hlk : zLk own index y) (hR : zRj R j) (hk : k < n) {ci : Nat} {fs : List Value} (hF : F k = .inr (ci, fs)) {T : u_T} {N : Nat} (hc : vwCl[ci]? = some (y.cls, T, N))
    (hn : As.length = na) (hsize : ls.size = nL) (hst : st0 = As.reverse ++ .ref (ad k) :: rest) (hW : (rest.map fun v => v.category).sum ≤ 8) (hd : decode cc pc = .ok (.invokevirtual index, 3)) (hf : cells ≤ R.cells ∧ slots ≤ R.slots) :
    va_Run p l e R s m args below meth c H locs cells slots 0 0 (F0 m pc ls st0) rest (Qc (Value.ref (ad k) :: As).toArray) free := by
  have hPre : PreV s H y.cls (ad k) (zPc D cy n ad F H.size (.ref (ad k) :: As)) As := ⟨zPc.blind, va_recv hC.2.1 hZ.1 (q0 := k) hc (by rw [zW_get hk, hF]), zpre hC hZ⟩
  have hts := hC.1.2.2.2.2
  rcases hlk with hlk | ⟨host, hlk⟩
  · exact va_runV hC.1 hM ⟨zcB hts hmd hlk hR, hts _ hmi.1, hts _ hmi.2⟩ hPre rfl hn hsize hst (lv_room hW) hd hf
  · exact va_runVN hC.1 hM ⟨zcN hts hC.2.2 hmd hlk hR, hts _ hmi.1, hts _ hmi.2⟩ hPre rfl hn hsize hst (lv_room hW) hd hf
theorem zrunS (hC : zC p m c cc nL s args own D cy) (hZ : zH D A H0 n ad F H locs) {y : MethodName} {b : ByteArray} {nl na j index : Nat} {ret : Option FieldType} {As : List Value} {Qc : Array Value → State → Outcome → State → Prop} {free : Addr → Prop} {st0 : List Value}
    (hM : Met l y (zw y b nl ret) (rmL j) (zPc D cy n ad F H.size As) Qc 0 0 free) (hmd : zMd y b nl ret na) (hms : Cond.static y ∈ gtbl) (hlk : zLk own index y) (hR : zRj R j)
    (hn : As.length = na) (hsize : ls.size = nL) (hst : st0 = As.reverse ++ rest) (hW : (rest.map fun v => v.category).sum ≤ 8) (hd : decode cc pc = .ok (.invokestatic index, 3)) (hf : cells ≤ R.cells ∧ slots ≤ R.slots) :
    va_Run p l e R s m args below meth c H locs cells slots 0 0 (F0 m pc ls st0) rest (Qc As.toArray) free := by
  have hPre : PreS s H (zPc D cy n ad F H.size As) As := ⟨zPc.blind, zpre hC hZ⟩
  have hts := hC.1.2.2.2.2
  rcases hlk with hlk | ⟨host, hlk⟩
  · exact va_runS hC.1 hM ⟨zcB hts hmd hlk hR, hts _ hms⟩ hPre rfl hn hsize hst (lv_room hW) hd hf
  · exact va_runSN hC.1 hM ⟨zcN hts hC.2.2 hmd hlk hR, hts _ hms, trivial⟩ hPre rfl hn hsize hst (lv_room hW) hd hf
theorem zgoi (hZ : zH D A H0 n ad F H locs) (hA : ∀ q, H0.size ≤ q → A q) {st0 : List Value} {a : Array Value} {φ : Int32 → (Nat → va_E) → Prop}
    (hr : va_Run p l e R s m args below meth c H locs cells slots 0 0 (F0 m pc ls st0) rest (va_Qi φ (zB D n ad) (zA n ad H.size) a) (zA n ad H.size))
    (kk : ∀ (r : Int32) (F1 : Nat → va_E), φ r F1 → ∀ (H1 : Heap) (locs1 : List Loc), zH D A H0 n ad F1 H1 locs1 → W p l e R s m args below meth c H1 locs1 cells slots Q (F0 m (pc + 3) ls (.int r :: rest))) : W p l e R s m args below meth c H locs cells slots Q (F0 m pc ls st0) :=
  va_calli hr hZ.2.2 (fun q _ h => zA_sub hZ.2.1 (fun q h => hA q (Nat.le_trans hZ.2.2.1 h)) q h) (fun q h => zA_sub hZ.2.1 (fun q h => hA q (Nat.le_trans hZ.2.2.1 h)) q h)
    (fun r u t H1 locs1 ht _ hp hb _ _ hS => kk r u hp H1 locs1 ⟨by rw [← ht]; exact hb, zD_chg hZ.2.1, hS⟩)
theorem zgol (hZ : zH D A H0 n ad F H locs) (hA : ∀ q, H0.size ≤ q → A q) {st0 : List Value} {a : Array Value} {φ : Int64 → (Nat → va_E) → Prop}
    (hr : va_Run p l e R s m args below meth c H locs cells slots 0 0 (F0 m pc ls st0) rest (va_Ql φ (zB D n ad) (zA n ad H.size) a) (zA n ad H.size))
    (kk : ∀ (r : Int64) (F1 : Nat → va_E), φ r F1 → ∀ (H1 : Heap) (locs1 : List Loc), zH D A H0 n ad F1 H1 locs1 → W p l e R s m args below meth c H1 locs1 cells slots Q (F0 m (pc + 3) ls (.long r :: rest))) : W p l e R s m args below meth c H locs cells slots Q (F0 m pc ls st0) :=
  va_calll hr hZ.2.2 (fun q _ h => zA_sub hZ.2.1 (fun q h => hA q (Nat.le_trans hZ.2.2.1 h)) q h) (fun q h => zA_sub hZ.2.1 (fun q h => hA q (Nat.le_trans hZ.2.2.1 h)) q h)
    (fun r u t H1 locs1 ht _ hp hb _ _ hS => kk r u hp H1 locs1 ⟨by rw [← ht]; exact hb, zD_chg hZ.2.1, hS⟩)
theorem zgov (hZ : zH D A H0 n ad F H locs) (hA : ∀ q, H0.size ≤ q → A q) {st0 : List Value} {a : Array Value} {φ : (Nat → va_E) → Prop}
    (hr : va_Run p l e R s m args below meth c H locs cells slots 0 0 (F0 m pc ls st0) rest (va_Qv φ (zB D n ad) (zA n ad H.size) a) (zA n ad H.size))
    (kk : ∀ (F1 : Nat → va_E), φ F1 → ∀ (H1 : Heap) (locs1 : List Loc), zH D A H0 n ad F1 H1 locs1 → W p l e R s m args below meth c H1 locs1 cells slots Q (F0 m (pc + 3) ls rest)) : W p l e R s m args below meth c H locs cells slots Q (F0 m pc ls st0) :=
  va_callv hr hZ.2.2 (fun q _ h => zA_sub hZ.2.1 (fun q h => hA q (Nat.le_trans hZ.2.2.1 h)) q h) (fun q h => zA_sub hZ.2.1 (fun q h => hA q (Nat.le_trans hZ.2.2.1 h)) q h)
    (fun u t H1 locs1 ht _ hp hb _ _ hS => kk u hp H1 locs1 ⟨by rw [← ht]; exact hb, zD_chg hZ.2.1, hS⟩)
/-! ===== Math ===== -/
def zMath (own : String) (index : Nat) (y : MethodName) (b : ByteArray) (nl : Nat) (ret : Option FieldType) : Prop := Cond.methodLink own index y ∈ gtbl ∧ Cond.static y ∈ gtbl ∧ Cond.initialized "java/lang/Math" ∈ gtbl ∧ Cond.code y b nl ret ∈ gtbl
theorem zmax (hC : zC p m c cc nL s args own D cy) {index : Nat} (hm : zMath own index Lib.Math.max.name Lib.Math.max.code 2 (some .int)) (hsize : ls.size = nL) (hR : zRj R 0) (hW : (rest.map fun v => v.category).sum ≤ 8) (hf : cells ≤ R.cells ∧ slots ≤ R.slots) {x y : Int32} (hd : decode cc pc = .ok (.invokestatic index, 3))
    (kk : W p l e R s m args below meth c H locs cells slots Q (F0 m (pc + 3) ls (.int (if x < y then y else x) :: rest))) : W p l e R s m args below meth c H locs cells slots Q (F0 m pc ls (.int y :: .int x :: rest)) := by
  obtain ⟨⟨hx0, hb, hml, hown, hts⟩, hK, hNN⟩ := hC
  exact va_mmax hx0 hb (by rw [hml, hsize]) hown (hts _ hm.1) (hts _ hm.2.1) (hts _ hm.2.2.1) (hts _ hm.2.2.2) (by have := hR.1; omega) (by have := hR.2; omega) hf.1 hf.2 hd kk
theorem zmin (hC : zC p m c cc nL s args own D cy) {index : Nat} (hm : zMath own index Lib.Math.min.name Lib.Math.min.code 2 (some .int)) (hsize : ls.size = nL) (hR : zRj R 0) (hW : (rest.map fun v => v.category).sum ≤ 8) (hf : cells ≤ R.cells ∧ slots ≤ R.slots) {x y : Int32} (hd : decode cc pc = .ok (.invokestatic index, 3))
    (kk : W p l e R s m args below meth c H locs cells slots Q (F0 m (pc + 3) ls (.int (if y < x then y else x) :: rest))) : W p l e R s m args below meth c H locs cells slots Q (F0 m pc ls (.int y :: .int x :: rest)) := by
  obtain ⟨⟨hx0, hb, hml, hown, hts⟩, hK, hNN⟩ := hC
  exact va_mmin hx0 hb (by rw [hml, hsize]) hown (hts _ hm.1) (hts _ hm.2.1) (hts _ hm.2.2.1) (hts _ hm.2.2.2) (by have := hR.1; omega) (by have := hR.2; omega) hf.1 hf.2 hd kk
theorem zabs (hC : zC p m c cc nL s args own D cy) {index : Nat} (hm : zMath own index Lib.Math.abs.name Lib.Math.abs.code 1 (some .int)) (hsize : ls.size = nL) (hR : zRj R 0) (hW : (rest.map fun v => v.category).sum ≤ 8) (hf : cells ≤ R.cells ∧ slots ≤ R.slots) {x : Int32} (hd : decode cc pc = .ok (.invokestatic index, 3))
    (kk : W p l e R s m args below meth c H locs cells slots Q (F0 m (pc + 3) ls (.int (if 0 ≤ x then x else 0 - x) :: rest))) : W p l e R s m args below meth c H locs cells slots Q (F0 m pc ls (.int x :: rest)) := by
  obtain ⟨⟨hx0, hb, hml, hown, hts⟩, hK, hNN⟩ := hC
  exact va_mabs hx0 hb (by rw [hml, hsize]) hown (hts _ hm.1) (hts _ hm.2.1) (hts _ hm.2.2.1) (hts _ hm.2.2.2) (by have := hR.1; omega) (by have := hR.2; omega) hf.1 hf.2 hd kk
/-! ===== loops and joins: X is what varies ===== -/
theorem zlp {X : Type} (pc : Nat) (st : X → List Value) (φ : X → Array Slot → (Nat → va_E) → Prop) (μ : X → Nat)
    (step : ∀ x : X, (∀ (y : X) (ls : Array Slot) (F : Nat → va_E) (H : Heap) (locs : List Loc), μ y < μ x → zH D A H0 n ad F H locs → φ y ls F → W p l e R s m args below meth c H locs cells slots Q (F0 m pc ls (st y))) →
      ∀ (ls : Array Slot) (F : Nat → va_E) (H : Heap) (locs : List Loc), zH D A H0 n ad F H locs → φ x ls F → W p l e R s m args below meth c H locs cells slots Q (F0 m pc ls (st x)))
    (x : X) (hZ : zH D A H0 n ad F H locs) (h : φ x ls F) : W p l e R s m args below meth c H locs cells slots Q (F0 m pc ls (st x)) := by
  have key : ∀ (N : Nat) (x : X), μ x < N → ∀ (ls : Array Slot) (F : Nat → va_E) (H : Heap) (locs : List Loc), zH D A H0 n ad F H locs → φ x ls F → W p l e R s m args below meth c H locs cells slots Q (F0 m pc ls (st x)) := by
    intro N
    induction N with
    | zero => intro x hx; exact absurd hx (Nat.not_lt_zero _)
    | succ N ih => intro x hx; exact step x (fun y ls F H locs hy => ih y (by omega) ls F H locs)
  exact key (μ x + 1) x (Nat.lt_succ_self _) ls F H locs hZ h
theorem zjn {X : Type} {g : JFrame} (pc : Nat) (st : X → List Value) (φ : X → Array Slot → (Nat → va_E) → Prop)
    (k : ∀ (x : X) (ls : Array Slot) (F : Nat → va_E) (H : Heap) (locs : List Loc), zH D A H0 n ad F H locs → φ x ls F → W p l e R s m args below meth c H locs cells slots Q (F0 m pc ls (st x)))
    (f : (∀ (x : X) (ls : Array Slot) (F : Nat → va_E) (H : Heap) (locs : List Loc), zH D A H0 n ad F H locs → φ x ls F → W p l e R s m args below meth c H locs cells slots Q (F0 m pc ls (st x))) → W p l e R s m args below meth c H locs cells slots Q g) :
    W p l e R s m args below meth c H locs cells slots Q g := f k
end ZR
end
section
/-! ===== the words of the document, over Int32 ===== -/
abbrev Stg := Int32 × Int32 × Int32 × Int32
abbrev Tal := Int32 × Int32
abbrev Crs := Int32 × Int32 × Int32 × Int32 × Int32
abbrev oCourse (c : Crs) : va_E := .inr (0, [.int c.1, .int c.2.1, .int c.2.2.1, .int c.2.2.2.1, .int c.2.2.2.2])
abbrev oSetting (t : Stg) : va_E := .inr (3, [.int t.1, .int t.2.1, .int t.2.2.1, .int t.2.2.2])
abbrev oTale (t : Tal) : va_E := .inr (5, [.int t.1, .int t.2])
theorem zeq {F F1 : Nat → va_E} {k : Nat} {E : va_E} (h : F1 = va_up F k E) : F1 k = E := by rw [h]; exact va_up_self _ _ _
theorem zne {F F1 : Nat → va_E} {k j : Nat} {E c : va_E} (h : F1 = va_up F k E) (hj : j ≠ k) (hc : F j = c) : F1 j = c := by rw [h, va_up_ne _ _ hj]; exact hc
theorem znu {F F1 : Nat → va_E} {k j : Nat} {E : va_E} (h : F1 = va_up F k E) (hj : j ≠ k) : F1 j = F j := by rw [h, va_up_ne _ _ hj]
theorem zlt {n k N : Nat} (hn : N ≤ n) (h : Nat.ble (k + 1) N = true) : k < n := Nat.lt_of_lt_of_le (Nat.le_of_ble_eq_true h) hn
def sKK (t : Tal) (b : Stg) : Int32 := t.2 * b.1 / 100
def sKT (t : Tal) (b : Stg) : Int32 := if b.2.2.1 = 0 then t.2 / 2 else if b.2.2.1 = 1 then t.2 else 0
def sKick (t : Tal) (b : Stg) : Int32 := if t.1 = 1 ∨ t.1 = 4 then sKK t b else if t.1 = 2 then sKK t b * (100 - b.2.1) / 100 else if t.1 = 3 then sKT t b else if t.1 = 6 then sKK t b / 2 else 0
def sDraw (t : Tal) : Int32 := if t.1 = 4 then t.2 else 0
def sHold (t : Tal) : Int32 := if t.1 = 5 then t.2 else if t.1 = 6 then t.2 / 4 else 0
def sLess (t : Tal) (b : Stg) : Int32 := 100 - sKick t b - sDraw t + sHold t
def sArchAt (t : Tal) (b : Stg) (sl : Int32) : Int32 := if sLess t b ≤ 0 then -4 else sKick t b * b.2.2.2 * (100 - sl) / (sLess t b * 100)
def sWK (t : Tal) : Int32 := 4 + t.2
def sWT (t : Tal) : Int32 := 4 - t.2
def sWait (t : Tal) : Int32 := if t.1 = 1 then sWK t else if t.1 = 2 then 2 * sWK t else if t.1 = 3 then sWT t else if t.1 = 4 then sWK t + 9 else if t.1 = 5 then 4 * t.2 else if t.1 = 6 then sWK t / 2 else if t.1 = 7 then sWT t + 1 else 4
def sMax (x y : Int32) : Int32 := if x < y then y else x
def sMin (x y : Int32) : Int32 := if y < x then y else x
/-- one TICK: kick, less, drop, length -/
def sPace (ls dr : Int32) (c : Crs) : Int32 := sMax 0 (sMin 3000 (c.2.1 + (10 * dr - c.2.1 * c.2.1 * ls / 10000) / 20))
def sArch (kk : Int32) (c : Crs) (v : Int32) : Int32 := c.2.2.1 + (v * v * kk / 10000 - c.2.2.1) / 4
def sStep (kk ls dr ln : Int32) (c : Crs) : Crs :=
  if ln ≤ c.2.2.2.1 then (c.1 + 1, c.2.1, sMax 0 (c.2.2.1 - 50), c.2.2.2.1, c.2.2.2.2)
  else (c.1 + 1, sPace ls dr c, sArch kk c (sPace ls dr c), sMin ln (c.2.2.2.1 + sPace ls dr c / 10), sMax c.2.2.2.2 (sArch kk c (sPace ls dr c)))
/-- numbers within bounds -/
def gT (t : Tal) : Prop := 0 ≤ t.1.toInt ∧ t.1.toInt ≤ 7 ∧ 0 ≤ t.2.toInt ∧ t.2.toInt ≤ 40
def gS (b : Stg) : Prop := 0 ≤ b.1.toInt ∧ b.1.toInt ≤ 100 ∧ 0 ≤ b.2.1.toInt ∧ b.2.1.toInt ≤ 100 ∧ 0 ≤ b.2.2.1.toInt ∧ b.2.2.1.toInt ≤ 2 ∧ 1 ≤ b.2.2.2.toInt ∧ b.2.2.2.toInt ≤ 400
theorem zmul {x y : Int32} (h1 : -2147483648 ≤ x.toInt * y.toInt) (h2 : x.toInt * y.toInt < 2147483648) : (x * y).toInt = x.toInt * y.toInt := by
  rw [Int32.toInt_mul]; exact Int.bmod_eq_of_le (by omega) (by omega)
theorem zadd {x y : Int32} (h1 : -2147483648 ≤ x.toInt + y.toInt) (h2 : x.toInt + y.toInt < 2147483648) : (x + y).toInt = x.toInt + y.toInt := by
  rw [Int32.toInt_add]; exact Int.bmod_eq_of_le (by omega) (by omega)
theorem zsub {x y : Int32} (h1 : -2147483648 ≤ x.toInt - y.toInt) (h2 : x.toInt - y.toInt < 2147483648) : (x - y).toInt = x.toInt - y.toInt := by
  rw [Int32.toInt_sub]; exact Int.bmod_eq_of_le (by omega) (by omega)
theorem zdiv {x y : Int32} (hx : 0 ≤ x.toInt) (hy : 0 < y.toInt) : (x / y).toInt = x.toInt / y.toInt := lg_idiv_nonneg hx hy
theorem zmul_le {a b A B : Int} (ha : 0 ≤ a) (hb : 0 ≤ b) (hA : a ≤ A) (hB : b ≤ B) : 0 ≤ a * b ∧ a * b ≤ A * B :=
  ⟨Int.mul_nonneg ha hb, Int.mul_le_mul hA hB hb (Int.le_trans ha hA)⟩
theorem sKK_b {t : Tal} {b : Stg} (ht : gT t) (hb : gS b) : 0 ≤ (sKK t b).toInt ∧ (sKK t b).toInt ≤ 40 := by
  obtain ⟨_, _, h1, h2⟩ := ht
  obtain ⟨h3, h4, _⟩ := hb
  have h5 := zmul_le h1 h3 h2 h4
  have h6 : (t.2 * b.1).toInt = t.2.toInt * b.1.toInt := zmul (by omega) (by omega)
  have h7 : (sKK t b).toInt = t.2.toInt * b.1.toInt / 100 := by unfold sKK; rw [zdiv (by omega) (by decide), h6]; rfl
  omega
theorem sKick_b {t : Tal} {b : Stg} (ht : gT t) (hb : gS b) : 0 ≤ (sKick t b).toInt ∧ (sKick t b).toInt ≤ 40 := by
  have h0 := sKK_b ht hb
  unfold sKick
  split
  · exact h0
  split
  · have e1 : (100 - b.2.1).toInt = 100 - b.2.1.toInt := zsub (by have := hb.2.2; simp; omega) (by have := hb.2.2; simp; omega)
    have h2 := hb.2.2
    have h5 := zmul_le h0.1 (show 0 ≤ 100 - b.2.1.toInt by omega) h0.2 (show 100 - b.2.1.toInt ≤ 100 by omega)
    have e2 : (sKK t b * (100 - b.2.1)).toInt = (sKK t b).toInt * (100 - b.2.1.toInt) := by rw [zmul (by rw [e1]; omega) (by rw [e1]; omega), e1]
    rw [zdiv (by omega) (by decide), e2]
    show 0 ≤ _ / 100 ∧ _ / 100 ≤ 40
    omega
  split
  · unfold sKT
    obtain ⟨_, _, h1, h2⟩ := ht
    split
    · rw [zdiv h1 (by decide)]
      show 0 ≤ _ / 2 ∧ _ / 2 ≤ 40
      omega
    split
    · exact ⟨h1, h2⟩
    · decide
  split
  · rw [zdiv h0.1 (by decide)]
    show 0 ≤ _ / 2 ∧ _ / 2 ≤ 40
    omega
  · decide
theorem sDraw_b {t : Tal} (ht : gT t) : 0 ≤ (sDraw t).toInt ∧ (sDraw t).toInt ≤ 40 := by
  unfold sDraw
  split
  · exact ht.2.2
  · decide
theorem sHold_b {t : Tal} (ht : gT t) : 0 ≤ (sHold t).toInt ∧ (sHold t).toInt ≤ 40 := by
  unfold sHold
  split
  · exact ht.2.2
  split
  · rw [zdiv ht.2.2.1 (by decide)]
    have := ht.2.2
    show 0 ≤ _ / 4 ∧ _ / 4 ≤ 40
    omega
  · decide
theorem sLess_e {t : Tal} {b : Stg} (ht : gT t) (hb : gS b) : (sLess t b).toInt = 100 - (sKick t b).toInt - (sDraw t).toInt + (sHold t).toInt := by
  have h1 := sKick_b ht hb
  have h2 := sDraw_b ht
  have h3 := sHold_b ht
  unfold sLess
  have e1 : (100 - sKick t b).toInt = 100 - (sKick t b).toInt := zsub (by simp; omega) (by simp; omega)
  have e2 : (100 - sKick t b - sDraw t).toInt = 100 - (sKick t b).toInt - (sDraw t).toInt := by rw [zsub (by omega) (by omega), e1]
  rw [zadd (by omega) (by omega), e2]
theorem sLess_b {t : Tal} {b : Stg} (ht : gT t) (hb : gS b) : 20 ≤ (sLess t b).toInt ∧ (sLess t b).toInt ≤ 140 := by
  have h1 := sKick_b ht hb
  have h2 := sDraw_b ht
  have h3 := sHold_b ht
  rw [sLess_e ht hb]
  omega
theorem sLess_ne {t : Tal} {b : Stg} (ht : gT t) (hb : gS b) : ¬ sLess t b * 100 = 0 := by
  have h := sLess_b ht hb
  intro q
  have e : (sLess t b * 100).toInt = (sLess t b).toInt * 100 := zmul (by simp; omega) (by simp; omega)
  rw [q] at e
  simp at e
  omega
end
section
theorem mX0_clear : zMd yX0_clear cX0_clear 1 none 0 := ⟨by decide +kernel, gt_of 426 (by decide +kernel) rfl, gt_of 47 (by decide +kernel) rfl, by decide⟩
theorem dX0_clear_0 : decode cX0_clear 0 = .ok (.aload_n 0, 1) := by decide +kernel
theorem dX0_clear_1 : decode cX0_clear 1 = .ok (.iconst 0, 1) := by decide +kernel
theorem dX0_clear_2 : decode cX0_clear 2 = .ok (.putfield 7, 3) := by decide +kernel
theorem pX0_7 : zFldP RX0 7 0 0 false .int := ⟨RX0, TX0, 5, tyX0, rfl, inX0, by decide, rfl, Or.inl (gt_of 113 (by decide +kernel) rfl), tyX0_ok, nmX0, rfl, by decide +kernel, fun h => by cases h⟩
theorem dX0_clear_5 : decode cX0_clear 5 = .ok (.aload_n 0, 1) := by decide +kernel
theorem dX0_clear_6 : decode cX0_clear 6 = .ok (.iconst 0, 1) := by decide +kernel
theorem dX0_clear_7 : decode cX0_clear 7 = .ok (.putfield 13, 3) := by decide +kernel
theorem pX0_13 : zFldP RX0 13 0 1 false .int := ⟨RX0, TX0, 5, tyX0, rfl, inX0, by decide, rfl, Or.inl (gt_of 115 (by decide +kernel) rfl), tyX0_ok, nmX0, rfl, by decide +kernel, fun h => by cases h⟩
theorem dX0_clear_10 : decode cX0_clear 10 = .ok (.aload_n 0, 1) := by decide +kernel
theorem dX0_clear_11 : decode cX0_clear 11 = .ok (.iconst 0, 1) := by decide +kernel
theorem dX0_clear_12 : decode cX0_clear 12 = .ok (.putfield 16, 3) := by decide +kernel
theorem pX0_16 : zFldP RX0 16 0 2 false .int := ⟨RX0, TX0, 5, tyX0, rfl, inX0, by decide, rfl, Or.inl (gt_of 117 (by decide +kernel) rfl), tyX0_ok, nmX0, rfl, by decide +kernel, fun h => by cases h⟩
theorem dX0_clear_15 : decode cX0_clear 15 = .ok (.aload_n 0, 1) := by decide +kernel
theorem dX0_clear_16 : decode cX0_clear 16 = .ok (.iconst 0, 1) := by decide +kernel
theorem dX0_clear_17 : decode cX0_clear 17 = .ok (.putfield 19, 3) := by decide +kernel
theorem pX0_19 : zFldP RX0 19 0 3 false .int := ⟨RX0, TX0, 5, tyX0, rfl, inX0, by decide, rfl, Or.inl (gt_of 119 (by decide +kernel) rfl), tyX0_ok, nmX0, rfl, by decide +kernel, fun h => by cases h⟩
theorem dX0_clear_20 : decode cX0_clear 20 = .ok (.aload_n 0, 1) := by decide +kernel
theorem dX0_clear_21 : decode cX0_clear 21 = .ok (.iconst 0, 1) := by decide +kernel
theorem dX0_clear_22 : decode cX0_clear 22 = .ok (.putfield 22, 3) := by decide +kernel
theorem pX0_22 : zFldP RX0 22 0 4 false .int := ⟨RX0, TX0, 5, tyX0, rfl, inX0, by decide, rfl, Or.inl (gt_of 122 (by decide +kernel) rfl), tyX0_ok, nmX0, rfl, by decide +kernel, fun h => by cases h⟩
theorem dX0_clear_25 : decode cX0_clear 25 = .ok (.return_, 1) := by decide +kernel
set_option maxRecDepth 100000 in
theorem c_X0_clear (l : Launch) (D : va_G) (cy : Nat → Nat) (n : Nat) (ad : Nat → Nat) (F : Nat → va_E) (sz : Nat) (k : Nat) (c0 : Crs) (hk : k < n) (hFk : F k = oCourse c0) : Met l yX0_clear (zw yX0_clear cX0_clear 1 none) (rmL 0) (zPc D cy n ad F sz [.ref (ad k)]) (va_Qv (fun F1 => F1 = va_up F k (oCourse (0, 0, 0, 0, 0))) (zB D n ad) (zA n ad sz)) 0 0 (zA n ad sz) := by
  refine zmet (by decide +kernel) (Nat.le_of_ble_eq_true rfl) (fun p e s m args below meth c ls hC hsz hZ hA hr hlocks hnm hl => ?_)
  have hC : zC p m c cX0_clear 1 s args RX0 D cy := hC
  have hx := hC.1.1
  have hb := hC.1.2.1
  have hl : lv_has ls 1 [(0, .ref (ad k))] := hl
  refine lv_aload_n hx hb dX0_clear_0 rfl (lv_at hl 0 rfl) ?_
  refine lv_iconst (v := 0) hx hb dX0_clear_1 (by decide) ?_
  refine zput (E := oCourse (0, c0.2.1, c0.2.2.1, c0.2.2.2.1, c0.2.2.2.2)) hC hZ pX0_7 hk hFk rfl rfl rfl (Nat.le_of_ble_eq_true rfl) dX0_clear_2 (fun F_1 hF_2 H locs hZ => ?_)
  have h_3 := zeq hF_2
  refine lv_aload_n hx hb dX0_clear_5 rfl (lv_at hl 0 rfl) ?_
  refine lv_iconst (v := 0) hx hb dX0_clear_6 (by decide) ?_
  refine zput (E := oCourse (0, 0, c0.2.2.1, c0.2.2.2.1, c0.2.2.2.2)) hC hZ pX0_13 hk h_3 rfl rfl rfl (Nat.le_of_ble_eq_true rfl) dX0_clear_7 (fun F_4 hF_5 H locs hZ => ?_)
  have h_6 := zeq hF_5
  refine lv_aload_n hx hb dX0_clear_10 rfl (lv_at hl 0 rfl) ?_
  refine lv_iconst (v := 0) hx hb dX0_clear_11 (by decide) ?_
  refine zput (E := oCourse (0, 0, 0, c0.2.2.2.1, c0.2.2.2.2)) hC hZ pX0_16 hk h_6 rfl rfl rfl (Nat.le_of_ble_eq_true rfl) dX0_clear_12 (fun F_7 hF_8 H locs hZ => ?_)
  have h_9 := zeq hF_8
  refine lv_aload_n hx hb dX0_clear_15 rfl (lv_at hl 0 rfl) ?_
  refine lv_iconst (v := 0) hx hb dX0_clear_16 (by decide) ?_
  refine zput (E := oCourse (0, 0, 0, 0, c0.2.2.2.2)) hC hZ pX0_19 hk h_9 rfl rfl rfl (Nat.le_of_ble_eq_true rfl) dX0_clear_17 (fun F_10 hF_11 H locs hZ => ?_)
  have h_12 := zeq hF_11
  refine lv_aload_n hx hb dX0_clear_20 rfl (lv_at hl 0 rfl) ?_
  refine lv_iconst (v := 0) hx hb dX0_clear_21 (by decide) ?_
  refine zput (E := oCourse (0, 0, 0, 0, 0)) hC hZ pX0_22 hk h_12 rfl rfl rfl (Nat.le_of_ble_eq_true rfl) dX0_clear_22 (fun F_13 hF_14 H locs hZ => ?_)
  have h_15 := zeq hF_14
  have hq_16 : F_13 = va_up F k (oCourse (0, 0, 0, 0, 0)) := by simp only [hF_14, hF_11, hF_8, hF_5, hF_2, bx_uu]
  exact zvret hC hZ hr hlocks hq_16 dX0_clear_25

theorem mX0_take : zMd yX0_take cX0_take 2 none 1 := ⟨by decide +kernel, gt_of 561 (by decide +kernel) rfl, gt_of 47 (by decide +kernel) rfl, by decide⟩
theorem dX0_take_0 : decode cX0_take 0 = .ok (.aload_n 0, 1) := by decide +kernel
theorem dX0_take_1 : decode cX0_take 1 = .ok (.aload_n 1, 1) := by decide +kernel
theorem dX0_take_2 : decode cX0_take 2 = .ok (.getfield 7, 3) := by decide +kernel
theorem fX0_7 : zFld RX0 7 0 0 := ⟨RX0, TX0, 5, rfl, inX0, by decide, rfl, Or.inl (gt_of 113 (by decide +kernel) rfl)⟩
theorem dX0_take_5 : decode cX0_take 5 = .ok (.putfield 7, 3) := by decide +kernel
theorem dX0_take_8 : decode cX0_take 8 = .ok (.aload_n 0, 1) := by decide +kernel
theorem dX0_take_9 : decode cX0_take 9 = .ok (.aload_n 1, 1) := by decide +kernel
theorem dX0_take_10 : decode cX0_take 10 = .ok (.getfield 13, 3) := by decide +kernel
theorem fX0_13 : zFld RX0 13 0 1 := ⟨RX0, TX0, 5, rfl, inX0, by decide, rfl, Or.inl (gt_of 115 (by decide +kernel) rfl)⟩
theorem dX0_take_13 : decode cX0_take 13 = .ok (.putfield 13, 3) := by decide +kernel
theorem dX0_take_16 : decode cX0_take 16 = .ok (.aload_n 0, 1) := by decide +kernel
theorem dX0_take_17 : decode cX0_take 17 = .ok (.aload_n 1, 1) := by decide +kernel
theorem dX0_take_18 : decode cX0_take 18 = .ok (.getfield 16, 3) := by decide +kernel
theorem fX0_16 : zFld RX0 16 0 2 := ⟨RX0, TX0, 5, rfl, inX0, by decide, rfl, Or.inl (gt_of 117 (by decide +kernel) rfl)⟩
theorem dX0_take_21 : decode cX0_take 21 = .ok (.putfield 16, 3) := by decide +kernel
theorem dX0_take_24 : decode cX0_take 24 = .ok (.aload_n 0, 1) := by decide +kernel
theorem dX0_take_25 : decode cX0_take 25 = .ok (.aload_n 1, 1) := by decide +kernel
theorem dX0_take_26 : decode cX0_take 26 = .ok (.getfield 19, 3) := by decide +kernel
theorem fX0_19 : zFld RX0 19 0 3 := ⟨RX0, TX0, 5, rfl, inX0, by decide, rfl, Or.inl (gt_of 119 (by decide +kernel) rfl)⟩
theorem dX0_take_29 : decode cX0_take 29 = .ok (.putfield 19, 3) := by decide +kernel
theorem dX0_take_32 : decode cX0_take 32 = .ok (.aload_n 0, 1) := by decide +kernel
theorem dX0_take_33 : decode cX0_take 33 = .ok (.aload_n 1, 1) := by decide +kernel
theorem dX0_take_34 : decode cX0_take 34 = .ok (.getfield 22, 3) := by decide +kernel
theorem fX0_22 : zFld RX0 22 0 4 := ⟨RX0, TX0, 5, rfl, inX0, by decide, rfl, Or.inl (gt_of 122 (by decide +kernel) rfl)⟩
theorem dX0_take_37 : decode cX0_take 37 = .ok (.putfield 22, 3) := by decide +kernel
theorem dX0_take_40 : decode cX0_take 40 = .ok (.return_, 1) := by decide +kernel
set_option maxRecDepth 100000 in
theorem c_X0_take (l : Launch) (D : va_G) (cy : Nat → Nat) (n : Nat) (ad : Nat → Nat) (F : Nat → va_E) (sz : Nat) (k : Nat) (c0 : Crs) (hk : k < n) (hFk : F k = oCourse c0) (j : Nat) (c1 : Crs) (hj : j < n) (hFj : F j = oCourse c1) (hjk : j ≠ k) : Met l yX0_take (zw yX0_take cX0_take 2 none) (rmL 0) (zPc D cy n ad F sz [.ref (ad k), .ref (ad j)]) (va_Qv (fun F1 => F1 = va_up F k (oCourse c1)) (zB D n ad) (zA n ad sz)) 0 0 (zA n ad sz) := by
  refine zmet (by decide +kernel) (Nat.le_of_ble_eq_true rfl) (fun p e s m args below meth c ls hC hsz hZ hA hr hlocks hnm hl => ?_)
  have hC : zC p m c cX0_take 2 s args RX0 D cy := hC
  have hx := hC.1.1
  have hb := hC.1.2.1
  have hl : lv_has ls 2 [(0, .ref (ad k)), (1, .ref (ad j))] := hl
  refine lv_aload_n hx hb dX0_take_0 rfl (lv_at hl 0 rfl) ?_
  refine lv_aload_n hx hb dX0_take_1 rfl (lv_at hl 1 rfl) ?_
  refine zget hC hZ fX0_7 hj hFj rfl dX0_take_2 ?_
  refine zput (E := oCourse (c1.1, c0.2.1, c0.2.2.1, c0.2.2.2.1, c0.2.2.2.2)) hC hZ pX0_7 hk hFk rfl rfl rfl (Nat.le_of_ble_eq_true rfl) dX0_take_5 (fun F_1 hF_2 H locs hZ => ?_)
  have h_3 := zeq hF_2
  refine lv_aload_n hx hb dX0_take_8 rfl (lv_at hl 0 rfl) ?_
  refine lv_aload_n hx hb dX0_take_9 rfl (lv_at hl 1 rfl) ?_
  refine zget hC hZ fX0_13 hj (zne hF_2 hjk hFj) rfl dX0_take_10 ?_
  refine zput (E := oCourse (c1.1, c1.2.1, c0.2.2.1, c0.2.2.2.1, c0.2.2.2.2)) hC hZ pX0_13 hk h_3 rfl rfl rfl (Nat.le_of_ble_eq_true rfl) dX0_take_13 (fun F_4 hF_5 H locs hZ => ?_)
  have h_6 := zeq hF_5
  refine lv_aload_n hx hb dX0_take_16 rfl (lv_at hl 0 rfl) ?_
  refine lv_aload_n hx hb dX0_take_17 rfl (lv_at hl 1 rfl) ?_
  refine zget hC hZ fX0_16 hj (zne hF_5 hjk (zne hF_2 hjk hFj)) rfl dX0_take_18 ?_
  refine zput (E := oCourse (c1.1, c1.2.1, c1.2.2.1, c0.2.2.2.1, c0.2.2.2.2)) hC hZ pX0_16 hk h_6 rfl rfl rfl (Nat.le_of_ble_eq_true rfl) dX0_take_21 (fun F_7 hF_8 H locs hZ => ?_)
  have h_9 := zeq hF_8
  refine lv_aload_n hx hb dX0_take_24 rfl (lv_at hl 0 rfl) ?_
  refine lv_aload_n hx hb dX0_take_25 rfl (lv_at hl 1 rfl) ?_
  refine zget hC hZ fX0_19 hj (zne hF_8 hjk (zne hF_5 hjk (zne hF_2 hjk hFj))) rfl dX0_take_26 ?_
  refine zput (E := oCourse (c1.1, c1.2.1, c1.2.2.1, c1.2.2.2.1, c0.2.2.2.2)) hC hZ pX0_19 hk h_9 rfl rfl rfl (Nat.le_of_ble_eq_true rfl) dX0_take_29 (fun F_10 hF_11 H locs hZ => ?_)
  have h_12 := zeq hF_11
  refine lv_aload_n hx hb dX0_take_32 rfl (lv_at hl 0 rfl) ?_
  refine lv_aload_n hx hb dX0_take_33 rfl (lv_at hl 1 rfl) ?_
  refine zget hC hZ fX0_22 hj (zne hF_11 hjk (zne hF_8 hjk (zne hF_5 hjk (zne hF_2 hjk hFj)))) rfl dX0_take_34 ?_
  refine zput (E := oCourse (c1.1, c1.2.1, c1.2.2.1, c1.2.2.2.1, c1.2.2.2.2)) hC hZ pX0_22 hk h_12 rfl rfl rfl (Nat.le_of_ble_eq_true rfl) dX0_take_37 (fun F_13 hF_14 H locs hZ => ?_)
  have h_15 := zeq hF_14
  have hq_16 : F_13 = va_up F k (oCourse c1) := by simp only [hF_14, hF_11, hF_8, hF_5, hF_2, bx_uu]
  exact zvret hC hZ hr hlocks hq_16 dX0_take_40

theorem mX0_step : zMd yX0_step cX0_step 6 none 4 := ⟨by decide +kernel, gt_of 414 (by decide +kernel) rfl, gt_of 47 (by decide +kernel) rfl, by decide⟩
theorem dX0_step_0 : decode cX0_step 0 = .ok (.aload_n 0, 1) := by decide +kernel
theorem dX0_step_1 : decode cX0_step 1 = .ok (.dup, 1) := by decide +kernel
theorem dX0_step_2 : decode cX0_step 2 = .ok (.getfield 7, 3) := by decide +kernel
theorem dX0_step_5 : decode cX0_step 5 = .ok (.iconst 1, 1) := by decide +kernel
theorem dX0_step_6 : decode cX0_step 6 = .ok (.iadd, 1) := by decide +kernel
theorem dX0_step_7 : decode cX0_step 7 = .ok (.putfield 7, 3) := by decide +kernel
theorem dX0_step_10 : decode cX0_step 10 = .ok (.aload_n 0, 1) := by decide +kernel
theorem dX0_step_11 : decode cX0_step 11 = .ok (.getfield 19, 3) := by decide +kernel
theorem dX0_step_14 : decode cX0_step 14 = .ok (.iload 4, 2) := by decide +kernel
theorem dX0_step_16 : decode cX0_step 16 = .ok (.if_icmp .lt 19, 3) := by decide +kernel
theorem dX0_step_35 : decode cX0_step 35 = .ok (.aload_n 0, 1) := by decide +kernel
theorem dX0_step_36 : decode cX0_step 36 = .ok (.getfield 13, 3) := by decide +kernel
theorem dX0_step_39 : decode cX0_step 39 = .ok (.aload_n 0, 1) := by decide +kernel
theorem dX0_step_40 : decode cX0_step 40 = .ok (.getfield 13, 3) := by decide +kernel
theorem dX0_step_43 : decode cX0_step 43 = .ok (.imul, 1) := by decide +kernel
theorem dX0_step_44 : decode cX0_step 44 = .ok (.iload_n 2, 1) := by decide +kernel
theorem dX0_step_45 : decode cX0_step 45 = .ok (.imul, 1) := by decide +kernel
theorem dX0_step_46 : decode cX0_step 46 = .ok (.sipush 10000, 3) := by decide +kernel
theorem dX0_step_49 : decode cX0_step 49 = .ok (.idiv, 1) := by decide +kernel
theorem dX0_step_50 : decode cX0_step 50 = .ok (.istore 5, 2) := by decide +kernel
theorem dX0_step_52 : decode cX0_step 52 = .ok (.aload_n 0, 1) := by decide +kernel
theorem dX0_step_53 : decode cX0_step 53 = .ok (.iconst 0, 1) := by decide +kernel
theorem dX0_step_54 : decode cX0_step 54 = .ok (.sipush 3000, 3) := by decide +kernel
theorem dX0_step_57 : decode cX0_step 57 = .ok (.aload_n 0, 1) := by decide +kernel
theorem dX0_step_58 : decode cX0_step 58 = .ok (.getfield 13, 3) := by decide +kernel
theorem dX0_step_61 : decode cX0_step 61 = .ok (.bipush 10, 2) := by decide +kernel
theorem dX0_step_63 : decode cX0_step 63 = .ok (.iload_n 3, 1) := by decide +kernel
theorem dX0_step_64 : decode cX0_step 64 = .ok (.imul, 1) := by decide +kernel
theorem dX0_step_65 : decode cX0_step 65 = .ok (.iload 5, 2) := by decide +kernel
theorem dX0_step_67 : decode cX0_step 67 = .ok (.isub, 1) := by decide +kernel
theorem dX0_step_68 : decode cX0_step 68 = .ok (.bipush 20, 2) := by decide +kernel
theorem dX0_step_70 : decode cX0_step 70 = .ok (.idiv, 1) := by decide +kernel
theorem dX0_step_71 : decode cX0_step 71 = .ok (.iadd, 1) := by decide +kernel
theorem dX0_step_72 : decode cX0_step 72 = .ok (.invokestatic 31, 3) := by decide +kernel
theorem kX0_31 : zMath RX0 31 Lib.Math.min.name Lib.Math.min.code 2 (some .int) := ⟨gt_of 418 (by decide +kernel) rfl, gt_of 296 (by decide +kernel) rfl, gt_of 52 (by decide +kernel) rfl, gt_of 297 (by decide +kernel) rfl⟩
theorem dX0_step_75 : decode cX0_step 75 = .ok (.invokestatic 25, 3) := by decide +kernel
theorem kX0_25 : zMath RX0 25 Lib.Math.max.name Lib.Math.max.code 2 (some .int) := ⟨gt_of 415 (by decide +kernel) rfl, gt_of 416 (by decide +kernel) rfl, gt_of 52 (by decide +kernel) rfl, gt_of 417 (by decide +kernel) rfl⟩
theorem dX0_step_78 : decode cX0_step 78 = .ok (.putfield 13, 3) := by decide +kernel
theorem dX0_step_81 : decode cX0_step 81 = .ok (.aload_n 0, 1) := by decide +kernel
theorem dX0_step_82 : decode cX0_step 82 = .ok (.aload_n 0, 1) := by decide +kernel
theorem dX0_step_83 : decode cX0_step 83 = .ok (.getfield 16, 3) := by decide +kernel
theorem dX0_step_86 : decode cX0_step 86 = .ok (.aload_n 0, 1) := by decide +kernel
theorem dX0_step_87 : decode cX0_step 87 = .ok (.getfield 13, 3) := by decide +kernel
theorem dX0_step_90 : decode cX0_step 90 = .ok (.aload_n 0, 1) := by decide +kernel
theorem dX0_step_91 : decode cX0_step 91 = .ok (.getfield 13, 3) := by decide +kernel
theorem dX0_step_94 : decode cX0_step 94 = .ok (.imul, 1) := by decide +kernel
theorem dX0_step_95 : decode cX0_step 95 = .ok (.iload_n 1, 1) := by decide +kernel
theorem dX0_step_96 : decode cX0_step 96 = .ok (.imul, 1) := by decide +kernel
theorem dX0_step_97 : decode cX0_step 97 = .ok (.sipush 10000, 3) := by decide +kernel
theorem dX0_step_100 : decode cX0_step 100 = .ok (.idiv, 1) := by decide +kernel
theorem dX0_step_101 : decode cX0_step 101 = .ok (.aload_n 0, 1) := by decide +kernel
theorem dX0_step_102 : decode cX0_step 102 = .ok (.getfield 16, 3) := by decide +kernel
theorem dX0_step_105 : decode cX0_step 105 = .ok (.isub, 1) := by decide +kernel
theorem dX0_step_106 : decode cX0_step 106 = .ok (.iconst 4, 1) := by decide +kernel
theorem dX0_step_107 : decode cX0_step 107 = .ok (.idiv, 1) := by decide +kernel
theorem dX0_step_108 : decode cX0_step 108 = .ok (.iadd, 1) := by decide +kernel
theorem dX0_step_109 : decode cX0_step 109 = .ok (.putfield 16, 3) := by decide +kernel
theorem dX0_step_112 : decode cX0_step 112 = .ok (.aload_n 0, 1) := by decide +kernel
theorem dX0_step_113 : decode cX0_step 113 = .ok (.iload 4, 2) := by decide +kernel
theorem dX0_step_115 : decode cX0_step 115 = .ok (.aload_n 0, 1) := by decide +kernel
theorem dX0_step_116 : decode cX0_step 116 = .ok (.getfield 19, 3) := by decide +kernel
theorem dX0_step_119 : decode cX0_step 119 = .ok (.aload_n 0, 1) := by decide +kernel
theorem dX0_step_120 : decode cX0_step 120 = .ok (.getfield 13, 3) := by decide +kernel
theorem dX0_step_123 : decode cX0_step 123 = .ok (.bipush 10, 2) := by decide +kernel
theorem dX0_step_125 : decode cX0_step 125 = .ok (.idiv, 1) := by decide +kernel
theorem dX0_step_126 : decode cX0_step 126 = .ok (.iadd, 1) := by decide +kernel
theorem dX0_step_127 : decode cX0_step 127 = .ok (.invokestatic 31, 3) := by decide +kernel
theorem dX0_step_130 : decode cX0_step 130 = .ok (.putfield 19, 3) := by decide +kernel
theorem dX0_step_133 : decode cX0_step 133 = .ok (.aload_n 0, 1) := by decide +kernel
theorem dX0_step_134 : decode cX0_step 134 = .ok (.aload_n 0, 1) := by decide +kernel
theorem dX0_step_135 : decode cX0_step 135 = .ok (.getfield 22, 3) := by decide +kernel
theorem dX0_step_138 : decode cX0_step 138 = .ok (.aload_n 0, 1) := by decide +kernel
theorem dX0_step_139 : decode cX0_step 139 = .ok (.getfield 16, 3) := by decide +kernel
theorem dX0_step_142 : decode cX0_step 142 = .ok (.invokestatic 25, 3) := by decide +kernel
theorem dX0_step_145 : decode cX0_step 145 = .ok (.putfield 22, 3) := by decide +kernel
theorem dX0_step_148 : decode cX0_step 148 = .ok (.return_, 1) := by decide +kernel
theorem dX0_step_19 : decode cX0_step 19 = .ok (.aload_n 0, 1) := by decide +kernel
theorem dX0_step_20 : decode cX0_step 20 = .ok (.iconst 0, 1) := by decide +kernel
theorem dX0_step_21 : decode cX0_step 21 = .ok (.aload_n 0, 1) := by decide +kernel
theorem dX0_step_22 : decode cX0_step 22 = .ok (.getfield 16, 3) := by decide +kernel
theorem dX0_step_25 : decode cX0_step 25 = .ok (.bipush 50, 2) := by decide +kernel
theorem dX0_step_27 : decode cX0_step 27 = .ok (.isub, 1) := by decide +kernel
theorem dX0_step_28 : decode cX0_step 28 = .ok (.invokestatic 25, 3) := by decide +kernel
theorem dX0_step_31 : decode cX0_step 31 = .ok (.putfield 16, 3) := by decide +kernel
theorem dX0_step_34 : decode cX0_step 34 = .ok (.return_, 1) := by decide +kernel
set_option maxRecDepth 100000 in
theorem c_X0_step (l : Launch) (D : va_G) (cy : Nat → Nat) (n : Nat) (ad : Nat → Nat) (F : Nat → va_E) (sz : Nat) (k : Nat) (c0 : Crs) (hk : k < n) (hFk : F k = oCourse c0) (kk l0 dr ln : Int32) : Met l yX0_step (zw yX0_step cX0_step 6 none) (rmL 1) (zPc D cy n ad F sz [.ref (ad k), .int kk, .int l0, .int dr, .int ln]) (va_Qv (fun F1 => F1 = va_up F k (oCourse (sStep kk l0 dr ln c0))) (zB D n ad) (zA n ad sz)) 0 0 (zA n ad sz) := by
  refine zmet (by decide +kernel) (Nat.le_of_ble_eq_true rfl) (fun p e s m args below meth c ls hC hsz hZ hA hr hlocks hnm hl => ?_)
  have hC : zC p m c cX0_step 6 s args RX0 D cy := hC
  have hx := hC.1.1
  have hb := hC.1.2.1
  have hl : lv_has ls 6 [(0, .ref (ad k)), (1, .int kk), (2, .int l0), (3, .int dr), (4, .int ln)] := hl
  refine lv_aload_n hx hb dX0_step_0 rfl (lv_at hl 0 rfl) ?_
  refine lv_dup hx hb dX0_step_1 rfl ?_
  refine zget hC hZ fX0_7 hk hFk rfl dX0_step_2 ?_
  refine lv_iconst (v := 1) hx hb dX0_step_5 (by decide) ?_
  refine lv_iadd hx hb dX0_step_6 ?_
  refine zput (E := oCourse ((c0.1 + 1), c0.2.1, c0.2.2.1, c0.2.2.2.1, c0.2.2.2.2)) hC hZ pX0_7 hk hFk rfl rfl rfl (Nat.le_of_ble_eq_true rfl) dX0_step_7 (fun F_1 hF_2 H locs hZ => ?_)
  have h_3 := zeq hF_2
  refine lv_aload_n hx hb dX0_step_10 rfl (lv_at hl 0 rfl) ?_
  refine zget hC hZ fX0_19 hk h_3 rfl dX0_step_11 ?_
  refine lv_iload hx hb dX0_step_14 (lv_at hl 4 rfl) ?_
  refine lv_icmp_lt (tgt := 35) hx hb dX0_step_16 (by decide) (fun c_16 => ?_) (fun c_16 => ?_)
  · refine lv_aload_n hx hb dX0_step_35 rfl (lv_at hl 0 rfl) ?_
    refine zget hC hZ fX0_13 hk h_3 rfl dX0_step_36 ?_
    refine lv_aload_n hx hb dX0_step_39 rfl (lv_at hl 0 rfl) ?_
    refine zget hC hZ fX0_13 hk h_3 rfl dX0_step_40 ?_
    refine lv_imul hx hb dX0_step_43 ?_
    refine lv_iload_n hx hb dX0_step_44 rfl (lv_at hl 2 rfl) ?_
    refine lv_imul hx hb dX0_step_45 ?_
    refine lv_sipush (v := 10000) hx hb dX0_step_46 (by decide) ?_
    refine lv_idiv hx hb dX0_step_49 (by decide) ?_
    refine lv_istore (lv' := [(5, .int (((c0.2.1 * c0.2.1) * l0) / 10000)), (0, .ref (ad k)), (1, .int kk), (2, .int l0), (3, .int dr), (4, .int ln)]) hx hb dX0_step_50 hl (by decide) rfl (fun ls hl => ?_)
    refine lv_aload_n hx hb dX0_step_52 rfl (lv_at hl 1 rfl) ?_
    refine lv_iconst (v := 0) hx hb dX0_step_53 (by decide) ?_
    refine lv_sipush (v := 3000) hx hb dX0_step_54 (by decide) ?_
    refine lv_aload_n hx hb dX0_step_57 rfl (lv_at hl 1 rfl) ?_
    refine zget hC hZ fX0_13 hk h_3 rfl dX0_step_58 ?_
    refine lv_bipush (v := 10) hx hb dX0_step_61 (by decide) ?_
    refine lv_iload_n hx hb dX0_step_63 rfl (lv_at hl 4 rfl) ?_
    refine lv_imul hx hb dX0_step_64 ?_
    refine lv_iload hx hb dX0_step_65 (lv_at hl 0 rfl) ?_
    refine lv_isub hx hb dX0_step_67 ?_
    refine lv_bipush (v := 20) hx hb dX0_step_68 (by decide) ?_
    refine lv_idiv hx hb dX0_step_70 (by decide) ?_
    refine lv_iadd hx hb dX0_step_71 ?_
    refine zmin hC kX0_31 hl.1 (zRj_of rfl) (Nat.le_of_ble_eq_true rfl) ⟨Nat.le_refl _, Nat.le_refl _⟩ dX0_step_72 ?_
    refine zmax hC kX0_25 hl.1 (zRj_of rfl) (Nat.le_of_ble_eq_true rfl) ⟨Nat.le_refl _, Nat.le_refl _⟩ dX0_step_75 ?_
    refine zput (E := oCourse ((c0.1 + 1), (if 0 < (if (c0.2.1 + (((10 * dr) - (((c0.2.1 * c0.2.1) * l0) / 10000)) / 20)) < 3000 then (c0.2.1 + (((10 * dr) - (((c0.2.1 * c0.2.1) * l0) / 10000)) / 20)) else 3000) then (if (c0.2.1 + (((10 * dr) - (((c0.2.1 * c0.2.1) * l0) / 10000)) / 20)) < 3000 then (c0.2.1 + (((10 * dr) - (((c0.2.1 * c0.2.1) * l0) / 10000)) / 20)) else 3000) else 0), c0.2.2.1, c0.2.2.2.1, c0.2.2.2.2)) hC hZ pX0_13 hk h_3 rfl rfl rfl (Nat.le_of_ble_eq_true rfl) dX0_step_78 (fun F_4 hF_5 H locs hZ => ?_)
    have h_6 := zeq hF_5
    refine lv_aload_n hx hb dX0_step_81 rfl (lv_at hl 1 rfl) ?_
    refine lv_aload_n hx hb dX0_step_82 rfl (lv_at hl 1 rfl) ?_
    refine zget hC hZ fX0_16 hk h_6 rfl dX0_step_83 ?_
    refine lv_aload_n hx hb dX0_step_86 rfl (lv_at hl 1 rfl) ?_
    refine zget hC hZ fX0_13 hk h_6 rfl dX0_step_87 ?_
    refine lv_aload_n hx hb dX0_step_90 rfl (lv_at hl 1 rfl) ?_
    refine zget hC hZ fX0_13 hk h_6 rfl dX0_step_91 ?_
    refine lv_imul hx hb dX0_step_94 ?_
    refine lv_iload_n hx hb dX0_step_95 rfl (lv_at hl 2 rfl) ?_
    refine lv_imul hx hb dX0_step_96 ?_
    refine lv_sipush (v := 10000) hx hb dX0_step_97 (by decide) ?_
    refine lv_idiv hx hb dX0_step_100 (by decide) ?_
    refine lv_aload_n hx hb dX0_step_101 rfl (lv_at hl 1 rfl) ?_
    refine zget hC hZ fX0_16 hk h_6 rfl dX0_step_102 ?_
    refine lv_isub hx hb dX0_step_105 ?_
    refine lv_iconst (v := 4) hx hb dX0_step_106 (by decide) ?_
    refine lv_idiv hx hb dX0_step_107 (by decide) ?_
    refine lv_iadd hx hb dX0_step_108 ?_
    refine zput (E := oCourse ((c0.1 + 1), (if 0 < (if (c0.2.1 + (((10 * dr) - (((c0.2.1 * c0.2.1) * l0) / 10000)) / 20)) < 3000 then (c0.2.1 + (((10 * dr) - (((c0.2.1 * c0.2.1) * l0) / 10000)) / 20)) else 3000) then (if (c0.2.1 + (((10 * dr) - (((c0.2.1 * c0.2.1) * l0) / 10000)) / 20)) < 3000 then (c0.2.1 + (((10 * dr) - (((c0.2.1 * c0.2.1) * l0) / 10000)) / 20)) else 3000) else 0), (c0.2.2.1 + ((((((if 0 < (if (c0.2.1 + (((10 * dr) - (((c0.2.1 * c0.2.1) * l0) / 10000)) / 20)) < 3000 then (c0.2.1 + (((10 * dr) - (((c0.2.1 * c0.2.1) * l0) / 10000)) / 20)) else 3000) then (if (c0.2.1 + (((10 * dr) - (((c0.2.1 * c0.2.1) * l0) / 10000)) / 20)) < 3000 then (c0.2.1 + (((10 * dr) - (((c0.2.1 * c0.2.1) * l0) / 10000)) / 20)) else 3000) else 0) * (if 0 < (if (c0.2.1 + (((10 * dr) - (((c0.2.1 * c0.2.1) * l0) / 10000)) / 20)) < 3000 then (c0.2.1 + (((10 * dr) - (((c0.2.1 * c0.2.1) * l0) / 10000)) / 20)) else 3000) then (if (c0.2.1 + (((10 * dr) - (((c0.2.1 * c0.2.1) * l0) / 10000)) / 20)) < 3000 then (c0.2.1 + (((10 * dr) - (((c0.2.1 * c0.2.1) * l0) / 10000)) / 20)) else 3000) else 0)) * kk) / 10000) - c0.2.2.1) / 4)), c0.2.2.2.1, c0.2.2.2.2)) hC hZ pX0_16 hk h_6 rfl rfl rfl (Nat.le_of_ble_eq_true rfl) dX0_step_109 (fun F_7 hF_8 H locs hZ => ?_)
    have h_9 := zeq hF_8
    refine lv_aload_n hx hb dX0_step_112 rfl (lv_at hl 1 rfl) ?_
    refine lv_iload hx hb dX0_step_113 (lv_at hl 5 rfl) ?_
    refine lv_aload_n hx hb dX0_step_115 rfl (lv_at hl 1 rfl) ?_
    refine zget hC hZ fX0_19 hk h_9 rfl dX0_step_116 ?_
    refine lv_aload_n hx hb dX0_step_119 rfl (lv_at hl 1 rfl) ?_
    refine zget hC hZ fX0_13 hk h_9 rfl dX0_step_120 ?_
    refine lv_bipush (v := 10) hx hb dX0_step_123 (by decide) ?_
    refine lv_idiv hx hb dX0_step_125 (by decide) ?_
    refine lv_iadd hx hb dX0_step_126 ?_
    refine zmin hC kX0_31 hl.1 (zRj_of rfl) (Nat.le_of_ble_eq_true rfl) ⟨Nat.le_refl _, Nat.le_refl _⟩ dX0_step_127 ?_
    refine zput (E := oCourse ((c0.1 + 1), (if 0 < (if (c0.2.1 + (((10 * dr) - (((c0.2.1 * c0.2.1) * l0) / 10000)) / 20)) < 3000 then (c0.2.1 + (((10 * dr) - (((c0.2.1 * c0.2.1) * l0) / 10000)) / 20)) else 3000) then (if (c0.2.1 + (((10 * dr) - (((c0.2.1 * c0.2.1) * l0) / 10000)) / 20)) < 3000 then (c0.2.1 + (((10 * dr) - (((c0.2.1 * c0.2.1) * l0) / 10000)) / 20)) else 3000) else 0), (c0.2.2.1 + ((((((if 0 < (if (c0.2.1 + (((10 * dr) - (((c0.2.1 * c0.2.1) * l0) / 10000)) / 20)) < 3000 then (c0.2.1 + (((10 * dr) - (((c0.2.1 * c0.2.1) * l0) / 10000)) / 20)) else 3000) then (if (c0.2.1 + (((10 * dr) - (((c0.2.1 * c0.2.1) * l0) / 10000)) / 20)) < 3000 then (c0.2.1 + (((10 * dr) - (((c0.2.1 * c0.2.1) * l0) / 10000)) / 20)) else 3000) else 0) * (if 0 < (if (c0.2.1 + (((10 * dr) - (((c0.2.1 * c0.2.1) * l0) / 10000)) / 20)) < 3000 then (c0.2.1 + (((10 * dr) - (((c0.2.1 * c0.2.1) * l0) / 10000)) / 20)) else 3000) then (if (c0.2.1 + (((10 * dr) - (((c0.2.1 * c0.2.1) * l0) / 10000)) / 20)) < 3000 then (c0.2.1 + (((10 * dr) - (((c0.2.1 * c0.2.1) * l0) / 10000)) / 20)) else 3000) else 0)) * kk) / 10000) - c0.2.2.1) / 4)), (if (c0.2.2.2.1 + ((if 0 < (if (c0.2.1 + (((10 * dr) - (((c0.2.1 * c0.2.1) * l0) / 10000)) / 20)) < 3000 then (c0.2.1 + (((10 * dr) - (((c0.2.1 * c0.2.1) * l0) / 10000)) / 20)) else 3000) then (if (c0.2.1 + (((10 * dr) - (((c0.2.1 * c0.2.1) * l0) / 10000)) / 20)) < 3000 then (c0.2.1 + (((10 * dr) - (((c0.2.1 * c0.2.1) * l0) / 10000)) / 20)) else 3000) else 0) / 10)) < ln then (c0.2.2.2.1 + ((if 0 < (if (c0.2.1 + (((10 * dr) - (((c0.2.1 * c0.2.1) * l0) / 10000)) / 20)) < 3000 then (c0.2.1 + (((10 * dr) - (((c0.2.1 * c0.2.1) * l0) / 10000)) / 20)) else 3000) then (if (c0.2.1 + (((10 * dr) - (((c0.2.1 * c0.2.1) * l0) / 10000)) / 20)) < 3000 then (c0.2.1 + (((10 * dr) - (((c0.2.1 * c0.2.1) * l0) / 10000)) / 20)) else 3000) else 0) / 10)) else ln), c0.2.2.2.2)) hC hZ pX0_19 hk h_9 rfl rfl rfl (Nat.le_of_ble_eq_true rfl) dX0_step_130 (fun F_10 hF_11 H locs hZ => ?_)
    have h_12 := zeq hF_11
    refine lv_aload_n hx hb dX0_step_133 rfl (lv_at hl 1 rfl) ?_
    refine lv_aload_n hx hb dX0_step_134 rfl (lv_at hl 1 rfl) ?_
    refine zget hC hZ fX0_22 hk h_12 rfl dX0_step_135 ?_
    refine lv_aload_n hx hb dX0_step_138 rfl (lv_at hl 1 rfl) ?_
    refine zget hC hZ fX0_16 hk h_12 rfl dX0_step_139 ?_
    refine zmax hC kX0_25 hl.1 (zRj_of rfl) (Nat.le_of_ble_eq_true rfl) ⟨Nat.le_refl _, Nat.le_refl _⟩ dX0_step_142 ?_
    refine zput (E := oCourse ((c0.1 + 1), (if 0 < (if (c0.2.1 + (((10 * dr) - (((c0.2.1 * c0.2.1) * l0) / 10000)) / 20)) < 3000 then (c0.2.1 + (((10 * dr) - (((c0.2.1 * c0.2.1) * l0) / 10000)) / 20)) else 3000) then (if (c0.2.1 + (((10 * dr) - (((c0.2.1 * c0.2.1) * l0) / 10000)) / 20)) < 3000 then (c0.2.1 + (((10 * dr) - (((c0.2.1 * c0.2.1) * l0) / 10000)) / 20)) else 3000) else 0), (c0.2.2.1 + ((((((if 0 < (if (c0.2.1 + (((10 * dr) - (((c0.2.1 * c0.2.1) * l0) / 10000)) / 20)) < 3000 then (c0.2.1 + (((10 * dr) - (((c0.2.1 * c0.2.1) * l0) / 10000)) / 20)) else 3000) then (if (c0.2.1 + (((10 * dr) - (((c0.2.1 * c0.2.1) * l0) / 10000)) / 20)) < 3000 then (c0.2.1 + (((10 * dr) - (((c0.2.1 * c0.2.1) * l0) / 10000)) / 20)) else 3000) else 0) * (if 0 < (if (c0.2.1 + (((10 * dr) - (((c0.2.1 * c0.2.1) * l0) / 10000)) / 20)) < 3000 then (c0.2.1 + (((10 * dr) - (((c0.2.1 * c0.2.1) * l0) / 10000)) / 20)) else 3000) then (if (c0.2.1 + (((10 * dr) - (((c0.2.1 * c0.2.1) * l0) / 10000)) / 20)) < 3000 then (c0.2.1 + (((10 * dr) - (((c0.2.1 * c0.2.1) * l0) / 10000)) / 20)) else 3000) else 0)) * kk) / 10000) - c0.2.2.1) / 4)), (if (c0.2.2.2.1 + ((if 0 < (if (c0.2.1 + (((10 * dr) - (((c0.2.1 * c0.2.1) * l0) / 10000)) / 20)) < 3000 then (c0.2.1 + (((10 * dr) - (((c0.2.1 * c0.2.1) * l0) / 10000)) / 20)) else 3000) then (if (c0.2.1 + (((10 * dr) - (((c0.2.1 * c0.2.1) * l0) / 10000)) / 20)) < 3000 then (c0.2.1 + (((10 * dr) - (((c0.2.1 * c0.2.1) * l0) / 10000)) / 20)) else 3000) else 0) / 10)) < ln then (c0.2.2.2.1 + ((if 0 < (if (c0.2.1 + (((10 * dr) - (((c0.2.1 * c0.2.1) * l0) / 10000)) / 20)) < 3000 then (c0.2.1 + (((10 * dr) - (((c0.2.1 * c0.2.1) * l0) / 10000)) / 20)) else 3000) then (if (c0.2.1 + (((10 * dr) - (((c0.2.1 * c0.2.1) * l0) / 10000)) / 20)) < 3000 then (c0.2.1 + (((10 * dr) - (((c0.2.1 * c0.2.1) * l0) / 10000)) / 20)) else 3000) else 0) / 10)) else ln), (if c0.2.2.2.2 < (c0.2.2.1 + ((((((if 0 < (if (c0.2.1 + (((10 * dr) - (((c0.2.1 * c0.2.1) * l0) / 10000)) / 20)) < 3000 then (c0.2.1 + (((10 * dr) - (((c0.2.1 * c0.2.1) * l0) / 10000)) / 20)) else 3000) then (if (c0.2.1 + (((10 * dr) - (((c0.2.1 * c0.2.1) * l0) / 10000)) / 20)) < 3000 then (c0.2.1 + (((10 * dr) - (((c0.2.1 * c0.2.1) * l0) / 10000)) / 20)) else 3000) else 0) * (if 0 < (if (c0.2.1 + (((10 * dr) - (((c0.2.1 * c0.2.1) * l0) / 10000)) / 20)) < 3000 then (c0.2.1 + (((10 * dr) - (((c0.2.1 * c0.2.1) * l0) / 10000)) / 20)) else 3000) then (if (c0.2.1 + (((10 * dr) - (((c0.2.1 * c0.2.1) * l0) / 10000)) / 20)) < 3000 then (c0.2.1 + (((10 * dr) - (((c0.2.1 * c0.2.1) * l0) / 10000)) / 20)) else 3000) else 0)) * kk) / 10000) - c0.2.2.1) / 4)) then (c0.2.2.1 + ((((((if 0 < (if (c0.2.1 + (((10 * dr) - (((c0.2.1 * c0.2.1) * l0) / 10000)) / 20)) < 3000 then (c0.2.1 + (((10 * dr) - (((c0.2.1 * c0.2.1) * l0) / 10000)) / 20)) else 3000) then (if (c0.2.1 + (((10 * dr) - (((c0.2.1 * c0.2.1) * l0) / 10000)) / 20)) < 3000 then (c0.2.1 + (((10 * dr) - (((c0.2.1 * c0.2.1) * l0) / 10000)) / 20)) else 3000) else 0) * (if 0 < (if (c0.2.1 + (((10 * dr) - (((c0.2.1 * c0.2.1) * l0) / 10000)) / 20)) < 3000 then (c0.2.1 + (((10 * dr) - (((c0.2.1 * c0.2.1) * l0) / 10000)) / 20)) else 3000) then (if (c0.2.1 + (((10 * dr) - (((c0.2.1 * c0.2.1) * l0) / 10000)) / 20)) < 3000 then (c0.2.1 + (((10 * dr) - (((c0.2.1 * c0.2.1) * l0) / 10000)) / 20)) else 3000) else 0)) * kk) / 10000) - c0.2.2.1) / 4)) else c0.2.2.2.2))) hC hZ pX0_22 hk h_12 rfl rfl rfl (Nat.le_of_ble_eq_true rfl) dX0_step_145 (fun F_13 hF_14 H locs hZ => ?_)
    have h_15 := zeq hF_14
    have hq_16 : F_13 = va_up F k (oCourse (sStep kk l0 dr ln c0)) := by
      have hs : sStep kk l0 dr ln c0 = (c0.1 + 1, sPace l0 dr c0, sArch kk c0 (sPace l0 dr c0), sMin ln (c0.2.2.2.1 + sPace l0 dr c0 / 10), sMax c0.2.2.2.2 (sArch kk c0 (sPace l0 dr c0))) := by unfold sStep; rw [if_neg]; exact (fun h => Int32.not_le.mpr c_16 h)
      rw [hs, hF_14, hF_11, hF_8, hF_5, hF_2]
      simp only [bx_uu]; rfl
    exact zvret hC hZ hr hlocks hq_16 dX0_step_148
  · refine lv_aload_n hx hb dX0_step_19 rfl (lv_at hl 0 rfl) ?_
    refine lv_iconst (v := 0) hx hb dX0_step_20 (by decide) ?_
    refine lv_aload_n hx hb dX0_step_21 rfl (lv_at hl 0 rfl) ?_
    refine zget hC hZ fX0_16 hk h_3 rfl dX0_step_22 ?_
    refine lv_bipush (v := 50) hx hb dX0_step_25 (by decide) ?_
    refine lv_isub hx hb dX0_step_27 ?_
    refine zmax hC kX0_25 hl.1 (zRj_of rfl) (Nat.le_of_ble_eq_true rfl) ⟨Nat.le_refl _, Nat.le_refl _⟩ dX0_step_28 ?_
    refine zput (E := oCourse ((c0.1 + 1), c0.2.1, (if 0 < (c0.2.2.1 - 50) then (c0.2.2.1 - 50) else 0), c0.2.2.2.1, c0.2.2.2.2)) hC hZ pX0_16 hk h_3 rfl rfl rfl (Nat.le_of_ble_eq_true rfl) dX0_step_31 (fun F_17 hF_18 H locs hZ => ?_)
    have h_19 := zeq hF_18
    have hq_20 : F_17 = va_up F k (oCourse (sStep kk l0 dr ln c0)) := by
      have hs : sStep kk l0 dr ln c0 = (c0.1 + 1, c0.2.1, sMax 0 (c0.2.2.1 - 50), c0.2.2.2.1, c0.2.2.2.2) := by unfold sStep; rw [if_pos]; exact (Int32.not_lt.mp c_16)
      rw [hs, hF_18, hF_2]
      simp only [bx_uu]; rfl
    exact zvret hC hZ hr hlocks hq_20 dX0_step_34

theorem mX3_take : zMd yX3_take cX3_take 2 none 1 := ⟨by decide +kernel, gt_of 346 (by decide +kernel) rfl, gt_of 46 (by decide +kernel) rfl, by decide⟩
theorem dX3_take_0 : decode cX3_take 0 = .ok (.aload_n 0, 1) := by decide +kernel
theorem dX3_take_1 : decode cX3_take 1 = .ok (.aload_n 1, 1) := by decide +kernel
theorem dX3_take_2 : decode cX3_take 2 = .ok (.getfield 9, 3) := by decide +kernel
theorem fX3_9 : zFld RX3 9 3 0 := ⟨RX3, TX3, 4, rfl, inX3, by decide, rfl, Or.inl (gt_of 80 (by decide +kernel) rfl)⟩
theorem dX3_take_5 : decode cX3_take 5 = .ok (.putfield 9, 3) := by decide +kernel
theorem pX3_9 : zFldP RX3 9 3 0 false .int := ⟨RX3, TX3, 4, tyX3, rfl, inX3, by decide, rfl, Or.inl (gt_of 80 (by decide +kernel) rfl), tyX3_ok, nmX3, rfl, by decide +kernel, fun h => by cases h⟩
theorem dX3_take_8 : decode cX3_take 8 = .ok (.aload_n 0, 1) := by decide +kernel
theorem dX3_take_9 : decode cX3_take 9 = .ok (.aload_n 1, 1) := by decide +kernel
theorem dX3_take_10 : decode cX3_take 10 = .ok (.getfield 15, 3) := by decide +kernel
theorem fX3_15 : zFld RX3 15 3 1 := ⟨RX3, TX3, 4, rfl, inX3, by decide, rfl, Or.inl (gt_of 84 (by decide +kernel) rfl)⟩
theorem dX3_take_13 : decode cX3_take 13 = .ok (.putfield 15, 3) := by decide +kernel
theorem pX3_15 : zFldP RX3 15 3 1 false .int := ⟨RX3, TX3, 4, tyX3, rfl, inX3, by decide, rfl, Or.inl (gt_of 84 (by decide +kernel) rfl), tyX3_ok, nmX3, rfl, by decide +kernel, fun h => by cases h⟩
theorem dX3_take_16 : decode cX3_take 16 = .ok (.aload_n 0, 1) := by decide +kernel
theorem dX3_take_17 : decode cX3_take 17 = .ok (.aload_n 1, 1) := by decide +kernel
theorem dX3_take_18 : decode cX3_take 18 = .ok (.getfield 18, 3) := by decide +kernel
theorem fX3_18 : zFld RX3 18 3 2 := ⟨RX3, TX3, 4, rfl, inX3, by decide, rfl, Or.inl (gt_of 88 (by decide +kernel) rfl)⟩
theorem dX3_take_21 : decode cX3_take 21 = .ok (.putfield 18, 3) := by decide +kernel
theorem pX3_18 : zFldP RX3 18 3 2 false .int := ⟨RX3, TX3, 4, tyX3, rfl, inX3, by decide, rfl, Or.inl (gt_of 88 (by decide +kernel) rfl), tyX3_ok, nmX3, rfl, by decide +kernel, fun h => by cases h⟩
theorem dX3_take_24 : decode cX3_take 24 = .ok (.aload_n 0, 1) := by decide +kernel
theorem dX3_take_25 : decode cX3_take 25 = .ok (.aload_n 1, 1) := by decide +kernel
theorem dX3_take_26 : decode cX3_take 26 = .ok (.getfield 21, 3) := by decide +kernel
theorem fX3_21 : zFld RX3 21 3 3 := ⟨RX3, TX3, 4, rfl, inX3, by decide, rfl, Or.inl (gt_of 92 (by decide +kernel) rfl)⟩
theorem dX3_take_29 : decode cX3_take 29 = .ok (.putfield 21, 3) := by decide +kernel
theorem pX3_21 : zFldP RX3 21 3 3 false .int := ⟨RX3, TX3, 4, tyX3, rfl, inX3, by decide, rfl, Or.inl (gt_of 92 (by decide +kernel) rfl), tyX3_ok, nmX3, rfl, by decide +kernel, fun h => by cases h⟩
theorem dX3_take_32 : decode cX3_take 32 = .ok (.return_, 1) := by decide +kernel
set_option maxRecDepth 100000 in
theorem c_X3_take (l : Launch) (D : va_G) (cy : Nat → Nat) (n : Nat) (ad : Nat → Nat) (F : Nat → va_E) (sz : Nat) (k : Nat) (b0 : Stg) (hk : k < n) (hFk : F k = oSetting b0) (j : Nat) (b1 : Stg) (hj : j < n) (hFj : F j = oSetting b1) (hjk : j ≠ k) : Met l yX3_take (zw yX3_take cX3_take 2 none) (rmL 0) (zPc D cy n ad F sz [.ref (ad k), .ref (ad j)]) (va_Qv (fun F1 => F1 = va_up F k (oSetting b1)) (zB D n ad) (zA n ad sz)) 0 0 (zA n ad sz) := by
  refine zmet (by decide +kernel) (Nat.le_of_ble_eq_true rfl) (fun p e s m args below meth c ls hC hsz hZ hA hr hlocks hnm hl => ?_)
  have hC : zC p m c cX3_take 2 s args RX3 D cy := hC
  have hx := hC.1.1
  have hb := hC.1.2.1
  have hl : lv_has ls 2 [(0, .ref (ad k)), (1, .ref (ad j))] := hl
  refine lv_aload_n hx hb dX3_take_0 rfl (lv_at hl 0 rfl) ?_
  refine lv_aload_n hx hb dX3_take_1 rfl (lv_at hl 1 rfl) ?_
  refine zget hC hZ fX3_9 hj hFj rfl dX3_take_2 ?_
  refine zput (E := oSetting (b1.1, b0.2.1, b0.2.2.1, b0.2.2.2)) hC hZ pX3_9 hk hFk rfl rfl rfl (Nat.le_of_ble_eq_true rfl) dX3_take_5 (fun F_1 hF_2 H locs hZ => ?_)
  have h_3 := zeq hF_2
  refine lv_aload_n hx hb dX3_take_8 rfl (lv_at hl 0 rfl) ?_
  refine lv_aload_n hx hb dX3_take_9 rfl (lv_at hl 1 rfl) ?_
  refine zget hC hZ fX3_15 hj (zne hF_2 hjk hFj) rfl dX3_take_10 ?_
  refine zput (E := oSetting (b1.1, b1.2.1, b0.2.2.1, b0.2.2.2)) hC hZ pX3_15 hk h_3 rfl rfl rfl (Nat.le_of_ble_eq_true rfl) dX3_take_13 (fun F_4 hF_5 H locs hZ => ?_)
  have h_6 := zeq hF_5
  refine lv_aload_n hx hb dX3_take_16 rfl (lv_at hl 0 rfl) ?_
  refine lv_aload_n hx hb dX3_take_17 rfl (lv_at hl 1 rfl) ?_
  refine zget hC hZ fX3_18 hj (zne hF_5 hjk (zne hF_2 hjk hFj)) rfl dX3_take_18 ?_
  refine zput (E := oSetting (b1.1, b1.2.1, b1.2.2.1, b0.2.2.2)) hC hZ pX3_18 hk h_6 rfl rfl rfl (Nat.le_of_ble_eq_true rfl) dX3_take_21 (fun F_7 hF_8 H locs hZ => ?_)
  have h_9 := zeq hF_8
  refine lv_aload_n hx hb dX3_take_24 rfl (lv_at hl 0 rfl) ?_
  refine lv_aload_n hx hb dX3_take_25 rfl (lv_at hl 1 rfl) ?_
  refine zget hC hZ fX3_21 hj (zne hF_8 hjk (zne hF_5 hjk (zne hF_2 hjk hFj))) rfl dX3_take_26 ?_
  refine zput (E := oSetting (b1.1, b1.2.1, b1.2.2.1, b1.2.2.2)) hC hZ pX3_21 hk h_9 rfl rfl rfl (Nat.le_of_ble_eq_true rfl) dX3_take_29 (fun F_10 hF_11 H locs hZ => ?_)
  have h_12 := zeq hF_11
  have hq_13 : F_10 = va_up F k (oSetting b1) := by simp only [hF_11, hF_8, hF_5, hF_2, bx_uu]
  exact zvret hC hZ hr hlocks hq_13 dX3_take_32

theorem mX5_become : zMd yX5_become cX5_become 3 none 2 := ⟨by decide +kernel, gt_of 481 (by decide +kernel) rfl, gt_of 49 (by decide +kernel) rfl, by decide⟩
theorem dX5_become_0 : decode cX5_become 0 = .ok (.aload_n 0, 1) := by decide +kernel
theorem dX5_become_1 : decode cX5_become 1 = .ok (.iload_n 1, 1) := by decide +kernel
theorem dX5_become_2 : decode cX5_become 2 = .ok (.putfield 9, 3) := by decide +kernel
theorem pX5_9 : zFldP RX5 9 5 0 false .int := ⟨RX5, TX5, 2, tyX5, rfl, inX5, by decide, rfl, Or.inl (gt_of 169 (by decide +kernel) rfl), tyX5_ok, nmX5, rfl, by decide +kernel, fun h => by cases h⟩
theorem dX5_become_5 : decode cX5_become 5 = .ok (.aload_n 0, 1) := by decide +kernel
theorem dX5_become_6 : decode cX5_become 6 = .ok (.iload_n 2, 1) := by decide +kernel
theorem dX5_become_7 : decode cX5_become 7 = .ok (.putfield 15, 3) := by decide +kernel
theorem pX5_15 : zFldP RX5 15 5 1 false .int := ⟨RX5, TX5, 2, tyX5, rfl, inX5, by decide, rfl, Or.inl (gt_of 170 (by decide +kernel) rfl), tyX5_ok, nmX5, rfl, by decide +kernel, fun h => by cases h⟩
theorem dX5_become_10 : decode cX5_become 10 = .ok (.return_, 1) := by decide +kernel
set_option maxRecDepth 100000 in
theorem c_X5_become (l : Launch) (D : va_G) (cy : Nat → Nat) (n : Nat) (ad : Nat → Nat) (F : Nat → va_E) (sz : Nat) (k : Nat) (t : Tal) (hk : k < n) (hFk : F k = oTale t) (kd fg : Int32) : Met l yX5_become (zw yX5_become cX5_become 3 none) (rmL 0) (zPc D cy n ad F sz [.ref (ad k), .int kd, .int fg]) (va_Qv (fun F1 => F1 = va_up F k (oTale (kd, fg))) (zB D n ad) (zA n ad sz)) 0 0 (zA n ad sz) := by
  refine zmet (by decide +kernel) (Nat.le_of_ble_eq_true rfl) (fun p e s m args below meth c ls hC hsz hZ hA hr hlocks hnm hl => ?_)
  have hC : zC p m c cX5_become 3 s args RX5 D cy := hC
  have hx := hC.1.1
  have hb := hC.1.2.1
  have hl : lv_has ls 3 [(0, .ref (ad k)), (1, .int kd), (2, .int fg)] := hl
  refine lv_aload_n hx hb dX5_become_0 rfl (lv_at hl 0 rfl) ?_
  refine lv_iload_n hx hb dX5_become_1 rfl (lv_at hl 1 rfl) ?_
  refine zput (E := oTale (kd, t.2)) hC hZ pX5_9 hk hFk rfl rfl rfl (Nat.le_of_ble_eq_true rfl) dX5_become_2 (fun F_1 hF_2 H locs hZ => ?_)
  have h_3 := zeq hF_2
  refine lv_aload_n hx hb dX5_become_5 rfl (lv_at hl 0 rfl) ?_
  refine lv_iload_n hx hb dX5_become_6 rfl (lv_at hl 2 rfl) ?_
  refine zput (E := oTale (kd, fg)) hC hZ pX5_15 hk h_3 rfl rfl rfl (Nat.le_of_ble_eq_true rfl) dX5_become_7 (fun F_4 hF_5 H locs hZ => ?_)
  have h_6 := zeq hF_5
  have hq_7 : F_4 = va_up F k (oTale (kd, fg)) := by simp only [hF_5, hF_2, bx_uu]
  exact zvret hC hZ hr hlocks hq_7 dX5_become_10

theorem mX5_kickOfKicked : zMd yX5_kickOfKicked cX5_kickOfKicked 2 (some .int) 1 := ⟨by decide +kernel, gt_of 382 (by decide +kernel) rfl, gt_of 49 (by decide +kernel) rfl, by decide⟩
theorem dX5_kickOfKicked_0 : decode cX5_kickOfKicked 0 = .ok (.aload_n 0, 1) := by decide +kernel
theorem dX5_kickOfKicked_1 : decode cX5_kickOfKicked 1 = .ok (.getfield 15, 3) := by decide +kernel
theorem fX5_15 : zFld RX5 15 5 1 := ⟨RX5, TX5, 2, rfl, inX5, by decide, rfl, Or.inl (gt_of 170 (by decide +kernel) rfl)⟩
theorem dX5_kickOfKicked_4 : decode cX5_kickOfKicked 4 = .ok (.aload_n 1, 1) := by decide +kernel
theorem dX5_kickOfKicked_5 : decode cX5_kickOfKicked 5 = .ok (.getfield 30, 3) := by decide +kernel
theorem fX5_30 : zFld RX5 30 3 0 := ⟨RX3, TX3, 4, rfl, inX3, by decide, rfl, Or.inr ⟨"ChainLeap", List.mem_of_getElem? (i := 81) (by decide +kernel)⟩⟩
theorem dX5_kickOfKicked_8 : decode cX5_kickOfKicked 8 = .ok (.imul, 1) := by decide +kernel
theorem dX5_kickOfKicked_9 : decode cX5_kickOfKicked 9 = .ok (.bipush 100, 2) := by decide +kernel
theorem dX5_kickOfKicked_11 : decode cX5_kickOfKicked 11 = .ok (.idiv, 1) := by decide +kernel
theorem dX5_kickOfKicked_12 : decode cX5_kickOfKicked 12 = .ok (.ireturn, 1) := by decide +kernel
set_option maxRecDepth 100000 in
theorem c_X5_kickOfKicked (l : Launch) (D : va_G) (cy : Nat → Nat) (n : Nat) (ad : Nat → Nat) (F : Nat → va_E) (sz : Nat) (k : Nat) (t : Tal) (hk : k < n) (hFk : F k = oTale t) (j : Nat) (b : Stg) (hj : j < n) (hFj : F j = oSetting b) : Met l yX5_kickOfKicked (zw yX5_kickOfKicked cX5_kickOfKicked 2 (some .int)) (rmL 0) (zPc D cy n ad F sz [.ref (ad k), .ref (ad j)]) (va_Qi (fun r F1 => r = sKK t b ∧ F = F1) (zB D n ad) (zA n ad sz)) 0 0 (zA n ad sz) := by
  refine zmet (by decide +kernel) (Nat.le_of_ble_eq_true rfl) (fun p e s m args below meth c ls hC hsz hZ hA hr hlocks hnm hl => ?_)
  have hC : zC p m c cX5_kickOfKicked 2 s args RX5 D cy := hC
  have hx := hC.1.1
  have hb := hC.1.2.1
  have hl : lv_has ls 2 [(0, .ref (ad k)), (1, .ref (ad j))] := hl
  refine lv_aload_n hx hb dX5_kickOfKicked_0 rfl (lv_at hl 0 rfl) ?_
  refine zget hC hZ fX5_15 hk hFk rfl dX5_kickOfKicked_1 ?_
  refine lv_aload_n hx hb dX5_kickOfKicked_4 rfl (lv_at hl 1 rfl) ?_
  refine zget hC hZ fX5_30 hj hFj rfl dX5_kickOfKicked_5 ?_
  refine lv_imul hx hb dX5_kickOfKicked_8 ?_
  refine lv_bipush (v := 100) hx hb dX5_kickOfKicked_9 (by decide) ?_
  refine lv_idiv hx hb dX5_kickOfKicked_11 (by decide) ?_
  have hq_1 : ((t.2 * b.1) / 100) = sKK t b := by rfl
  exact zireti hC hZ hr hlocks ⟨hq_1, rfl⟩ dX5_kickOfKicked_12

theorem mX5_kickOfThrown : zMd yX5_kickOfThrown cX5_kickOfThrown 2 (some .int) 1 := ⟨by decide +kernel, gt_of 386 (by decide +kernel) rfl, gt_of 49 (by decide +kernel) rfl, by decide⟩
theorem dX5_kickOfThrown_0 : decode cX5_kickOfThrown 0 = .ok (.aload_n 1, 1) := by decide +kernel
theorem dX5_kickOfThrown_1 : decode cX5_kickOfThrown 1 = .ok (.getfield 33, 3) := by decide +kernel
theorem fX5_33 : zFld RX5 33 3 2 := ⟨RX3, TX3, 4, rfl, inX3, by decide, rfl, Or.inr ⟨"ChainLeap", List.mem_of_getElem? (i := 90) (by decide +kernel)⟩⟩
theorem dX5_kickOfThrown_4 : decode cX5_kickOfThrown 4 = .ok (.lookupswitch 40 #[(0, 28), (1, 35)], 28) := by decide +kernel
theorem dX5_kickOfThrown_32 : decode cX5_kickOfThrown 32 = .ok (.aload_n 0, 1) := by decide +kernel
theorem dX5_kickOfThrown_33 : decode cX5_kickOfThrown 33 = .ok (.getfield 15, 3) := by decide +kernel
theorem dX5_kickOfThrown_36 : decode cX5_kickOfThrown 36 = .ok (.iconst 2, 1) := by decide +kernel
theorem dX5_kickOfThrown_37 : decode cX5_kickOfThrown 37 = .ok (.idiv, 1) := by decide +kernel
theorem dX5_kickOfThrown_38 : decode cX5_kickOfThrown 38 = .ok (.ireturn, 1) := by decide +kernel
theorem dX5_kickOfThrown_39 : decode cX5_kickOfThrown 39 = .ok (.aload_n 0, 1) := by decide +kernel
theorem dX5_kickOfThrown_40 : decode cX5_kickOfThrown 40 = .ok (.getfield 15, 3) := by decide +kernel
theorem dX5_kickOfThrown_43 : decode cX5_kickOfThrown 43 = .ok (.ireturn, 1) := by decide +kernel
theorem dX5_kickOfThrown_44 : decode cX5_kickOfThrown 44 = .ok (.iconst 0, 1) := by decide +kernel
theorem dX5_kickOfThrown_45 : decode cX5_kickOfThrown 45 = .ok (.ireturn, 1) := by decide +kernel
set_option maxRecDepth 100000 in
theorem c_X5_kickOfThrown (l : Launch) (D : va_G) (cy : Nat → Nat) (n : Nat) (ad : Nat → Nat) (F : Nat → va_E) (sz : Nat) (k : Nat) (t : Tal) (hk : k < n) (hFk : F k = oTale t) (j : Nat) (b : Stg) (hj : j < n) (hFj : F j = oSetting b) : Met l yX5_kickOfThrown (zw yX5_kickOfThrown cX5_kickOfThrown 2 (some .int)) (rmL 0) (zPc D cy n ad F sz [.ref (ad k), .ref (ad j)]) (va_Qi (fun r F1 => r = sKT t b ∧ F = F1) (zB D n ad) (zA n ad sz)) 0 0 (zA n ad sz) := by
  refine zmet (by decide +kernel) (Nat.le_of_ble_eq_true rfl) (fun p e s m args below meth c ls hC hsz hZ hA hr hlocks hnm hl => ?_)
  have hC : zC p m c cX5_kickOfThrown 2 s args RX5 D cy := hC
  have hx := hC.1.1
  have hb := hC.1.2.1
  have hl : lv_has ls 2 [(0, .ref (ad k)), (1, .ref (ad j))] := hl
  refine lv_aload_n hx hb dX5_kickOfThrown_0 rfl (lv_at hl 1 rfl) ?_
  refine zget hC hZ fX5_33 hj hFj rfl dX5_kickOfThrown_1 ?_
  by_cases c_4_0 : b.2.2.1 = 0
  · refine lv_lookup (off := 28) (tgt := 32) hx hb dX5_kickOfThrown_4 (by decide) (by rw [c_4_0]; decide) (by decide) ?_
    refine lv_aload_n hx hb dX5_kickOfThrown_32 rfl (lv_at hl 0 rfl) ?_
    refine zget hC hZ fX5_15 hk hFk rfl dX5_kickOfThrown_33 ?_
    refine lv_iconst (v := 2) hx hb dX5_kickOfThrown_36 (by decide) ?_
    refine lv_idiv hx hb dX5_kickOfThrown_37 (by decide) ?_
    have hq_1 : (t.2 / 2) = sKT t b := by first | rfl | simp [sKT, c_4_0] | (simp only [sKT]; simp [c_4_0])
    exact zireti hC hZ hr hlocks ⟨hq_1, rfl⟩ dX5_kickOfThrown_38
  · by_cases c_4_1 : b.2.2.1 = 1
    · refine lv_lookup (off := 35) (tgt := 39) hx hb dX5_kickOfThrown_4 (by decide) (by rw [c_4_1]; decide) (by decide) ?_
      refine lv_aload_n hx hb dX5_kickOfThrown_39 rfl (lv_at hl 0 rfl) ?_
      refine zget hC hZ fX5_15 hk hFk rfl dX5_kickOfThrown_40 ?_
      have hq_2 : t.2 = sKT t b := by first | rfl | simp [sKT, c_4_0, c_4_1] | (simp only [sKT]; simp [c_4_0, c_4_1])
      exact zireti hC hZ hr hlocks ⟨hq_2, rfl⟩ dX5_kickOfThrown_43
    · refine lv_lookup (off := 40) (tgt := 44) hx hb dX5_kickOfThrown_4 (by decide) ((lv_osw (k := 0) c_4_0 rfl).trans ((lv_osw (k := 1) c_4_1 rfl).trans rfl)) (by decide) ?_
      refine lv_iconst (v := 0) hx hb dX5_kickOfThrown_44 (by decide) ?_
      have hq_3 : (0 : Int32) = sKT t b := by first | rfl | simp [sKT, c_4_0, c_4_1] | (simp only [sKT]; simp [c_4_0, c_4_1])
      exact zireti hC hZ hr hlocks ⟨hq_3, rfl⟩ dX5_kickOfThrown_45

theorem mX5_kick : zMd yX5_kick cX5_kick 2 (some .int) 1 := ⟨by decide +kernel, gt_of 378 (by decide +kernel) rfl, gt_of 49 (by decide +kernel) rfl, by decide⟩
theorem dX5_kick_0 : decode cX5_kick 0 = .ok (.aload_n 0, 1) := by decide +kernel
theorem dX5_kick_1 : decode cX5_kick 1 = .ok (.getfield 9, 3) := by decide +kernel
theorem fX5_9 : zFld RX5 9 5 0 := ⟨RX5, TX5, 2, rfl, inX5, by decide, rfl, Or.inl (gt_of 169 (by decide +kernel) rfl)⟩
theorem dX5_kick_4 : decode cX5_kick 4 = .ok (.tableswitch 77 1 6 #[40, 46, 63, 40, 77, 69], 40) := by decide +kernel
theorem dX5_kick_44 : decode cX5_kick 44 = .ok (.aload_n 0, 1) := by decide +kernel
theorem dX5_kick_45 : decode cX5_kick 45 = .ok (.aload_n 1, 1) := by decide +kernel
theorem dX5_kick_46 : decode cX5_kick 46 = .ok (.invokevirtual 18, 3) := by decide +kernel
theorem kX5_18 : zLk RX5 18 yX5_kickOfKicked := Or.inl (gt_of 379 (by decide +kernel) rfl)
theorem vX5_kickOfKicked : zMi yX5_kickOfKicked := ⟨gt_of 381 (by decide +kernel) rfl, gt_of 10 (by decide +kernel) rfl⟩
theorem dX5_kick_49 : decode cX5_kick 49 = .ok (.ireturn, 1) := by decide +kernel
theorem dX5_kick_50 : decode cX5_kick 50 = .ok (.aload_n 0, 1) := by decide +kernel
theorem dX5_kick_51 : decode cX5_kick 51 = .ok (.aload_n 1, 1) := by decide +kernel
theorem dX5_kick_52 : decode cX5_kick 52 = .ok (.invokevirtual 18, 3) := by decide +kernel
theorem dX5_kick_55 : decode cX5_kick 55 = .ok (.bipush 100, 2) := by decide +kernel
theorem dX5_kick_57 : decode cX5_kick 57 = .ok (.aload_n 1, 1) := by decide +kernel
theorem dX5_kick_58 : decode cX5_kick 58 = .ok (.getfield 22, 3) := by decide +kernel
theorem fX5_22 : zFld RX5 22 3 1 := ⟨RX3, TX3, 4, rfl, inX3, by decide, rfl, Or.inr ⟨"ChainLeap", List.mem_of_getElem? (i := 85) (by decide +kernel)⟩⟩
theorem dX5_kick_61 : decode cX5_kick 61 = .ok (.isub, 1) := by decide +kernel
theorem dX5_kick_62 : decode cX5_kick 62 = .ok (.imul, 1) := by decide +kernel
theorem dX5_kick_63 : decode cX5_kick 63 = .ok (.bipush 100, 2) := by decide +kernel
theorem dX5_kick_65 : decode cX5_kick 65 = .ok (.idiv, 1) := by decide +kernel
theorem dX5_kick_66 : decode cX5_kick 66 = .ok (.ireturn, 1) := by decide +kernel
theorem dX5_kick_67 : decode cX5_kick 67 = .ok (.aload_n 0, 1) := by decide +kernel
theorem dX5_kick_68 : decode cX5_kick 68 = .ok (.aload_n 1, 1) := by decide +kernel
theorem dX5_kick_69 : decode cX5_kick 69 = .ok (.invokevirtual 27, 3) := by decide +kernel
theorem kX5_27 : zLk RX5 27 yX5_kickOfThrown := Or.inl (gt_of 383 (by decide +kernel) rfl)
theorem vX5_kickOfThrown : zMi yX5_kickOfThrown := ⟨gt_of 385 (by decide +kernel) rfl, gt_of 11 (by decide +kernel) rfl⟩
theorem dX5_kick_72 : decode cX5_kick 72 = .ok (.ireturn, 1) := by decide +kernel
theorem dX5_kick_81 : decode cX5_kick 81 = .ok (.iconst 0, 1) := by decide +kernel
theorem dX5_kick_82 : decode cX5_kick 82 = .ok (.ireturn, 1) := by decide +kernel
theorem dX5_kick_73 : decode cX5_kick 73 = .ok (.aload_n 0, 1) := by decide +kernel
theorem dX5_kick_74 : decode cX5_kick 74 = .ok (.aload_n 1, 1) := by decide +kernel
theorem dX5_kick_75 : decode cX5_kick 75 = .ok (.invokevirtual 18, 3) := by decide +kernel
theorem dX5_kick_78 : decode cX5_kick 78 = .ok (.iconst 2, 1) := by decide +kernel
theorem dX5_kick_79 : decode cX5_kick 79 = .ok (.idiv, 1) := by decide +kernel
theorem dX5_kick_80 : decode cX5_kick 80 = .ok (.ireturn, 1) := by decide +kernel
set_option maxRecDepth 100000 in
theorem c_X5_kick (l : Launch) (D : va_G) (cy : Nat → Nat) (n : Nat) (ad : Nat → Nat) (F : Nat → va_E) (sz : Nat) (k : Nat) (t : Tal) (hk : k < n) (hFk : F k = oTale t) (j : Nat) (b : Stg) (hj : j < n) (hFj : F j = oSetting b) : Met l yX5_kick (zw yX5_kick cX5_kick 2 (some .int)) (rmL 1) (zPc D cy n ad F sz [.ref (ad k), .ref (ad j)]) (va_Qi (fun r F1 => r = sKick t b ∧ F = F1) (zB D n ad) (zA n ad sz)) 0 0 (zA n ad sz) := by
  refine zmet (by decide +kernel) (Nat.le_of_ble_eq_true rfl) (fun p e s m args below meth c ls hC hsz hZ hA hr hlocks hnm hl => ?_)
  have hC : zC p m c cX5_kick 2 s args RX5 D cy := hC
  have hx := hC.1.1
  have hb := hC.1.2.1
  have hl : lv_has ls 2 [(0, .ref (ad k)), (1, .ref (ad j))] := hl
  refine lv_aload_n hx hb dX5_kick_0 rfl (lv_at hl 0 rfl) ?_
  refine zget hC hZ fX5_9 hk hFk rfl dX5_kick_1 ?_
  by_cases c_4_1 : t.1 = 1
  · refine lv_tableIn (off := 40) (tgt := 44) hx hb dX5_kick_4 (by rw [c_4_1]; decide) (by rw [c_4_1]; decide) (by rw [c_4_1]; rfl) (by decide) ?_
    refine lv_aload_n hx hb dX5_kick_44 rfl (lv_at hl 0 rfl) ?_
    refine lv_aload_n hx hb dX5_kick_45 rfl (lv_at hl 1 rfl) ?_
    refine zgoi hZ hA (zrunV (As := [.ref (ad j)]) (rest := []) (k := k) hC hZ (c_X5_kickOfKicked l D cy n ad F s.heap.size k t hk hFk j b hj hFj) mX5_kickOfKicked vX5_kickOfKicked kX5_18 (zRj_of rfl) hk hFk rfl rfl hl.1 rfl (Nat.le_of_ble_eq_true rfl) dX5_kick_46 ⟨Nat.le_refl _, Nat.le_refl _⟩) (fun r_2 F_1 hp_3 H locs hZ => ?_)
    obtain ⟨rfl, rfl⟩ := hp_3
    have hq_4 : (sKK t b) = sKick t b := by first | rfl | simp [sKick, c_4_1] | (simp only [sKick]; simp [c_4_1])
    exact zireti hC hZ hr hlocks ⟨hq_4, rfl⟩ dX5_kick_49
  · by_cases c_4_2 : t.1 = 2
    · refine lv_tableIn (off := 46) (tgt := 50) hx hb dX5_kick_4 (by rw [c_4_2]; decide) (by rw [c_4_2]; decide) (by rw [c_4_2]; rfl) (by decide) ?_
      refine lv_aload_n hx hb dX5_kick_50 rfl (lv_at hl 0 rfl) ?_
      refine lv_aload_n hx hb dX5_kick_51 rfl (lv_at hl 1 rfl) ?_
      refine zgoi hZ hA (zrunV (As := [.ref (ad j)]) (rest := []) (k := k) hC hZ (c_X5_kickOfKicked l D cy n ad F s.heap.size k t hk hFk j b hj hFj) mX5_kickOfKicked vX5_kickOfKicked kX5_18 (zRj_of rfl) hk hFk rfl rfl hl.1 rfl (Nat.le_of_ble_eq_true rfl) dX5_kick_52 ⟨Nat.le_refl _, Nat.le_refl _⟩) (fun r_6 F_5 hp_7 H locs hZ => ?_)
      obtain ⟨rfl, rfl⟩ := hp_7
      refine lv_bipush (v := 100) hx hb dX5_kick_55 (by decide) ?_
      refine lv_aload_n hx hb dX5_kick_57 rfl (lv_at hl 1 rfl) ?_
      refine zget hC hZ fX5_22 hj hFj rfl dX5_kick_58 ?_
      refine lv_isub hx hb dX5_kick_61 ?_
      refine lv_imul hx hb dX5_kick_62 ?_
      refine lv_bipush (v := 100) hx hb dX5_kick_63 (by decide) ?_
      refine lv_idiv hx hb dX5_kick_65 (by decide) ?_
      have hq_8 : (((sKK t b) * (100 - b.2.1)) / 100) = sKick t b := by first | rfl | simp [sKick, c_4_1, c_4_2] | (simp only [sKick]; simp [c_4_1, c_4_2])
      exact zireti hC hZ hr hlocks ⟨hq_8, rfl⟩ dX5_kick_66
    · by_cases c_4_3 : t.1 = 3
      · refine lv_tableIn (off := 63) (tgt := 67) hx hb dX5_kick_4 (by rw [c_4_3]; decide) (by rw [c_4_3]; decide) (by rw [c_4_3]; rfl) (by decide) ?_
        refine lv_aload_n hx hb dX5_kick_67 rfl (lv_at hl 0 rfl) ?_
        refine lv_aload_n hx hb dX5_kick_68 rfl (lv_at hl 1 rfl) ?_
        refine zgoi hZ hA (zrunV (As := [.ref (ad j)]) (rest := []) (k := k) hC hZ (c_X5_kickOfThrown l D cy n ad F s.heap.size k t hk hFk j b hj hFj) mX5_kickOfThrown vX5_kickOfThrown kX5_27 (zRj_of rfl) hk hFk rfl rfl hl.1 rfl (Nat.le_of_ble_eq_true rfl) dX5_kick_69 ⟨Nat.le_refl _, Nat.le_refl _⟩) (fun r_10 F_9 hp_11 H locs hZ => ?_)
        obtain ⟨rfl, rfl⟩ := hp_11
        have hq_12 : (sKT t b) = sKick t b := by first | rfl | simp [sKick, c_4_1, c_4_2, c_4_3] | (simp only [sKick]; simp [c_4_1, c_4_2, c_4_3])
        exact zireti hC hZ hr hlocks ⟨hq_12, rfl⟩ dX5_kick_72
      · by_cases c_4_4 : t.1 = 4
        · refine lv_tableIn (off := 40) (tgt := 44) hx hb dX5_kick_4 (by rw [c_4_4]; decide) (by rw [c_4_4]; decide) (by rw [c_4_4]; rfl) (by decide) ?_
          refine lv_aload_n hx hb dX5_kick_44 rfl (lv_at hl 0 rfl) ?_
          refine lv_aload_n hx hb dX5_kick_45 rfl (lv_at hl 1 rfl) ?_
          refine zgoi hZ hA (zrunV (As := [.ref (ad j)]) (rest := []) (k := k) hC hZ (c_X5_kickOfKicked l D cy n ad F s.heap.size k t hk hFk j b hj hFj) mX5_kickOfKicked vX5_kickOfKicked kX5_18 (zRj_of rfl) hk hFk rfl rfl hl.1 rfl (Nat.le_of_ble_eq_true rfl) dX5_kick_46 ⟨Nat.le_refl _, Nat.le_refl _⟩) (fun r_14 F_13 hp_15 H locs hZ => ?_)
          obtain ⟨rfl, rfl⟩ := hp_15
          have hq_16 : (sKK t b) = sKick t b := by first | rfl | simp [sKick, c_4_1, c_4_2, c_4_3, c_4_4] | (simp only [sKick]; simp [c_4_1, c_4_2, c_4_3, c_4_4])
          exact zireti hC hZ hr hlocks ⟨hq_16, rfl⟩ dX5_kick_49
        · by_cases c_4_5 : t.1 = 5
          · refine lv_tableIn (off := 77) (tgt := 81) hx hb dX5_kick_4 (by rw [c_4_5]; decide) (by rw [c_4_5]; decide) (by rw [c_4_5]; rfl) (by decide) ?_
            refine lv_iconst (v := 0) hx hb dX5_kick_81 (by decide) ?_
            have hq_17 : (0 : Int32) = sKick t b := by first | rfl | simp [sKick, c_4_1, c_4_2, c_4_3, c_4_4, c_4_5] | (simp only [sKick]; simp [c_4_1, c_4_2, c_4_3, c_4_4, c_4_5])
            exact zireti hC hZ hr hlocks ⟨hq_17, rfl⟩ dX5_kick_82
          · by_cases c_4_6 : t.1 = 6
            · refine lv_tableIn (off := 69) (tgt := 73) hx hb dX5_kick_4 (by rw [c_4_6]; decide) (by rw [c_4_6]; decide) (by rw [c_4_6]; rfl) (by decide) ?_
              refine lv_aload_n hx hb dX5_kick_73 rfl (lv_at hl 0 rfl) ?_
              refine lv_aload_n hx hb dX5_kick_74 rfl (lv_at hl 1 rfl) ?_
              refine zgoi hZ hA (zrunV (As := [.ref (ad j)]) (rest := []) (k := k) hC hZ (c_X5_kickOfKicked l D cy n ad F s.heap.size k t hk hFk j b hj hFj) mX5_kickOfKicked vX5_kickOfKicked kX5_18 (zRj_of rfl) hk hFk rfl rfl hl.1 rfl (Nat.le_of_ble_eq_true rfl) dX5_kick_75 ⟨Nat.le_refl _, Nat.le_refl _⟩) (fun r_19 F_18 hp_20 H locs hZ => ?_)
              obtain ⟨rfl, rfl⟩ := hp_20
              refine lv_iconst (v := 2) hx hb dX5_kick_78 (by decide) ?_
              refine lv_idiv hx hb dX5_kick_79 (by decide) ?_
              have hq_21 : ((sKK t b) / 2) = sKick t b := by first | rfl | simp [sKick, c_4_1, c_4_2, c_4_3, c_4_4, c_4_5, c_4_6] | (simp only [sKick]; simp [c_4_1, c_4_2, c_4_3, c_4_4, c_4_5, c_4_6])
              exact zireti hC hZ hr hlocks ⟨hq_21, rfl⟩ dX5_kick_80
            · refine lv_tableOut (tgt := 81) hx hb dX5_kick_4 (by have e0 : ¬ t.1.toInt = 1 := lv_neT (k := 1) c_4_1 rfl; have e1 : ¬ t.1.toInt = 2 := lv_neT (k := 2) c_4_2 rfl; have e2 : ¬ t.1.toInt = 3 := lv_neT (k := 3) c_4_3 rfl; have e3 : ¬ t.1.toInt = 4 := lv_neT (k := 4) c_4_4 rfl; have e4 : ¬ t.1.toInt = 5 := lv_neT (k := 5) c_4_5 rfl; have e5 : ¬ t.1.toInt = 6 := lv_neT (k := 6) c_4_6 rfl; omega) (by decide) ?_
              refine lv_iconst (v := 0) hx hb dX5_kick_81 (by decide) ?_
              have hq_22 : (0 : Int32) = sKick t b := by first | rfl | simp [sKick, c_4_1, c_4_2, c_4_3, c_4_4, c_4_5, c_4_6] | (simp only [sKick]; simp [c_4_1, c_4_2, c_4_3, c_4_4, c_4_5, c_4_6])
              exact zireti hC hZ hr hlocks ⟨hq_22, rfl⟩ dX5_kick_82

theorem mX5_draw : zMd yX5_draw cX5_draw 1 (some .int) 0 := ⟨by decide +kernel, gt_of 390 (by decide +kernel) rfl, gt_of 49 (by decide +kernel) rfl, by decide⟩
theorem dX5_draw_0 : decode cX5_draw 0 = .ok (.aload_n 0, 1) := by decide +kernel
theorem dX5_draw_1 : decode cX5_draw 1 = .ok (.getfield 9, 3) := by decide +kernel
theorem dX5_draw_4 : decode cX5_draw 4 = .ok (.iconst 4, 1) := by decide +kernel
theorem dX5_draw_5 : decode cX5_draw 5 = .ok (.if_icmp .ne 10, 3) := by decide +kernel
theorem dX5_draw_15 : decode cX5_draw 15 = .ok (.iconst 0, 1) := by decide +kernel
theorem dX5_draw_16 : decode cX5_draw 16 = .ok (.ireturn, 1) := by decide +kernel
theorem dX5_draw_8 : decode cX5_draw 8 = .ok (.aload_n 0, 1) := by decide +kernel
theorem dX5_draw_9 : decode cX5_draw 9 = .ok (.getfield 15, 3) := by decide +kernel
theorem dX5_draw_12 : decode cX5_draw 12 = .ok (.goto 4, 3) := by decide +kernel
set_option maxRecDepth 100000 in
theorem c_X5_draw (l : Launch) (D : va_G) (cy : Nat → Nat) (n : Nat) (ad : Nat → Nat) (F : Nat → va_E) (sz : Nat) (k : Nat) (t : Tal) (hk : k < n) (hFk : F k = oTale t) : Met l yX5_draw (zw yX5_draw cX5_draw 1 (some .int)) (rmL 0) (zPc D cy n ad F sz [.ref (ad k)]) (va_Qi (fun r F1 => r = sDraw t ∧ F = F1) (zB D n ad) (zA n ad sz)) 0 0 (zA n ad sz) := by
  refine zmet (by decide +kernel) (Nat.le_of_ble_eq_true rfl) (fun p e s m args below meth c ls hC hsz hZ hA hr hlocks hnm hl => ?_)
  have hC : zC p m c cX5_draw 1 s args RX5 D cy := hC
  have hx := hC.1.1
  have hb := hC.1.2.1
  have hl : lv_has ls 1 [(0, .ref (ad k))] := hl
  refine lv_aload_n hx hb dX5_draw_0 rfl (lv_at hl 0 rfl) ?_
  refine zget hC hZ fX5_9 hk hFk rfl dX5_draw_1 ?_
  refine lv_iconst (v := 4) hx hb dX5_draw_4 (by decide) ?_
  refine lv_icmp_ne (tgt := 15) hx hb dX5_draw_5 (by decide) (fun c_5 => ?_) (fun c_5 => ?_)
  · refine lv_iconst (v := 0) hx hb dX5_draw_15 (by decide) ?_
    have hq_1 : (0 : Int32) = sDraw t := by first | rfl | simp [sDraw, c_5] | (simp only [sDraw]; simp [c_5])
    exact zireti hC hZ hr hlocks ⟨hq_1, rfl⟩ dX5_draw_16
  · refine lv_aload_n hx hb dX5_draw_8 rfl (lv_at hl 0 rfl) ?_
    refine zget hC hZ fX5_15 hk hFk rfl dX5_draw_9 ?_
    refine lv_goto (tgt := 16) hx hb dX5_draw_12 (by decide) ?_
    have hq_2 : t.2 = sDraw t := by first | rfl | simp [sDraw, c_5] | (simp only [sDraw]; simp [c_5])
    exact zireti hC hZ hr hlocks ⟨hq_2, rfl⟩ dX5_draw_16

theorem mX5_hold : zMd yX5_hold cX5_hold 1 (some .int) 0 := ⟨by decide +kernel, gt_of 394 (by decide +kernel) rfl, gt_of 49 (by decide +kernel) rfl, by decide⟩
theorem dX5_hold_0 : decode cX5_hold 0 = .ok (.aload_n 0, 1) := by decide +kernel
theorem dX5_hold_1 : decode cX5_hold 1 = .ok (.getfield 9, 3) := by decide +kernel
theorem dX5_hold_4 : decode cX5_hold 4 = .ok (.lookupswitch 40 #[(5, 28), (6, 33)], 28) := by decide +kernel
theorem dX5_hold_32 : decode cX5_hold 32 = .ok (.aload_n 0, 1) := by decide +kernel
theorem dX5_hold_33 : decode cX5_hold 33 = .ok (.getfield 15, 3) := by decide +kernel
theorem dX5_hold_36 : decode cX5_hold 36 = .ok (.ireturn, 1) := by decide +kernel
theorem dX5_hold_37 : decode cX5_hold 37 = .ok (.aload_n 0, 1) := by decide +kernel
theorem dX5_hold_38 : decode cX5_hold 38 = .ok (.getfield 15, 3) := by decide +kernel
theorem dX5_hold_41 : decode cX5_hold 41 = .ok (.iconst 4, 1) := by decide +kernel
theorem dX5_hold_42 : decode cX5_hold 42 = .ok (.idiv, 1) := by decide +kernel
theorem dX5_hold_43 : decode cX5_hold 43 = .ok (.ireturn, 1) := by decide +kernel
theorem dX5_hold_44 : decode cX5_hold 44 = .ok (.iconst 0, 1) := by decide +kernel
theorem dX5_hold_45 : decode cX5_hold 45 = .ok (.ireturn, 1) := by decide +kernel
set_option maxRecDepth 100000 in
theorem c_X5_hold (l : Launch) (D : va_G) (cy : Nat → Nat) (n : Nat) (ad : Nat → Nat) (F : Nat → va_E) (sz : Nat) (k : Nat) (t : Tal) (hk : k < n) (hFk : F k = oTale t) : Met l yX5_hold (zw yX5_hold cX5_hold 1 (some .int)) (rmL 0) (zPc D cy n ad F sz [.ref (ad k)]) (va_Qi (fun r F1 => r = sHold t ∧ F = F1) (zB D n ad) (zA n ad sz)) 0 0 (zA n ad sz) := by
  refine zmet (by decide +kernel) (Nat.le_of_ble_eq_true rfl) (fun p e s m args below meth c ls hC hsz hZ hA hr hlocks hnm hl => ?_)
  have hC : zC p m c cX5_hold 1 s args RX5 D cy := hC
  have hx := hC.1.1
  have hb := hC.1.2.1
  have hl : lv_has ls 1 [(0, .ref (ad k))] := hl
  refine lv_aload_n hx hb dX5_hold_0 rfl (lv_at hl 0 rfl) ?_
  refine zget hC hZ fX5_9 hk hFk rfl dX5_hold_1 ?_
  by_cases c_4_5 : t.1 = 5
  · refine lv_lookup (off := 28) (tgt := 32) hx hb dX5_hold_4 (by decide) (by rw [c_4_5]; decide) (by decide) ?_
    refine lv_aload_n hx hb dX5_hold_32 rfl (lv_at hl 0 rfl) ?_
    refine zget hC hZ fX5_15 hk hFk rfl dX5_hold_33 ?_
    have hq_1 : t.2 = sHold t := by first | rfl | simp [sHold, c_4_5] | (simp only [sHold]; simp [c_4_5])
    exact zireti hC hZ hr hlocks ⟨hq_1, rfl⟩ dX5_hold_36
  · by_cases c_4_6 : t.1 = 6
    · refine lv_lookup (off := 33) (tgt := 37) hx hb dX5_hold_4 (by decide) (by rw [c_4_6]; decide) (by decide) ?_
      refine lv_aload_n hx hb dX5_hold_37 rfl (lv_at hl 0 rfl) ?_
      refine zget hC hZ fX5_15 hk hFk rfl dX5_hold_38 ?_
      refine lv_iconst (v := 4) hx hb dX5_hold_41 (by decide) ?_
      refine lv_idiv hx hb dX5_hold_42 (by decide) ?_
      have hq_2 : (t.2 / 4) = sHold t := by first | rfl | simp [sHold, c_4_5, c_4_6] | (simp only [sHold]; simp [c_4_5, c_4_6])
      exact zireti hC hZ hr hlocks ⟨hq_2, rfl⟩ dX5_hold_43
    · refine lv_lookup (off := 40) (tgt := 44) hx hb dX5_hold_4 (by decide) ((lv_osw (k := 5) c_4_5 rfl).trans ((lv_osw (k := 6) c_4_6 rfl).trans rfl)) (by decide) ?_
      refine lv_iconst (v := 0) hx hb dX5_hold_44 (by decide) ?_
      have hq_3 : (0 : Int32) = sHold t := by first | rfl | simp [sHold, c_4_5, c_4_6] | (simp only [sHold]; simp [c_4_5, c_4_6])
      exact zireti hC hZ hr hlocks ⟨hq_3, rfl⟩ dX5_hold_45

theorem mX5_less : zMd yX5_less cX5_less 2 (some .int) 1 := ⟨by decide +kernel, gt_of 407 (by decide +kernel) rfl, gt_of 49 (by decide +kernel) rfl, by decide⟩
theorem dX5_less_0 : decode cX5_less 0 = .ok (.bipush 100, 2) := by decide +kernel
theorem dX5_less_2 : decode cX5_less 2 = .ok (.aload_n 0, 1) := by decide +kernel
theorem dX5_less_3 : decode cX5_less 3 = .ok (.aload_n 1, 1) := by decide +kernel
theorem dX5_less_4 : decode cX5_less 4 = .ok (.invokevirtual 36, 3) := by decide +kernel
theorem kX5_36 : zLk RX5 36 yX5_kick := Or.inl (gt_of 408 (by decide +kernel) rfl)
theorem vX5_kick : zMi yX5_kick := ⟨gt_of 376 (by decide +kernel) rfl, gt_of 377 (by decide +kernel) rfl⟩
theorem dX5_less_7 : decode cX5_less 7 = .ok (.isub, 1) := by decide +kernel
theorem dX5_less_8 : decode cX5_less 8 = .ok (.aload_n 0, 1) := by decide +kernel
theorem dX5_less_9 : decode cX5_less 9 = .ok (.invokevirtual 39, 3) := by decide +kernel
theorem kX5_39 : zLk RX5 39 yX5_draw := Or.inl (gt_of 409 (by decide +kernel) rfl)
theorem vX5_draw : zMi yX5_draw := ⟨gt_of 388 (by decide +kernel) rfl, gt_of 389 (by decide +kernel) rfl⟩
theorem dX5_less_12 : decode cX5_less 12 = .ok (.isub, 1) := by decide +kernel
theorem dX5_less_13 : decode cX5_less 13 = .ok (.aload_n 0, 1) := by decide +kernel
theorem dX5_less_14 : decode cX5_less 14 = .ok (.invokevirtual 43, 3) := by decide +kernel
theorem kX5_43 : zLk RX5 43 yX5_hold := Or.inl (gt_of 410 (by decide +kernel) rfl)
theorem vX5_hold : zMi yX5_hold := ⟨gt_of 392 (by decide +kernel) rfl, gt_of 393 (by decide +kernel) rfl⟩
theorem dX5_less_17 : decode cX5_less 17 = .ok (.iadd, 1) := by decide +kernel
theorem dX5_less_18 : decode cX5_less 18 = .ok (.ireturn, 1) := by decide +kernel
set_option maxRecDepth 100000 in
theorem c_X5_less (l : Launch) (D : va_G) (cy : Nat → Nat) (n : Nat) (ad : Nat → Nat) (F : Nat → va_E) (sz : Nat) (k : Nat) (t : Tal) (hk : k < n) (hFk : F k = oTale t) (j : Nat) (b : Stg) (hj : j < n) (hFj : F j = oSetting b) : Met l yX5_less (zw yX5_less cX5_less 2 (some .int)) (rmL 2) (zPc D cy n ad F sz [.ref (ad k), .ref (ad j)]) (va_Qi (fun r F1 => r = sLess t b ∧ F = F1) (zB D n ad) (zA n ad sz)) 0 0 (zA n ad sz) := by
  refine zmet (by decide +kernel) (Nat.le_of_ble_eq_true rfl) (fun p e s m args below meth c ls hC hsz hZ hA hr hlocks hnm hl => ?_)
  have hC : zC p m c cX5_less 2 s args RX5 D cy := hC
  have hx := hC.1.1
  have hb := hC.1.2.1
  have hl : lv_has ls 2 [(0, .ref (ad k)), (1, .ref (ad j))] := hl
  refine lv_bipush (v := 100) hx hb dX5_less_0 (by decide) ?_
  refine lv_aload_n hx hb dX5_less_2 rfl (lv_at hl 0 rfl) ?_
  refine lv_aload_n hx hb dX5_less_3 rfl (lv_at hl 1 rfl) ?_
  refine zgoi hZ hA (zrunV (As := [.ref (ad j)]) (rest := [.int 100]) (k := k) hC hZ (c_X5_kick l D cy n ad F s.heap.size k t hk hFk j b hj hFj) mX5_kick vX5_kick kX5_36 (zRj_of rfl) hk hFk rfl rfl hl.1 rfl (Nat.le_of_ble_eq_true rfl) dX5_less_4 ⟨Nat.le_refl _, Nat.le_refl _⟩) (fun r_2 F_1 hp_3 H locs hZ => ?_)
  obtain ⟨rfl, rfl⟩ := hp_3
  refine lv_isub hx hb dX5_less_7 ?_
  refine lv_aload_n hx hb dX5_less_8 rfl (lv_at hl 0 rfl) ?_
  refine zgoi hZ hA (zrunV (As := []) (rest := [.int (100 - (sKick t b))]) (k := k) hC hZ (c_X5_draw l D cy n ad F H.size k t hk hFk) mX5_draw vX5_draw kX5_39 (zRj_of rfl) hk hFk rfl rfl hl.1 rfl (Nat.le_of_ble_eq_true rfl) dX5_less_9 ⟨Nat.le_refl _, Nat.le_refl _⟩) (fun r_5 F_4 hp_6 H locs hZ => ?_)
  obtain ⟨rfl, rfl⟩ := hp_6
  refine lv_isub hx hb dX5_less_12 ?_
  refine lv_aload_n hx hb dX5_less_13 rfl (lv_at hl 0 rfl) ?_
  refine zgoi hZ hA (zrunV (As := []) (rest := [.int ((100 - (sKick t b)) - (sDraw t))]) (k := k) hC hZ (c_X5_hold l D cy n ad F H.size k t hk hFk) mX5_hold vX5_hold kX5_43 (zRj_of rfl) hk hFk rfl rfl hl.1 rfl (Nat.le_of_ble_eq_true rfl) dX5_less_14 ⟨Nat.le_refl _, Nat.le_refl _⟩) (fun r_8 F_7 hp_9 H locs hZ => ?_)
  obtain ⟨rfl, rfl⟩ := hp_9
  refine lv_iadd hx hb dX5_less_17 ?_
  have hq_10 : (((100 - (sKick t b)) - (sDraw t)) + (sHold t)) = sLess t b := by first | rfl | simp [sLess] | (simp only [sLess]; simp [])
  exact zireti hC hZ hr hlocks ⟨hq_10, rfl⟩ dX5_less_18

theorem mX5_archAt : zMd yX5_archAt cX5_archAt 4 (some .int) 2 := ⟨by decide +kernel, gt_of 454 (by decide +kernel) rfl, gt_of 49 (by decide +kernel) rfl, by decide⟩
theorem dX5_archAt_0 : decode cX5_archAt 0 = .ok (.aload_n 0, 1) := by decide +kernel
theorem dX5_archAt_1 : decode cX5_archAt 1 = .ok (.aload_n 1, 1) := by decide +kernel
theorem dX5_archAt_2 : decode cX5_archAt 2 = .ok (.invokevirtual 46, 3) := by decide +kernel
theorem kX5_46 : zLk RX5 46 yX5_less := Or.inl (gt_of 455 (by decide +kernel) rfl)
theorem vX5_less : zMi yX5_less := ⟨gt_of 405 (by decide +kernel) rfl, gt_of 406 (by decide +kernel) rfl⟩
theorem dX5_archAt_5 : decode cX5_archAt 5 = .ok (.istore_n 3, 1) := by decide +kernel
theorem dX5_archAt_6 : decode cX5_archAt 6 = .ok (.iload_n 3, 1) := by decide +kernel
theorem dX5_archAt_7 : decode cX5_archAt 7 = .ok (.ifCond .gt 6, 3) := by decide +kernel
theorem dX5_archAt_13 : decode cX5_archAt 13 = .ok (.aload_n 0, 1) := by decide +kernel
theorem dX5_archAt_14 : decode cX5_archAt 14 = .ok (.aload_n 1, 1) := by decide +kernel
theorem dX5_archAt_15 : decode cX5_archAt 15 = .ok (.invokevirtual 36, 3) := by decide +kernel
theorem dX5_archAt_18 : decode cX5_archAt 18 = .ok (.aload_n 1, 1) := by decide +kernel
theorem dX5_archAt_19 : decode cX5_archAt 19 = .ok (.getfield 49, 3) := by decide +kernel
theorem fX5_49 : zFld RX5 49 3 3 := ⟨RX3, TX3, 4, rfl, inX3, by decide, rfl, Or.inr ⟨"ChainLeap", List.mem_of_getElem? (i := 96) (by decide +kernel)⟩⟩
theorem dX5_archAt_22 : decode cX5_archAt 22 = .ok (.imul, 1) := by decide +kernel
theorem dX5_archAt_23 : decode cX5_archAt 23 = .ok (.bipush 100, 2) := by decide +kernel
theorem dX5_archAt_25 : decode cX5_archAt 25 = .ok (.iload_n 2, 1) := by decide +kernel
theorem dX5_archAt_26 : decode cX5_archAt 26 = .ok (.isub, 1) := by decide +kernel
theorem dX5_archAt_27 : decode cX5_archAt 27 = .ok (.imul, 1) := by decide +kernel
theorem dX5_archAt_28 : decode cX5_archAt 28 = .ok (.iload_n 3, 1) := by decide +kernel
theorem dX5_archAt_29 : decode cX5_archAt 29 = .ok (.bipush 100, 2) := by decide +kernel
theorem dX5_archAt_31 : decode cX5_archAt 31 = .ok (.imul, 1) := by decide +kernel
theorem dX5_archAt_32 : decode cX5_archAt 32 = .ok (.idiv, 1) := by decide +kernel
theorem dX5_archAt_33 : decode cX5_archAt 33 = .ok (.ireturn, 1) := by decide +kernel
theorem dX5_archAt_10 : decode cX5_archAt 10 = .ok (.bipush (-4), 2) := by decide +kernel
theorem dX5_archAt_12 : decode cX5_archAt 12 = .ok (.ireturn, 1) := by decide +kernel
set_option maxRecDepth 100000 in
theorem c_X5_archAt (l : Launch) (D : va_G) (cy : Nat → Nat) (n : Nat) (ad : Nat → Nat) (F : Nat → va_E) (sz : Nat) (k : Nat) (t : Tal) (hk : k < n) (hFk : F k = oTale t) (j : Nat) (b : Stg) (hj : j < n) (hFj : F j = oSetting b) (sl : Int32) (gt : gT t) (gs : gS b) : Met l yX5_archAt (zw yX5_archAt cX5_archAt 4 (some .int)) (rmL 3) (zPc D cy n ad F sz [.ref (ad k), .ref (ad j), .int sl]) (va_Qi (fun r F1 => r = sArchAt t b sl ∧ F = F1) (zB D n ad) (zA n ad sz)) 0 0 (zA n ad sz) := by
  refine zmet (by decide +kernel) (Nat.le_of_ble_eq_true rfl) (fun p e s m args below meth c ls hC hsz hZ hA hr hlocks hnm hl => ?_)
  have hC : zC p m c cX5_archAt 4 s args RX5 D cy := hC
  have hx := hC.1.1
  have hb := hC.1.2.1
  have hl : lv_has ls 4 [(0, .ref (ad k)), (1, .ref (ad j)), (2, .int sl)] := hl
  refine lv_aload_n hx hb dX5_archAt_0 rfl (lv_at hl 0 rfl) ?_
  refine lv_aload_n hx hb dX5_archAt_1 rfl (lv_at hl 1 rfl) ?_
  refine zgoi hZ hA (zrunV (As := [.ref (ad j)]) (rest := []) (k := k) hC hZ (c_X5_less l D cy n ad F s.heap.size k t hk hFk j b hj hFj) mX5_less vX5_less kX5_46 (zRj_of rfl) hk hFk rfl rfl hl.1 rfl (Nat.le_of_ble_eq_true rfl) dX5_archAt_2 ⟨Nat.le_refl _, Nat.le_refl _⟩) (fun r_2 F_1 hp_3 H locs hZ => ?_)
  obtain ⟨rfl, rfl⟩ := hp_3
  refine lv_istore_n (lv' := [(3, .int (sLess t b)), (0, .ref (ad k)), (1, .ref (ad j)), (2, .int sl)]) hx hb dX5_archAt_5 rfl hl (by decide) rfl (fun ls hl => ?_)
  refine lv_iload_n hx hb dX5_archAt_6 rfl (lv_at hl 0 rfl) ?_
  refine lv_if_gt (tgt := 13) hx hb dX5_archAt_7 (by decide) (fun c_7 => ?_) (fun c_7 => ?_)
  · refine lv_aload_n hx hb dX5_archAt_13 rfl (lv_at hl 1 rfl) ?_
    refine lv_aload_n hx hb dX5_archAt_14 rfl (lv_at hl 2 rfl) ?_
    refine zgoi hZ hA (zrunV (As := [.ref (ad j)]) (rest := []) (k := k) hC hZ (c_X5_kick l D cy n ad F H.size k t hk hFk j b hj hFj) mX5_kick vX5_kick kX5_36 (zRj_of rfl) hk hFk rfl rfl hl.1 rfl (Nat.le_of_ble_eq_true rfl) dX5_archAt_15 ⟨Nat.le_refl _, Nat.le_refl _⟩) (fun r_5 F_4 hp_6 H locs hZ => ?_)
    obtain ⟨rfl, rfl⟩ := hp_6
    refine lv_aload_n hx hb dX5_archAt_18 rfl (lv_at hl 2 rfl) ?_
    refine zget hC hZ fX5_49 hj hFj rfl dX5_archAt_19 ?_
    refine lv_imul hx hb dX5_archAt_22 ?_
    refine lv_bipush (v := 100) hx hb dX5_archAt_23 (by decide) ?_
    refine lv_iload_n hx hb dX5_archAt_25 rfl (lv_at hl 3 rfl) ?_
    refine lv_isub hx hb dX5_archAt_26 ?_
    refine lv_imul hx hb dX5_archAt_27 ?_
    refine lv_iload_n hx hb dX5_archAt_28 rfl (lv_at hl 0 rfl) ?_
    refine lv_bipush (v := 100) hx hb dX5_archAt_29 (by decide) ?_
    refine lv_imul hx hb dX5_archAt_31 ?_
    refine lv_idiv hx hb dX5_archAt_32 (sLess_ne gt gs) ?_
    have hq_7 : ((((sKick t b) * b.2.2.2) * (100 - sl)) / ((sLess t b) * 100)) = sArchAt t b sl := by unfold sArchAt; rw [if_neg]; exact (fun h => Int32.not_le.mpr c_7 h)
    exact zireti hC hZ hr hlocks ⟨hq_7, rfl⟩ dX5_archAt_33
  · refine lv_bipush (v := (-4)) hx hb dX5_archAt_10 (by decide) ?_
    have hq_8 : (-4 : Int32) = sArchAt t b sl := by unfold sArchAt; rw [if_pos]; exact (Int32.not_lt.mp c_7)
    exact zireti hC hZ hr hlocks ⟨hq_8, rfl⟩ dX5_archAt_12

theorem mX5_arch : zMd yX5_arch cX5_arch 2 (some .int) 1 := ⟨by decide +kernel, gt_of 450 (by decide +kernel) rfl, gt_of 49 (by decide +kernel) rfl, by decide⟩
theorem dX5_arch_0 : decode cX5_arch 0 = .ok (.aload_n 0, 1) := by decide +kernel
theorem dX5_arch_1 : decode cX5_arch 1 = .ok (.aload_n 1, 1) := by decide +kernel
theorem dX5_arch_2 : decode cX5_arch 2 = .ok (.iconst 0, 1) := by decide +kernel
theorem dX5_arch_3 : decode cX5_arch 3 = .ok (.invokevirtual 52, 3) := by decide +kernel
theorem kX5_52 : zLk RX5 52 yX5_archAt := Or.inl (gt_of 451 (by decide +kernel) rfl)
theorem vX5_archAt : zMi yX5_archAt := ⟨gt_of 452 (by decide +kernel) rfl, gt_of 453 (by decide +kernel) rfl⟩
theorem dX5_arch_6 : decode cX5_arch 6 = .ok (.ireturn, 1) := by decide +kernel
set_option maxRecDepth 100000 in
theorem c_X5_arch (l : Launch) (D : va_G) (cy : Nat → Nat) (n : Nat) (ad : Nat → Nat) (F : Nat → va_E) (sz : Nat) (k : Nat) (t : Tal) (hk : k < n) (hFk : F k = oTale t) (j : Nat) (b : Stg) (hj : j < n) (hFj : F j = oSetting b) (gt : gT t) (gs : gS b) : Met l yX5_arch (zw yX5_arch cX5_arch 2 (some .int)) (rmL 4) (zPc D cy n ad F sz [.ref (ad k), .ref (ad j)]) (va_Qi (fun r F1 => r = sArchAt t b 0 ∧ F = F1) (zB D n ad) (zA n ad sz)) 0 0 (zA n ad sz) := by
  refine zmet (by decide +kernel) (Nat.le_of_ble_eq_true rfl) (fun p e s m args below meth c ls hC hsz hZ hA hr hlocks hnm hl => ?_)
  have hC : zC p m c cX5_arch 2 s args RX5 D cy := hC
  have hx := hC.1.1
  have hb := hC.1.2.1
  have hl : lv_has ls 2 [(0, .ref (ad k)), (1, .ref (ad j))] := hl
  refine lv_aload_n hx hb dX5_arch_0 rfl (lv_at hl 0 rfl) ?_
  refine lv_aload_n hx hb dX5_arch_1 rfl (lv_at hl 1 rfl) ?_
  refine lv_iconst (v := 0) hx hb dX5_arch_2 (by decide) ?_
  refine zgoi hZ hA (zrunV (As := [.ref (ad j), .int 0]) (rest := []) (k := k) hC hZ (c_X5_archAt l D cy n ad F s.heap.size k t hk hFk j b hj hFj 0 gt gs) mX5_archAt vX5_archAt kX5_52 (zRj_of rfl) hk hFk rfl rfl hl.1 rfl (Nat.le_of_ble_eq_true rfl) dX5_arch_3 ⟨Nat.le_refl _, Nat.le_refl _⟩) (fun r_2 F_1 hp_3 H locs hZ => ?_)
  obtain ⟨rfl, rfl⟩ := hp_3
  have hq_4 : (sArchAt t b 0) = sArchAt t b 0 := by rfl
  exact zireti hC hZ hr hlocks ⟨hq_4, rfl⟩ dX5_arch_6

theorem mX5_waitOfKicked : zMd yX5_waitOfKicked cX5_waitOfKicked 1 (some .int) 0 := ⟨by decide +kernel, gt_of 622 (by decide +kernel) rfl, gt_of 49 (by decide +kernel) rfl, by decide⟩
theorem dX5_waitOfKicked_0 : decode cX5_waitOfKicked 0 = .ok (.iconst 4, 1) := by decide +kernel
theorem dX5_waitOfKicked_1 : decode cX5_waitOfKicked 1 = .ok (.aload_n 0, 1) := by decide +kernel
theorem dX5_waitOfKicked_2 : decode cX5_waitOfKicked 2 = .ok (.getfield 15, 3) := by decide +kernel
theorem dX5_waitOfKicked_5 : decode cX5_waitOfKicked 5 = .ok (.iadd, 1) := by decide +kernel
theorem dX5_waitOfKicked_6 : decode cX5_waitOfKicked 6 = .ok (.ireturn, 1) := by decide +kernel
set_option maxRecDepth 100000 in
theorem c_X5_waitOfKicked (l : Launch) (D : va_G) (cy : Nat → Nat) (n : Nat) (ad : Nat → Nat) (F : Nat → va_E) (sz : Nat) (k : Nat) (t : Tal) (hk : k < n) (hFk : F k = oTale t) : Met l yX5_waitOfKicked (zw yX5_waitOfKicked cX5_waitOfKicked 1 (some .int)) (rmL 0) (zPc D cy n ad F sz [.ref (ad k)]) (va_Qi (fun r F1 => r = sWK t ∧ F = F1) (zB D n ad) (zA n ad sz)) 0 0 (zA n ad sz) := by
  refine zmet (by decide +kernel) (Nat.le_of_ble_eq_true rfl) (fun p e s m args below meth c ls hC hsz hZ hA hr hlocks hnm hl => ?_)
  have hC : zC p m c cX5_waitOfKicked 1 s args RX5 D cy := hC
  have hx := hC.1.1
  have hb := hC.1.2.1
  have hl : lv_has ls 1 [(0, .ref (ad k))] := hl
  refine lv_iconst (v := 4) hx hb dX5_waitOfKicked_0 (by decide) ?_
  refine lv_aload_n hx hb dX5_waitOfKicked_1 rfl (lv_at hl 0 rfl) ?_
  refine zget hC hZ fX5_15 hk hFk rfl dX5_waitOfKicked_2 ?_
  refine lv_iadd hx hb dX5_waitOfKicked_5 ?_
  have hq_1 : (4 + t.2) = sWK t := by rfl
  exact zireti hC hZ hr hlocks ⟨hq_1, rfl⟩ dX5_waitOfKicked_6

theorem mX5_waitOfThrown : zMd yX5_waitOfThrown cX5_waitOfThrown 1 (some .int) 0 := ⟨by decide +kernel, gt_of 626 (by decide +kernel) rfl, gt_of 49 (by decide +kernel) rfl, by decide⟩
theorem dX5_waitOfThrown_0 : decode cX5_waitOfThrown 0 = .ok (.iconst 4, 1) := by decide +kernel
theorem dX5_waitOfThrown_1 : decode cX5_waitOfThrown 1 = .ok (.aload_n 0, 1) := by decide +kernel
theorem dX5_waitOfThrown_2 : decode cX5_waitOfThrown 2 = .ok (.getfield 15, 3) := by decide +kernel
theorem dX5_waitOfThrown_5 : decode cX5_waitOfThrown 5 = .ok (.isub, 1) := by decide +kernel
theorem dX5_waitOfThrown_6 : decode cX5_waitOfThrown 6 = .ok (.ireturn, 1) := by decide +kernel
set_option maxRecDepth 100000 in
theorem c_X5_waitOfThrown (l : Launch) (D : va_G) (cy : Nat → Nat) (n : Nat) (ad : Nat → Nat) (F : Nat → va_E) (sz : Nat) (k : Nat) (t : Tal) (hk : k < n) (hFk : F k = oTale t) : Met l yX5_waitOfThrown (zw yX5_waitOfThrown cX5_waitOfThrown 1 (some .int)) (rmL 0) (zPc D cy n ad F sz [.ref (ad k)]) (va_Qi (fun r F1 => r = sWT t ∧ F = F1) (zB D n ad) (zA n ad sz)) 0 0 (zA n ad sz) := by
  refine zmet (by decide +kernel) (Nat.le_of_ble_eq_true rfl) (fun p e s m args below meth c ls hC hsz hZ hA hr hlocks hnm hl => ?_)
  have hC : zC p m c cX5_waitOfThrown 1 s args RX5 D cy := hC
  have hx := hC.1.1
  have hb := hC.1.2.1
  have hl : lv_has ls 1 [(0, .ref (ad k))] := hl
  refine lv_iconst (v := 4) hx hb dX5_waitOfThrown_0 (by decide) ?_
  refine lv_aload_n hx hb dX5_waitOfThrown_1 rfl (lv_at hl 0 rfl) ?_
  refine zget hC hZ fX5_15 hk hFk rfl dX5_waitOfThrown_2 ?_
  refine lv_isub hx hb dX5_waitOfThrown_5 ?_
  have hq_1 : (4 - t.2) = sWT t := by rfl
  exact zireti hC hZ hr hlocks ⟨hq_1, rfl⟩ dX5_waitOfThrown_6

theorem mX5_waiting : zMd yX5_waiting cX5_waiting 1 (some .int) 0 := ⟨by decide +kernel, gt_of 618 (by decide +kernel) rfl, gt_of 49 (by decide +kernel) rfl, by decide⟩
theorem dX5_waiting_0 : decode cX5_waiting 0 = .ok (.aload_n 0, 1) := by decide +kernel
theorem dX5_waiting_1 : decode cX5_waiting 1 = .ok (.getfield 9, 3) := by decide +kernel
theorem dX5_waiting_4 : decode cX5_waiting 4 = .ok (.tableswitch 90 1 7 #[44, 49, 56, 61, 69, 76, 83], 44) := by decide +kernel
theorem dX5_waiting_48 : decode cX5_waiting 48 = .ok (.aload_n 0, 1) := by decide +kernel
theorem dX5_waiting_49 : decode cX5_waiting 49 = .ok (.invokevirtual 56, 3) := by decide +kernel
theorem kX5_56 : zLk RX5 56 yX5_waitOfKicked := Or.inl (gt_of 619 (by decide +kernel) rfl)
theorem vX5_waitOfKicked : zMi yX5_waitOfKicked := ⟨gt_of 621 (by decide +kernel) rfl, gt_of 15 (by decide +kernel) rfl⟩
theorem dX5_waiting_52 : decode cX5_waiting 52 = .ok (.ireturn, 1) := by decide +kernel
theorem dX5_waiting_53 : decode cX5_waiting 53 = .ok (.iconst 2, 1) := by decide +kernel
theorem dX5_waiting_54 : decode cX5_waiting 54 = .ok (.aload_n 0, 1) := by decide +kernel
theorem dX5_waiting_55 : decode cX5_waiting 55 = .ok (.invokevirtual 56, 3) := by decide +kernel
theorem dX5_waiting_58 : decode cX5_waiting 58 = .ok (.imul, 1) := by decide +kernel
theorem dX5_waiting_59 : decode cX5_waiting 59 = .ok (.ireturn, 1) := by decide +kernel
theorem dX5_waiting_60 : decode cX5_waiting 60 = .ok (.aload_n 0, 1) := by decide +kernel
theorem dX5_waiting_61 : decode cX5_waiting 61 = .ok (.invokevirtual 59, 3) := by decide +kernel
theorem kX5_59 : zLk RX5 59 yX5_waitOfThrown := Or.inl (gt_of 623 (by decide +kernel) rfl)
theorem vX5_waitOfThrown : zMi yX5_waitOfThrown := ⟨gt_of 625 (by decide +kernel) rfl, gt_of 16 (by decide +kernel) rfl⟩
theorem dX5_waiting_64 : decode cX5_waiting 64 = .ok (.ireturn, 1) := by decide +kernel
theorem dX5_waiting_65 : decode cX5_waiting 65 = .ok (.aload_n 0, 1) := by decide +kernel
theorem dX5_waiting_66 : decode cX5_waiting 66 = .ok (.invokevirtual 56, 3) := by decide +kernel
theorem dX5_waiting_69 : decode cX5_waiting 69 = .ok (.bipush 9, 2) := by decide +kernel
theorem dX5_waiting_71 : decode cX5_waiting 71 = .ok (.iadd, 1) := by decide +kernel
theorem dX5_waiting_72 : decode cX5_waiting 72 = .ok (.ireturn, 1) := by decide +kernel
theorem dX5_waiting_73 : decode cX5_waiting 73 = .ok (.iconst 4, 1) := by decide +kernel
theorem dX5_waiting_74 : decode cX5_waiting 74 = .ok (.aload_n 0, 1) := by decide +kernel
theorem dX5_waiting_75 : decode cX5_waiting 75 = .ok (.getfield 15, 3) := by decide +kernel
theorem dX5_waiting_78 : decode cX5_waiting 78 = .ok (.imul, 1) := by decide +kernel
theorem dX5_waiting_79 : decode cX5_waiting 79 = .ok (.ireturn, 1) := by decide +kernel
theorem dX5_waiting_80 : decode cX5_waiting 80 = .ok (.aload_n 0, 1) := by decide +kernel
theorem dX5_waiting_81 : decode cX5_waiting 81 = .ok (.invokevirtual 56, 3) := by decide +kernel
theorem dX5_waiting_84 : decode cX5_waiting 84 = .ok (.iconst 2, 1) := by decide +kernel
theorem dX5_waiting_85 : decode cX5_waiting 85 = .ok (.idiv, 1) := by decide +kernel
theorem dX5_waiting_86 : decode cX5_waiting 86 = .ok (.ireturn, 1) := by decide +kernel
theorem dX5_waiting_87 : decode cX5_waiting 87 = .ok (.aload_n 0, 1) := by decide +kernel
theorem dX5_waiting_88 : decode cX5_waiting 88 = .ok (.invokevirtual 59, 3) := by decide +kernel
theorem dX5_waiting_91 : decode cX5_waiting 91 = .ok (.iconst 1, 1) := by decide +kernel
theorem dX5_waiting_92 : decode cX5_waiting 92 = .ok (.iadd, 1) := by decide +kernel
theorem dX5_waiting_93 : decode cX5_waiting 93 = .ok (.ireturn, 1) := by decide +kernel
theorem dX5_waiting_94 : decode cX5_waiting 94 = .ok (.iconst 4, 1) := by decide +kernel
theorem dX5_waiting_95 : decode cX5_waiting 95 = .ok (.ireturn, 1) := by decide +kernel
set_option maxRecDepth 100000 in
theorem c_X5_waiting (l : Launch) (D : va_G) (cy : Nat → Nat) (n : Nat) (ad : Nat → Nat) (F : Nat → va_E) (sz : Nat) (k : Nat) (t : Tal) (hk : k < n) (hFk : F k = oTale t) : Met l yX5_waiting (zw yX5_waiting cX5_waiting 1 (some .int)) (rmL 1) (zPc D cy n ad F sz [.ref (ad k)]) (va_Qi (fun r F1 => r = sWait t ∧ F = F1) (zB D n ad) (zA n ad sz)) 0 0 (zA n ad sz) := by
  refine zmet (by decide +kernel) (Nat.le_of_ble_eq_true rfl) (fun p e s m args below meth c ls hC hsz hZ hA hr hlocks hnm hl => ?_)
  have hC : zC p m c cX5_waiting 1 s args RX5 D cy := hC
  have hx := hC.1.1
  have hb := hC.1.2.1
  have hl : lv_has ls 1 [(0, .ref (ad k))] := hl
  refine lv_aload_n hx hb dX5_waiting_0 rfl (lv_at hl 0 rfl) ?_
  refine zget hC hZ fX5_9 hk hFk rfl dX5_waiting_1 ?_
  by_cases c_4_1 : t.1 = 1
  · refine lv_tableIn (off := 44) (tgt := 48) hx hb dX5_waiting_4 (by rw [c_4_1]; decide) (by rw [c_4_1]; decide) (by rw [c_4_1]; rfl) (by decide) ?_
    refine lv_aload_n hx hb dX5_waiting_48 rfl (lv_at hl 0 rfl) ?_
    refine zgoi hZ hA (zrunV (As := []) (rest := []) (k := k) hC hZ (c_X5_waitOfKicked l D cy n ad F s.heap.size k t hk hFk) mX5_waitOfKicked vX5_waitOfKicked kX5_56 (zRj_of rfl) hk hFk rfl rfl hl.1 rfl (Nat.le_of_ble_eq_true rfl) dX5_waiting_49 ⟨Nat.le_refl _, Nat.le_refl _⟩) (fun r_2 F_1 hp_3 H locs hZ => ?_)
    obtain ⟨rfl, rfl⟩ := hp_3
    have hq_4 : (sWK t) = sWait t := by first | rfl | simp [sWait, c_4_1] | (simp only [sWait]; simp [c_4_1])
    exact zireti hC hZ hr hlocks ⟨hq_4, rfl⟩ dX5_waiting_52
  · by_cases c_4_2 : t.1 = 2
    · refine lv_tableIn (off := 49) (tgt := 53) hx hb dX5_waiting_4 (by rw [c_4_2]; decide) (by rw [c_4_2]; decide) (by rw [c_4_2]; rfl) (by decide) ?_
      refine lv_iconst (v := 2) hx hb dX5_waiting_53 (by decide) ?_
      refine lv_aload_n hx hb dX5_waiting_54 rfl (lv_at hl 0 rfl) ?_
      refine zgoi hZ hA (zrunV (As := []) (rest := [.int 2]) (k := k) hC hZ (c_X5_waitOfKicked l D cy n ad F s.heap.size k t hk hFk) mX5_waitOfKicked vX5_waitOfKicked kX5_56 (zRj_of rfl) hk hFk rfl rfl hl.1 rfl (Nat.le_of_ble_eq_true rfl) dX5_waiting_55 ⟨Nat.le_refl _, Nat.le_refl _⟩) (fun r_6 F_5 hp_7 H locs hZ => ?_)
      obtain ⟨rfl, rfl⟩ := hp_7
      refine lv_imul hx hb dX5_waiting_58 ?_
      have hq_8 : (2 * (sWK t)) = sWait t := by first | rfl | simp [sWait, c_4_1, c_4_2] | (simp only [sWait]; simp [c_4_1, c_4_2])
      exact zireti hC hZ hr hlocks ⟨hq_8, rfl⟩ dX5_waiting_59
    · by_cases c_4_3 : t.1 = 3
      · refine lv_tableIn (off := 56) (tgt := 60) hx hb dX5_waiting_4 (by rw [c_4_3]; decide) (by rw [c_4_3]; decide) (by rw [c_4_3]; rfl) (by decide) ?_
        refine lv_aload_n hx hb dX5_waiting_60 rfl (lv_at hl 0 rfl) ?_
        refine zgoi hZ hA (zrunV (As := []) (rest := []) (k := k) hC hZ (c_X5_waitOfThrown l D cy n ad F s.heap.size k t hk hFk) mX5_waitOfThrown vX5_waitOfThrown kX5_59 (zRj_of rfl) hk hFk rfl rfl hl.1 rfl (Nat.le_of_ble_eq_true rfl) dX5_waiting_61 ⟨Nat.le_refl _, Nat.le_refl _⟩) (fun r_10 F_9 hp_11 H locs hZ => ?_)
        obtain ⟨rfl, rfl⟩ := hp_11
        have hq_12 : (sWT t) = sWait t := by first | rfl | simp [sWait, c_4_1, c_4_2, c_4_3] | (simp only [sWait]; simp [c_4_1, c_4_2, c_4_3])
        exact zireti hC hZ hr hlocks ⟨hq_12, rfl⟩ dX5_waiting_64
      · by_cases c_4_4 : t.1 = 4
        · refine lv_tableIn (off := 61) (tgt := 65) hx hb dX5_waiting_4 (by rw [c_4_4]; decide) (by rw [c_4_4]; decide) (by rw [c_4_4]; rfl) (by decide) ?_
          refine lv_aload_n hx hb dX5_waiting_65 rfl (lv_at hl 0 rfl) ?_
          refine zgoi hZ hA (zrunV (As := []) (rest := []) (k := k) hC hZ (c_X5_waitOfKicked l D cy n ad F s.heap.size k t hk hFk) mX5_waitOfKicked vX5_waitOfKicked kX5_56 (zRj_of rfl) hk hFk rfl rfl hl.1 rfl (Nat.le_of_ble_eq_true rfl) dX5_waiting_66 ⟨Nat.le_refl _, Nat.le_refl _⟩) (fun r_14 F_13 hp_15 H locs hZ => ?_)
          obtain ⟨rfl, rfl⟩ := hp_15
          refine lv_bipush (v := 9) hx hb dX5_waiting_69 (by decide) ?_
          refine lv_iadd hx hb dX5_waiting_71 ?_
          have hq_16 : ((sWK t) + 9) = sWait t := by first | rfl | simp [sWait, c_4_1, c_4_2, c_4_3, c_4_4] | (simp only [sWait]; simp [c_4_1, c_4_2, c_4_3, c_4_4])
          exact zireti hC hZ hr hlocks ⟨hq_16, rfl⟩ dX5_waiting_72
        · by_cases c_4_5 : t.1 = 5
          · refine lv_tableIn (off := 69) (tgt := 73) hx hb dX5_waiting_4 (by rw [c_4_5]; decide) (by rw [c_4_5]; decide) (by rw [c_4_5]; rfl) (by decide) ?_
            refine lv_iconst (v := 4) hx hb dX5_waiting_73 (by decide) ?_
            refine lv_aload_n hx hb dX5_waiting_74 rfl (lv_at hl 0 rfl) ?_
            refine zget hC hZ fX5_15 hk hFk rfl dX5_waiting_75 ?_
            refine lv_imul hx hb dX5_waiting_78 ?_
            have hq_17 : (4 * t.2) = sWait t := by first | rfl | simp [sWait, c_4_1, c_4_2, c_4_3, c_4_4, c_4_5] | (simp only [sWait]; simp [c_4_1, c_4_2, c_4_3, c_4_4, c_4_5])
            exact zireti hC hZ hr hlocks ⟨hq_17, rfl⟩ dX5_waiting_79
          · by_cases c_4_6 : t.1 = 6
            · refine lv_tableIn (off := 76) (tgt := 80) hx hb dX5_waiting_4 (by rw [c_4_6]; decide) (by rw [c_4_6]; decide) (by rw [c_4_6]; rfl) (by decide) ?_
              refine lv_aload_n hx hb dX5_waiting_80 rfl (lv_at hl 0 rfl) ?_
              refine zgoi hZ hA (zrunV (As := []) (rest := []) (k := k) hC hZ (c_X5_waitOfKicked l D cy n ad F s.heap.size k t hk hFk) mX5_waitOfKicked vX5_waitOfKicked kX5_56 (zRj_of rfl) hk hFk rfl rfl hl.1 rfl (Nat.le_of_ble_eq_true rfl) dX5_waiting_81 ⟨Nat.le_refl _, Nat.le_refl _⟩) (fun r_19 F_18 hp_20 H locs hZ => ?_)
              obtain ⟨rfl, rfl⟩ := hp_20
              refine lv_iconst (v := 2) hx hb dX5_waiting_84 (by decide) ?_
              refine lv_idiv hx hb dX5_waiting_85 (by decide) ?_
              have hq_21 : ((sWK t) / 2) = sWait t := by first | rfl | simp [sWait, c_4_1, c_4_2, c_4_3, c_4_4, c_4_5, c_4_6] | (simp only [sWait]; simp [c_4_1, c_4_2, c_4_3, c_4_4, c_4_5, c_4_6])
              exact zireti hC hZ hr hlocks ⟨hq_21, rfl⟩ dX5_waiting_86
            · by_cases c_4_7 : t.1 = 7
              · refine lv_tableIn (off := 83) (tgt := 87) hx hb dX5_waiting_4 (by rw [c_4_7]; decide) (by rw [c_4_7]; decide) (by rw [c_4_7]; rfl) (by decide) ?_
                refine lv_aload_n hx hb dX5_waiting_87 rfl (lv_at hl 0 rfl) ?_
                refine zgoi hZ hA (zrunV (As := []) (rest := []) (k := k) hC hZ (c_X5_waitOfThrown l D cy n ad F s.heap.size k t hk hFk) mX5_waitOfThrown vX5_waitOfThrown kX5_59 (zRj_of rfl) hk hFk rfl rfl hl.1 rfl (Nat.le_of_ble_eq_true rfl) dX5_waiting_88 ⟨Nat.le_refl _, Nat.le_refl _⟩) (fun r_23 F_22 hp_24 H locs hZ => ?_)
                obtain ⟨rfl, rfl⟩ := hp_24
                refine lv_iconst (v := 1) hx hb dX5_waiting_91 (by decide) ?_
                refine lv_iadd hx hb dX5_waiting_92 ?_
                have hq_25 : ((sWT t) + 1) = sWait t := by first | rfl | simp [sWait, c_4_1, c_4_2, c_4_3, c_4_4, c_4_5, c_4_6, c_4_7] | (simp only [sWait]; simp [c_4_1, c_4_2, c_4_3, c_4_4, c_4_5, c_4_6, c_4_7])
                exact zireti hC hZ hr hlocks ⟨hq_25, rfl⟩ dX5_waiting_93
              · refine lv_tableOut (tgt := 94) hx hb dX5_waiting_4 (by have e0 : ¬ t.1.toInt = 1 := lv_neT (k := 1) c_4_1 rfl; have e1 : ¬ t.1.toInt = 2 := lv_neT (k := 2) c_4_2 rfl; have e2 : ¬ t.1.toInt = 3 := lv_neT (k := 3) c_4_3 rfl; have e3 : ¬ t.1.toInt = 4 := lv_neT (k := 4) c_4_4 rfl; have e4 : ¬ t.1.toInt = 5 := lv_neT (k := 5) c_4_5 rfl; have e5 : ¬ t.1.toInt = 6 := lv_neT (k := 6) c_4_6 rfl; have e6 : ¬ t.1.toInt = 7 := lv_neT (k := 7) c_4_7 rfl; omega) (by decide) ?_
                refine lv_iconst (v := 4) hx hb dX5_waiting_94 (by decide) ?_
                have hq_26 : (4 : Int32) = sWait t := by first | rfl | simp [sWait, c_4_1, c_4_2, c_4_3, c_4_4, c_4_5, c_4_6, c_4_7] | (simp only [sWait]; simp [c_4_1, c_4_2, c_4_3, c_4_4, c_4_5, c_4_6, c_4_7])
                exact zireti hC hZ hr hlocks ⟨hq_26, rfl⟩ dX5_waiting_95
end
section
/-! ===== shelves, scenes, readers ===== -/
abbrev Scn := Stg × Int32 × (Nat → Stg) × Int32 × Crs
abbrev Shf := Int32 × Tal × Int32 × Int32 × (Nat → Int32)
abbrev Rdr := (Nat → Int32) × Int32 × Int32 × Int32
abbrev oInts (cy : Nat → Nat) (N : Nat) (f : Nat → Int32) : va_E := .inl (cy 0, N, .inl f)
abbrev oLongs (cy : Nat → Nat) (N : Nat) (f : Nat → Int64) : va_E := .inl (cy 1, N, .inr (.inl f))
abbrev oRefs (cy : Nat → Nat) (t N : Nat) (f : Nat → Option Nat) : va_E := .inl (cy t, N, .inr (.inr (.inr (.inr f))))
abbrev oShelf (ad : Nat → Nat) (k : Nat) (h so z : Int32) : va_E := .inr (4, [.int h, .ref (ad (k + 1)), .int so, .int z, .ref (ad (k + 2))])
abbrev oScene (ad : Nat → Nat) (k : Nat) (ln tc : Int32) : va_E := .inr (2, [.ref (ad (k + 1)), .int ln, .ref (ad (k + 2)), .int tc, .ref (ad (k + 3))])
abbrev oTries (ad : Nat → Nat) (cy : Nat → Nat) (k : Nat) : va_E := oRefs cy 2 8 (fun i => some (ad (k + 4 + i)))
abbrev oReader (ad : Nat → Nat) (k : Nat) (z a b : Int32) : va_E := .inr (1, [.ref (ad (k + 1)), .int z, .int a, .int b])
def RSh (ad : Nat → Nat) (cy : Nat → Nat) (k : Nat) (F : Nat → va_E) (sf : Shf) : Prop := F k = oShelf ad k sf.1 sf.2.2.1 sf.2.2.2.1 ∧ F (k + 1) = oTale sf.2.1 ∧ F (k + 2) = oInts cy 100 sf.2.2.2.2
def RS (ad : Nat → Nat) (cy : Nat → Nat) (k : Nat) (F : Nat → va_E) (sc : Scn) : Prop :=
  F k = oScene ad k sc.2.1 sc.2.2.2.1 ∧ F (k + 1) = oSetting sc.1 ∧ F (k + 2) = oTries ad cy k ∧ F (k + 3) = oCourse sc.2.2.2.2 ∧ ∀ i, i < 8 → F (k + 4 + i) = oSetting (sc.2.2.1 i)
def RRd (ad : Nat → Nat) (cy : Nat → Nat) (k : Nat) (F : Nat → va_E) (rd : Rdr) : Prop := F k = oReader ad k rd.2.1 rd.2.2.1 rd.2.2.2 ∧ F (k + 1) = oInts cy 100 rd.1
theorem zself {F : Nat → va_E} {k : Nat} {E : va_E} (h : F k = E) : F = va_up F k E := by
  funext j
  by_cases hj : j = k
  · subst hj; rw [va_up_self]; exact h
  · rw [va_up_ne _ _ hj]
theorem fr_up {F F1 : Nat → va_E} {k b w : Nat} {E : va_E} (h : F1 = va_up F k E) (h1 : b ≤ k) (h2 : k < b + w) : ∀ q, ¬ (b ≤ q ∧ q < b + w) → F1 q = F q := fun q hq => znu h (by omega)
theorem fr_tr {F F1 F2 : Nat → va_E} {b w : Nat} (h1 : ∀ q, ¬ (b ≤ q ∧ q < b + w) → F1 q = F q) (h2 : ∀ q, ¬ (b ≤ q ∧ q < b + w) → F2 q = F1 q) : ∀ q, ¬ (b ≤ q ∧ q < b + w) → F2 q = F q := fun q hq => (h2 q hq).trans (h1 q hq)
def iN (i : Int32) : Nat := i.toNatClampNeg
theorem iN_nI {k : Nat} (h : k < 2 ^ 31) : iN (nI k) = k := nI_clamp h
theorem i32le {x y : Int32} : x ≤ y ↔ x.toInt ≤ y.toInt := Int32.le_iff_toInt_le
theorem i32lt {x y : Int32} : x < y ↔ x.toInt < y.toInt := Int32.lt_iff_toInt_lt
theorem iN_e {i : Int32} (h : 0 ≤ i.toInt) : i = nI (iN i) ∧ (iN i : Int) = i.toInt := by
  have h1 : (iN i : Int) = i.toInt := by
    show ((i.toInt.toNat : Nat) : Int) = _
    omega
  have hb := Int32.toInt_lt i
  refine ⟨?_, h1⟩
  apply Int32.toInt_inj.mp
  rw [nI_toInt (by omega), h1]
theorem iN_at {i : Int32} {N : Nat} (h : 0 ≤ i) {m : Int32} (h2 : i < m) (hm : m.toInt = (N : Int)) : i = nI (iN i) ∧ iN i < N := by
  have a := i32le.mp h
  have b := i32lt.mp h2
  have c := iN_e (i := i) a
  have d : (0 : Int32).toInt = 0 := rfl
  refine ⟨c.1, ?_⟩
  omega
/-- a ROW's places -/
abbrev bPlace (z i : Int32) : Prop := 0 ≤ i ∧ i < z ∧ i < 100
abbrev bStretch (z i k : Int32) : Prop := 0 ≤ k ∧ k ≤ z ∧ 0 ≤ i ∧ i ≤ z - k
def sAt (z : Int32) (el : Nat → Int32) (i : Int32) : Int32 := if bPlace z i then el (iN i) else 0
def sNar (so v : Int32) : Int32 := if so = 0 then v.toInt8.toInt32 else if so = 1 then v.toInt16.toInt32 else v
def sLow (so : Int32) : Int32 := if so = 0 then -128 else if so = 1 then -32768 else -2147483648
abbrev bTells (so z : Int32) (el : Nat → Int32) (i : Int32) : Prop := ¬ sAt z el i = sLow so
def zfill (f : Nat → Int32) (i : Nat) : Nat → Int32 := fun j => if j < i then 0 else f j
theorem zfill_0 (f : Nat → Int32) : zfill f 0 = f := by funext j; simp [zfill]
theorem zfill_s (f : Nat → Int32) (i : Nat) : upd (zfill f i) i 0 = zfill f (i + 1) := by
  funext j
  unfold upd zfill
  by_cases h : j = i
  · simp [h]
  · by_cases h2 : j < i
    · simp [h, h2, show j < i + 1 by omega]
    · simp [h, h2, show ¬ j < i + 1 by omega]
theorem nI_s (k : Nat) : nI k + 1 = nI (k + 1) := nI_1 k
theorem nIlt {k N : Nat} {m : Int32} (h : ¬ m ≤ nI k) (hk : k < 2 ^ 31) (hm : m.toInt = (N : Int)) : k < N := by
  exact Nat.lt_of_not_le fun q => h (i32le.mpr (by rw [hm, nI_toInt hk]; omega))
theorem nIge {k N : Nat} {m : Int32} (h : m ≤ nI k) (hk : k < 2 ^ 31) (hm : m.toInt = (N : Int)) : N ≤ k := by
  have a := i32le.mp h
  rw [hm, nI_toInt hk] at a
  omega
/-! ===== reading ===== -/
/-- the byte at a place (a sentinel at the end) -/
def sNext (f : Nat → Int32) (z a : Int32) : Int32 := if 0 ≤ a ∧ a < z ∧ a < 100 then f (iN a) else -1000
abbrev bDig (ch : Int32 → Int32) (a : Int32) : Prop := 48 ≤ ch a ∧ ch a ≤ 57
abbrev bAcc (ch : Int32 → Int32) (g : Int32) (q : Int32 × Int32) : Prop := q.2 = 0 ∧ ch q.1 = g
/-- place and broken -/
def sAcc (ch : Int32 → Int32) (g : Int32) (q : Int32 × Int32) : Int32 × Int32 := if bAcc ch g q then (q.1 + 1, q.2) else q
def sNeed (ch : Int32 → Int32) (g : Int32) (q : Int32 × Int32) : Int32 × Int32 := if bAcc ch g q then (q.1 + 1, q.2) else (q.1, 1)
/-- the number, place and broken -/
def sDig (ch : Int32 → Int32) (q : Int32 × Int32) : Int32 × Int32 × Int32 := if q.2 = 0 ∧ bDig ch q.1 then (ch q.1 - 48, q.1 + 1, q.2) else (0, q.1, 1)
def sMore (ch : Int32 → Int32) (q : Int32 × Int32 × Int32) : Int32 × Int32 × Int32 := if q.2.2 = 0 ∧ 0 < q.1 ∧ bDig ch q.2.1 then (10 * q.1 + (sDig ch q.2).1, (sDig ch q.2).2) else q
def sNum (ch : Int32 → Int32) (q : Int32 × Int32) : Int32 × Int32 × Int32 := sMore ch (sMore ch (sDig ch q))
def sOpt (ch : Int32 → Int32) (g : Int32) (num : Bool) (v : Int32) (q : Int32 × Int32) : Int32 × Int32 × Int32 := if bAcc ch g q then (if num then sNum ch (sAcc ch g q) else sDig ch (sAcc ch g q)) else (v, q)
/-- a STATEMENT: the setting, place and broken -/
def sStm (ch : Int32 → Int32) (t : Stg) (q : Int32 × Int32) : Stg × Int32 × Int32 :=
  let a := sNum ch (sNeed ch 114 q)
  let b := sOpt ch 98 true t.2.1 a.2
  let c := sOpt ch 108 false t.2.2.1 b.2
  let d := sOpt ch 100 true t.2.2.2 c.2
  ((a.1, b.1, c.1, d.1), sNeed ch 59 d.2)
end
section
theorem mX4_isEmpty : zMd yX4_isEmpty cX4_isEmpty 1 (some .boolean) 0 := ⟨by decide +kernel, gt_of 282 (by decide +kernel) rfl, gt_of 48 (by decide +kernel) rfl, by decide⟩
theorem dX4_isEmpty_0 : decode cX4_isEmpty 0 = .ok (.aload_n 0, 1) := by decide +kernel
theorem dX4_isEmpty_1 : decode cX4_isEmpty 1 = .ok (.getfield 11, 3) := by decide +kernel
theorem fX4_11 : zFld RX4 11 4 0 := ⟨RX4, TX4, 5, rfl, inX4, by decide, rfl, Or.inl (gt_of 177 (by decide +kernel) rfl)⟩
theorem dX4_isEmpty_4 : decode cX4_isEmpty 4 = .ok (.ifCond .ne 7, 3) := by decide +kernel
theorem dX4_isEmpty_11 : decode cX4_isEmpty 11 = .ok (.iconst 0, 1) := by decide +kernel
theorem dX4_isEmpty_12 : decode cX4_isEmpty 12 = .ok (.ireturn, 1) := by decide +kernel
theorem dX4_isEmpty_7 : decode cX4_isEmpty 7 = .ok (.iconst 1, 1) := by decide +kernel
theorem dX4_isEmpty_8 : decode cX4_isEmpty 8 = .ok (.goto 4, 3) := by decide +kernel
set_option maxRecDepth 100000 in
theorem c_X4_isEmpty (l : Launch) (D : va_G) (cy : Nat → Nat) (n : Nat) (ad : Nat → Nat) (F : Nat → va_E) (sz : Nat) (k : Nat) (sf : Shf) (hk : k + 3 ≤ n) (hR : RSh ad cy k F sf)  : Met l yX4_isEmpty (zw yX4_isEmpty cX4_isEmpty 1 (some .boolean)) (rmL 0) (zPc D cy n ad F sz [.ref (ad k)]) (va_Qi (fun r F1 => r = (if sf.1 = 0 then 1 else 0) ∧ F = F1) (zB D n ad) (zA n ad sz)) 0 0 (zA n ad sz) := by
  refine zmet (by decide +kernel) (Nat.le_of_ble_eq_true rfl) (fun p e s m args below meth c ls hC hsz hZ hA hr hlocks hnm hl => ?_)
  have hC : zC p m c cX4_isEmpty 1 s args RX4 D cy := hC
  have hx := hC.1.1
  have hb := hC.1.2.1
  have hl : lv_has ls 1 [(0, .ref (ad k))] := hl
  refine lv_aload_n hx hb dX4_isEmpty_0 rfl (lv_at hl 0 rfl) ?_
  refine zget hC hZ fX4_11 (by omega) hR.1 rfl dX4_isEmpty_1 ?_
  refine lv_if_ne (tgt := 11) hx hb dX4_isEmpty_4 (by decide) (fun c_4 => ?_) (fun c_4 => ?_)
  · refine lv_iconst (v := 0) hx hb dX4_isEmpty_11 (by decide) ?_
    have hq_1 : (0 : Int32) = if sf.1 = 0 then 1 else 0 := by simp [c_4]
    exact zbreti hC hZ hr hlocks rfl ⟨hq_1, rfl⟩ dX4_isEmpty_12
  · refine lv_iconst (v := 1) hx hb dX4_isEmpty_7 (by decide) ?_
    refine lv_goto (tgt := 12) hx hb dX4_isEmpty_8 (by decide) ?_
    have hq_2 : (1 : Int32) = if sf.1 = 0 then 1 else 0 := by simp [c_4]
    exact zbreti hC hZ hr hlocks rfl ⟨hq_2, rfl⟩ dX4_isEmpty_12

theorem mX4_holdsStory : zMd yX4_holdsStory cX4_holdsStory 1 (some .boolean) 0 := ⟨by decide +kernel, gt_of 374 (by decide +kernel) rfl, gt_of 48 (by decide +kernel) rfl, by decide⟩
theorem dX4_holdsStory_0 : decode cX4_holdsStory 0 = .ok (.aload_n 0, 1) := by decide +kernel
theorem dX4_holdsStory_1 : decode cX4_holdsStory 1 = .ok (.getfield 11, 3) := by decide +kernel
theorem dX4_holdsStory_4 : decode cX4_holdsStory 4 = .ok (.iconst 1, 1) := by decide +kernel
theorem dX4_holdsStory_5 : decode cX4_holdsStory 5 = .ok (.if_icmp .ne 7, 3) := by decide +kernel
theorem dX4_holdsStory_12 : decode cX4_holdsStory 12 = .ok (.iconst 0, 1) := by decide +kernel
theorem dX4_holdsStory_13 : decode cX4_holdsStory 13 = .ok (.ireturn, 1) := by decide +kernel
theorem dX4_holdsStory_8 : decode cX4_holdsStory 8 = .ok (.iconst 1, 1) := by decide +kernel
theorem dX4_holdsStory_9 : decode cX4_holdsStory 9 = .ok (.goto 4, 3) := by decide +kernel
set_option maxRecDepth 100000 in
theorem c_X4_holdsStory (l : Launch) (D : va_G) (cy : Nat → Nat) (n : Nat) (ad : Nat → Nat) (F : Nat → va_E) (sz : Nat) (k : Nat) (sf : Shf) (hk : k + 3 ≤ n) (hR : RSh ad cy k F sf)  : Met l yX4_holdsStory (zw yX4_holdsStory cX4_holdsStory 1 (some .boolean)) (rmL 0) (zPc D cy n ad F sz [.ref (ad k)]) (va_Qi (fun r F1 => r = (if sf.1 = 1 then 1 else 0) ∧ F = F1) (zB D n ad) (zA n ad sz)) 0 0 (zA n ad sz) := by
  refine zmet (by decide +kernel) (Nat.le_of_ble_eq_true rfl) (fun p e s m args below meth c ls hC hsz hZ hA hr hlocks hnm hl => ?_)
  have hC : zC p m c cX4_holdsStory 1 s args RX4 D cy := hC
  have hx := hC.1.1
  have hb := hC.1.2.1
  have hl : lv_has ls 1 [(0, .ref (ad k))] := hl
  refine lv_aload_n hx hb dX4_holdsStory_0 rfl (lv_at hl 0 rfl) ?_
  refine zget hC hZ fX4_11 (by omega) hR.1 rfl dX4_holdsStory_1 ?_
  refine lv_iconst (v := 1) hx hb dX4_holdsStory_4 (by decide) ?_
  refine lv_icmp_ne (tgt := 12) hx hb dX4_holdsStory_5 (by decide) (fun c_5 => ?_) (fun c_5 => ?_)
  · refine lv_iconst (v := 0) hx hb dX4_holdsStory_12 (by decide) ?_
    have hq_1 : (0 : Int32) = if sf.1 = 1 then 1 else 0 := by simp [c_5]
    exact zbreti hC hZ hr hlocks rfl ⟨hq_1, rfl⟩ dX4_holdsStory_13
  · refine lv_iconst (v := 1) hx hb dX4_holdsStory_8 (by decide) ?_
    refine lv_goto (tgt := 13) hx hb dX4_holdsStory_9 (by decide) ?_
    have hq_2 : (1 : Int32) = if sf.1 = 1 then 1 else 0 := by simp [c_5]
    exact zbreti hC hZ hr hlocks rfl ⟨hq_2, rfl⟩ dX4_holdsStory_13

theorem mX4_holdsRow : zMd yX4_holdsRow cX4_holdsRow 1 (some .boolean) 0 := ⟨by decide +kernel, gt_of 286 (by decide +kernel) rfl, gt_of 48 (by decide +kernel) rfl, by decide⟩
theorem dX4_holdsRow_0 : decode cX4_holdsRow 0 = .ok (.aload_n 0, 1) := by decide +kernel
theorem dX4_holdsRow_1 : decode cX4_holdsRow 1 = .ok (.getfield 11, 3) := by decide +kernel
theorem dX4_holdsRow_4 : decode cX4_holdsRow 4 = .ok (.iconst 2, 1) := by decide +kernel
theorem dX4_holdsRow_5 : decode cX4_holdsRow 5 = .ok (.if_icmp .ne 7, 3) := by decide +kernel
theorem dX4_holdsRow_12 : decode cX4_holdsRow 12 = .ok (.iconst 0, 1) := by decide +kernel
theorem dX4_holdsRow_13 : decode cX4_holdsRow 13 = .ok (.ireturn, 1) := by decide +kernel
theorem dX4_holdsRow_8 : decode cX4_holdsRow 8 = .ok (.iconst 1, 1) := by decide +kernel
theorem dX4_holdsRow_9 : decode cX4_holdsRow 9 = .ok (.goto 4, 3) := by decide +kernel
set_option maxRecDepth 100000 in
theorem c_X4_holdsRow (l : Launch) (D : va_G) (cy : Nat → Nat) (n : Nat) (ad : Nat → Nat) (F : Nat → va_E) (sz : Nat) (k : Nat) (sf : Shf) (hk : k + 3 ≤ n) (hR : RSh ad cy k F sf)  : Met l yX4_holdsRow (zw yX4_holdsRow cX4_holdsRow 1 (some .boolean)) (rmL 0) (zPc D cy n ad F sz [.ref (ad k)]) (va_Qi (fun r F1 => r = (if sf.1 = 2 then 1 else 0) ∧ F = F1) (zB D n ad) (zA n ad sz)) 0 0 (zA n ad sz) := by
  refine zmet (by decide +kernel) (Nat.le_of_ble_eq_true rfl) (fun p e s m args below meth c ls hC hsz hZ hA hr hlocks hnm hl => ?_)
  have hC : zC p m c cX4_holdsRow 1 s args RX4 D cy := hC
  have hx := hC.1.1
  have hb := hC.1.2.1
  have hl : lv_has ls 1 [(0, .ref (ad k))] := hl
  refine lv_aload_n hx hb dX4_holdsRow_0 rfl (lv_at hl 0 rfl) ?_
  refine zget hC hZ fX4_11 (by omega) hR.1 rfl dX4_holdsRow_1 ?_
  refine lv_iconst (v := 2) hx hb dX4_holdsRow_4 (by decide) ?_
  refine lv_icmp_ne (tgt := 12) hx hb dX4_holdsRow_5 (by decide) (fun c_5 => ?_) (fun c_5 => ?_)
  · refine lv_iconst (v := 0) hx hb dX4_holdsRow_12 (by decide) ?_
    have hq_1 : (0 : Int32) = if sf.1 = 2 then 1 else 0 := by simp [c_5]
    exact zbreti hC hZ hr hlocks rfl ⟨hq_1, rfl⟩ dX4_holdsRow_13
  · refine lv_iconst (v := 1) hx hb dX4_holdsRow_8 (by decide) ?_
    refine lv_goto (tgt := 13) hx hb dX4_holdsRow_9 (by decide) ?_
    have hq_2 : (1 : Int32) = if sf.1 = 2 then 1 else 0 := by simp [c_5]
    exact zbreti hC hZ hr hlocks rfl ⟨hq_2, rfl⟩ dX4_holdsRow_13

theorem mX4_clear : zMd yX4_clear cX4_clear 1 none 0 := ⟨by decide +kernel, gt_of 577 (by decide +kernel) rfl, gt_of 48 (by decide +kernel) rfl, by decide⟩
theorem dX4_clear_0 : decode cX4_clear 0 = .ok (.aload_n 0, 1) := by decide +kernel
theorem dX4_clear_1 : decode cX4_clear 1 = .ok (.iconst 0, 1) := by decide +kernel
theorem dX4_clear_2 : decode cX4_clear 2 = .ok (.putfield 11, 3) := by decide +kernel
theorem pX4_11 : zFldP RX4 11 4 0 false .int := ⟨RX4, TX4, 5, tyX4, rfl, inX4, by decide, rfl, Or.inl (gt_of 177 (by decide +kernel) rfl), tyX4_ok, nmX4, rfl, by decide +kernel, fun h => by cases h⟩
theorem dX4_clear_5 : decode cX4_clear 5 = .ok (.return_, 1) := by decide +kernel
set_option maxRecDepth 100000 in
theorem c_X4_clear (l : Launch) (D : va_G) (cy : Nat → Nat) (n : Nat) (ad : Nat → Nat) (F : Nat → va_E) (sz : Nat) (k : Nat) (sf : Shf) (hk : k + 3 ≤ n) (hR : RSh ad cy k F sf) : Met l yX4_clear (zw yX4_clear cX4_clear 1 none) (rmL 0) (zPc D cy n ad F sz [.ref (ad k)]) (va_Qv (fun F1 => F1 = va_up F k (oShelf ad k 0 sf.2.2.1 sf.2.2.2.1)) (zB D n ad) (zA n ad sz)) 0 0 (zA n ad sz) := by
  refine zmet (by decide +kernel) (Nat.le_of_ble_eq_true rfl) (fun p e s m args below meth c ls hC hsz hZ hA hr hlocks hnm hl => ?_)
  have hC : zC p m c cX4_clear 1 s args RX4 D cy := hC
  have hx := hC.1.1
  have hb := hC.1.2.1
  have hl : lv_has ls 1 [(0, .ref (ad k))] := hl
  refine lv_aload_n hx hb dX4_clear_0 rfl (lv_at hl 0 rfl) ?_
  refine lv_iconst (v := 0) hx hb dX4_clear_1 (by decide) ?_
  refine zput (E := oShelf ad k 0 sf.2.2.1 sf.2.2.2.1) hC hZ pX4_11 (by omega) hR.1 rfl rfl rfl (Nat.le_of_ble_eq_true rfl) dX4_clear_2 (fun F_1 hF_2 H locs hZ => ?_)
  have h_3 := zeq hF_2
  have hq_4 : F_1 = va_up F k (oShelf ad k 0 sf.2.2.1 sf.2.2.2.1) := by simp only [hF_2, bx_uu]
  exact zvret hC hZ hr hlocks hq_4 dX4_clear_5

theorem mX4_holdStory : zMd yX4_holdStory cX4_holdStory 3 none 2 := ⟨by decide +kernel, gt_of 581 (by decide +kernel) rfl, gt_of 48 (by decide +kernel) rfl, by decide⟩
theorem dX4_holdStory_0 : decode cX4_holdStory 0 = .ok (.aload_n 0, 1) := by decide +kernel
theorem dX4_holdStory_1 : decode cX4_holdStory 1 = .ok (.iconst 1, 1) := by decide +kernel
theorem dX4_holdStory_2 : decode cX4_holdStory 2 = .ok (.putfield 11, 3) := by decide +kernel
theorem dX4_holdStory_5 : decode cX4_holdStory 5 = .ok (.aload_n 0, 1) := by decide +kernel
theorem dX4_holdStory_6 : decode cX4_holdStory 6 = .ok (.getfield 18, 3) := by decide +kernel
theorem fX4_18 : zFld RX4 18 4 1 := ⟨RX4, TX4, 5, rfl, inX4, by decide, rfl, Or.inl (gt_of 178 (by decide +kernel) rfl)⟩
theorem dX4_holdStory_9 : decode cX4_holdStory 9 = .ok (.iload_n 1, 1) := by decide +kernel
theorem dX4_holdStory_10 : decode cX4_holdStory 10 = .ok (.iload_n 2, 1) := by decide +kernel
theorem dX4_holdStory_11 : decode cX4_holdStory 11 = .ok (.invokevirtual 32, 3) := by decide +kernel
theorem kX4_32 : zLk RX4 32 yX5_become := Or.inl (gt_of 582 (by decide +kernel) rfl)
theorem vX5_become : zMi yX5_become := ⟨gt_of 479 (by decide +kernel) rfl, gt_of 480 (by decide +kernel) rfl⟩
theorem dX4_holdStory_14 : decode cX4_holdStory 14 = .ok (.return_, 1) := by decide +kernel
set_option maxRecDepth 100000 in
theorem c_X4_holdStory (l : Launch) (D : va_G) (cy : Nat → Nat) (n : Nat) (ad : Nat → Nat) (F : Nat → va_E) (sz : Nat) (k : Nat) (sf : Shf) (hk : k + 3 ≤ n) (hR : RSh ad cy k F sf) (kd fg : Int32) : Met l yX4_holdStory (zw yX4_holdStory cX4_holdStory 3 none) (rmL 1) (zPc D cy n ad F sz [.ref (ad k), .int kd, .int fg]) (va_Qv (fun F1 => F1 = va_up (va_up F k (oShelf ad k 1 sf.2.2.1 sf.2.2.2.1)) (k + 1) (oTale (kd, fg))) (zB D n ad) (zA n ad sz)) 0 0 (zA n ad sz) := by
  refine zmet (by decide +kernel) (Nat.le_of_ble_eq_true rfl) (fun p e s m args below meth c ls hC hsz hZ hA hr hlocks hnm hl => ?_)
  have hC : zC p m c cX4_holdStory 3 s args RX4 D cy := hC
  have hx := hC.1.1
  have hb := hC.1.2.1
  have hl : lv_has ls 3 [(0, .ref (ad k)), (1, .int kd), (2, .int fg)] := hl
  refine lv_aload_n hx hb dX4_holdStory_0 rfl (lv_at hl 0 rfl) ?_
  refine lv_iconst (v := 1) hx hb dX4_holdStory_1 (by decide) ?_
  refine zput (E := oShelf ad k 1 sf.2.2.1 sf.2.2.2.1) hC hZ pX4_11 (by omega) hR.1 rfl rfl rfl (Nat.le_of_ble_eq_true rfl) dX4_holdStory_2 (fun F_1 hF_2 H locs hZ => ?_)
  have h_3 := zeq hF_2
  refine lv_aload_n hx hb dX4_holdStory_5 rfl (lv_at hl 0 rfl) ?_
  refine zget hC hZ fX4_18 (by omega) h_3 rfl dX4_holdStory_6 ?_
  refine lv_iload_n hx hb dX4_holdStory_9 rfl (lv_at hl 1 rfl) ?_
  refine lv_iload_n hx hb dX4_holdStory_10 rfl (lv_at hl 2 rfl) ?_
  refine zgov hZ hA (zrunV (As := [.int kd, .int fg]) (rest := []) (k := k + 1) hC hZ (c_X5_become l D cy n ad F_1 H.size (k + 1) sf.2.1 (by omega) (zne hF_2 (by omega) hR.2.1) kd fg) mX5_become vX5_become kX4_32 (zRj_of rfl) (by omega) (zne hF_2 (by omega) hR.2.1) rfl rfl hl.1 rfl (Nat.le_of_ble_eq_true rfl) dX4_holdStory_11 ⟨Nat.le_refl _, Nat.le_refl _⟩) (fun F_4 hp_6 H locs hZ => ?_)
  have h_7 := zeq hp_6
  have hq_8 : F_4 = va_up (va_up F k (oShelf ad k 1 sf.2.2.1 sf.2.2.2.1)) (k + 1) (oTale (kd, fg)) := by rw [hp_6, hF_2]
  exact zvret hC hZ hr hlocks hq_8 dX4_holdStory_14

theorem mX4_holdRow : zMd yX4_holdRow cX4_holdRow 4 none 2 := ⟨by decide +kernel, gt_of 590 (by decide +kernel) rfl, gt_of 48 (by decide +kernel) rfl, by decide⟩
theorem dX4_holdRow_0 : decode cX4_holdRow 0 = .ok (.aload_n 0, 1) := by decide +kernel
theorem dX4_holdRow_1 : decode cX4_holdRow 1 = .ok (.iconst 2, 1) := by decide +kernel
theorem dX4_holdRow_2 : decode cX4_holdRow 2 = .ok (.putfield 11, 3) := by decide +kernel
theorem dX4_holdRow_5 : decode cX4_holdRow 5 = .ok (.aload_n 0, 1) := by decide +kernel
theorem dX4_holdRow_6 : decode cX4_holdRow 6 = .ok (.iload_n 1, 1) := by decide +kernel
theorem dX4_holdRow_7 : decode cX4_holdRow 7 = .ok (.putfield 22, 3) := by decide +kernel
theorem pX4_22 : zFldP RX4 22 4 2 false .int := ⟨RX4, TX4, 5, tyX4, rfl, inX4, by decide, rfl, Or.inl (gt_of 180 (by decide +kernel) rfl), tyX4_ok, nmX4, rfl, by decide +kernel, fun h => by cases h⟩
theorem dX4_holdRow_10 : decode cX4_holdRow 10 = .ok (.aload_n 0, 1) := by decide +kernel
theorem dX4_holdRow_11 : decode cX4_holdRow 11 = .ok (.iload_n 2, 1) := by decide +kernel
theorem dX4_holdRow_12 : decode cX4_holdRow 12 = .ok (.putfield 25, 3) := by decide +kernel
theorem pX4_25 : zFldP RX4 25 4 3 false .int := ⟨RX4, TX4, 5, tyX4, rfl, inX4, by decide, rfl, Or.inl (gt_of 182 (by decide +kernel) rfl), tyX4_ok, nmX4, rfl, by decide +kernel, fun h => by cases h⟩
theorem dX4_holdRow_15 : decode cX4_holdRow 15 = .ok (.iconst 0, 1) := by decide +kernel
theorem dX4_holdRow_16 : decode cX4_holdRow 16 = .ok (.istore_n 3, 1) := by decide +kernel
theorem dX4_holdRow_17 : decode cX4_holdRow 17 = .ok (.iload_n 3, 1) := by decide +kernel
theorem dX4_holdRow_18 : decode cX4_holdRow 18 = .ok (.bipush 100, 2) := by decide +kernel
theorem dX4_holdRow_20 : decode cX4_holdRow 20 = .ok (.if_icmp .ge 16, 3) := by decide +kernel
theorem dX4_holdRow_36 : decode cX4_holdRow 36 = .ok (.return_, 1) := by decide +kernel
theorem dX4_holdRow_23 : decode cX4_holdRow 23 = .ok (.aload_n 0, 1) := by decide +kernel
theorem dX4_holdRow_24 : decode cX4_holdRow 24 = .ok (.getfield 28, 3) := by decide +kernel
theorem fX4_28 : zFld RX4 28 4 4 := ⟨RX4, TX4, 5, rfl, inX4, by decide, rfl, Or.inl (gt_of 185 (by decide +kernel) rfl)⟩
theorem dX4_holdRow_27 : decode cX4_holdRow 27 = .ok (.iload_n 3, 1) := by decide +kernel
theorem dX4_holdRow_28 : decode cX4_holdRow 28 = .ok (.iconst 0, 1) := by decide +kernel
theorem dX4_holdRow_29 : decode cX4_holdRow 29 = .ok (.iastore, 1) := by decide +kernel
theorem dX4_holdRow_30 : decode cX4_holdRow 30 = .ok (.iinc 3 1, 3) := by decide +kernel
theorem dX4_holdRow_33 : decode cX4_holdRow 33 = .ok (.goto (-16), 3) := by decide +kernel
set_option maxRecDepth 100000 in
theorem c_X4_holdRow (l : Launch) (D : va_G) (cy : Nat → Nat) (n : Nat) (ad : Nat → Nat) (F : Nat → va_E) (sz : Nat) (k : Nat) (sf : Shf) (hk : k + 3 ≤ n) (hR : RSh ad cy k F sf) (so z : Int32) : Met l yX4_holdRow (zw yX4_holdRow cX4_holdRow 4 none) (rmL 0) (zPc D cy n ad F sz [.ref (ad k), .int so, .int z]) (va_Qv (fun F1 => F1 = va_up (va_up F k (oShelf ad k 2 so z)) (k + 2) (oInts cy 100 (zfill sf.2.2.2.2 100))) (zB D n ad) (zA n ad sz)) 0 0 (zA n ad sz) := by
  refine zmet (by decide +kernel) (Nat.le_of_ble_eq_true rfl) (fun p e s m args below meth c ls hC hsz hZ hA hr hlocks hnm hl => ?_)
  have hC : zC p m c cX4_holdRow 4 s args RX4 D cy := hC
  have hx := hC.1.1
  have hb := hC.1.2.1
  have hl : lv_has ls 4 [(0, .ref (ad k)), (1, .int so), (2, .int z)] := hl
  refine lv_aload_n hx hb dX4_holdRow_0 rfl (lv_at hl 0 rfl) ?_
  refine lv_iconst (v := 2) hx hb dX4_holdRow_1 (by decide) ?_
  refine zput (E := oShelf ad k 2 sf.2.2.1 sf.2.2.2.1) hC hZ pX4_11 (by omega) hR.1 rfl rfl rfl (Nat.le_of_ble_eq_true rfl) dX4_holdRow_2 (fun F_1 hF_2 H locs hZ => ?_)
  have h_3 := zeq hF_2
  refine lv_aload_n hx hb dX4_holdRow_5 rfl (lv_at hl 0 rfl) ?_
  refine lv_iload_n hx hb dX4_holdRow_6 rfl (lv_at hl 1 rfl) ?_
  refine zput (E := oShelf ad k 2 so sf.2.2.2.1) hC hZ pX4_22 (by omega) h_3 rfl rfl rfl (Nat.le_of_ble_eq_true rfl) dX4_holdRow_7 (fun F_4 hF_5 H locs hZ => ?_)
  have h_6 := zeq hF_5
  refine lv_aload_n hx hb dX4_holdRow_10 rfl (lv_at hl 0 rfl) ?_
  refine lv_iload_n hx hb dX4_holdRow_11 rfl (lv_at hl 2 rfl) ?_
  refine zput (E := oShelf ad k 2 so z) hC hZ pX4_25 (by omega) h_6 rfl rfl rfl (Nat.le_of_ble_eq_true rfl) dX4_holdRow_12 (fun F_7 hF_8 H locs hZ => ?_)
  have h_9 := zeq hF_8
  refine lv_iconst (v := 0) hx hb dX4_holdRow_15 (by decide) ?_
  refine lv_istore_n (lv' := [(3, .int 0), (0, .ref (ad k)), (1, .int so), (2, .int z)]) hx hb dX4_holdRow_16 rfl hl (by decide) rfl (fun ls hl => ?_)
  refine zlp (X := Nat) 17 (fun _ => []) (fun i ls F1 => i ≤ 100 ∧ lv_has ls 4 [(3, .int (nI i)), (0, .ref (ad k)), (1, .int so), (2, .int z)] ∧ F1 = va_up (va_up F k (oShelf ad k 2 so z)) (k + 2) (oInts cy 100 (zfill sf.2.2.2.2 i))) (fun i => 100 - i) ?_ 0 hZ ⟨by omega, hl, ?_⟩
  · intro i ih ls F3 H locs hZ hφ
    obtain ⟨hi, hl, hF3⟩ := hφ
    have hk2 := zeq hF3
    have hk0 : F3 k = oShelf ad k 2 so z := zne hF3 (by omega) (va_up_self _ _ _)
    refine lv_iload_n hx hb dX4_holdRow_17 rfl (lv_at hl 0 rfl) ?_
    refine lv_bipush (v := 100) hx hb dX4_holdRow_18 (by decide) ?_
    refine lv_icmp_ge (tgt := 36) hx hb dX4_holdRow_20 (by decide) (fun c_20 => ?_) (fun c_20 => ?_)
    · have hi2 : i = 100 := by have := nIge (N := 100) c_20 (by omega) rfl; omega
      subst hi2
      exact zvret hC hZ hr hlocks hF3 dX4_holdRow_36
    · refine lv_aload_n hx hb dX4_holdRow_23 rfl (lv_at hl 1 rfl) ?_
      refine zget hC hZ fX4_28 (by omega) hk0 rfl dX4_holdRow_24 ?_
      refine lv_iload_n hx hb dX4_holdRow_27 rfl (lv_at hl 0 rfl) ?_
      refine lv_iconst (v := 0) hx hb dX4_holdRow_28 (by decide) ?_
      refine ziast hC hZ (by omega) hk2 rfl (nIlt c_20 (by omega) rfl) (by decide) dX4_holdRow_29 (fun F_10 hF_11 H locs hZ => ?_)
      have h_12 := zeq hF_11
      refine lv_iinc (v := nI (i + 1)) (lv' := [(3, .int (nI (i + 1))), (0, .ref (ad k)), (1, .int so), (2, .int z)]) hx hb dX4_holdRow_30 hl (k := 0) rfl (nI_1 i) (by decide) rfl (fun ls hl => ?_)
      refine lv_goto (tgt := 17) hx hb dX4_holdRow_33 (by decide) ?_
      have hlt := nIlt (N := 100) c_20 (by omega) rfl
      exact ih (i + 1) ls _ H locs (by show 100 - (i + 1) < 100 - i; omega) hZ ⟨by omega, hl, by rw [hF_11, zfill_s, hF3]; exact bx_uu _ _ _ _⟩
  · rw [zfill_0, ← zself (k := k + 2) (by rw [va_up_ne _ _ (by omega)]; exact hR.2.2), hF_8, hF_5, hF_2]
    simp only [bx_uu]

theorem mX4_hasPlace : zMd yX4_hasPlace cX4_hasPlace 2 (some .boolean) 1 := ⟨by decide +kernel, gt_of 305 (by decide +kernel) rfl, gt_of 48 (by decide +kernel) rfl, by decide⟩
theorem dX4_hasPlace_0 : decode cX4_hasPlace 0 = .ok (.iload_n 1, 1) := by decide +kernel
theorem dX4_hasPlace_1 : decode cX4_hasPlace 1 = .ok (.ifCond .lt 21, 3) := by decide +kernel
theorem dX4_hasPlace_22 : decode cX4_hasPlace 22 = .ok (.iconst 0, 1) := by decide +kernel
theorem dX4_hasPlace_23 : decode cX4_hasPlace 23 = .ok (.ireturn, 1) := by decide +kernel
theorem dX4_hasPlace_4 : decode cX4_hasPlace 4 = .ok (.iload_n 1, 1) := by decide +kernel
theorem dX4_hasPlace_5 : decode cX4_hasPlace 5 = .ok (.aload_n 0, 1) := by decide +kernel
theorem dX4_hasPlace_6 : decode cX4_hasPlace 6 = .ok (.getfield 25, 3) := by decide +kernel
theorem fX4_25 : zFld RX4 25 4 3 := ⟨RX4, TX4, 5, rfl, inX4, by decide, rfl, Or.inl (gt_of 182 (by decide +kernel) rfl)⟩
theorem dX4_hasPlace_9 : decode cX4_hasPlace 9 = .ok (.if_icmp .ge 13, 3) := by decide +kernel
theorem dX4_hasPlace_12 : decode cX4_hasPlace 12 = .ok (.iload_n 1, 1) := by decide +kernel
theorem dX4_hasPlace_13 : decode cX4_hasPlace 13 = .ok (.bipush 100, 2) := by decide +kernel
theorem dX4_hasPlace_15 : decode cX4_hasPlace 15 = .ok (.if_icmp .ge 7, 3) := by decide +kernel
theorem dX4_hasPlace_18 : decode cX4_hasPlace 18 = .ok (.iconst 1, 1) := by decide +kernel
theorem dX4_hasPlace_19 : decode cX4_hasPlace 19 = .ok (.goto 4, 3) := by decide +kernel
set_option maxRecDepth 100000 in
theorem c_X4_hasPlace (l : Launch) (D : va_G) (cy : Nat → Nat) (n : Nat) (ad : Nat → Nat) (F : Nat → va_E) (sz : Nat) (k : Nat) (sf : Shf) (hk : k + 3 ≤ n) (hR : RSh ad cy k F sf) (i : Int32) : Met l yX4_hasPlace (zw yX4_hasPlace cX4_hasPlace 2 (some .boolean)) (rmL 0) (zPc D cy n ad F sz [.ref (ad k), .int i]) (va_Qi (fun r F1 => r = (if bPlace sf.2.2.2.1 i then 1 else 0) ∧ F = F1) (zB D n ad) (zA n ad sz)) 0 0 (zA n ad sz) := by
  refine zmet (by decide +kernel) (Nat.le_of_ble_eq_true rfl) (fun p e s m args below meth c ls hC hsz hZ hA hr hlocks hnm hl => ?_)
  have hC : zC p m c cX4_hasPlace 2 s args RX4 D cy := hC
  have hx := hC.1.1
  have hb := hC.1.2.1
  have hl : lv_has ls 2 [(0, .ref (ad k)), (1, .int i)] := hl
  refine lv_iload_n hx hb dX4_hasPlace_0 rfl (lv_at hl 1 rfl) ?_
  refine lv_if_lt (tgt := 22) hx hb dX4_hasPlace_1 (by decide) (fun c_1 => ?_) (fun c_1 => ?_)
  · refine lv_iconst (v := 0) hx hb dX4_hasPlace_22 (by decide) ?_
    have hq_1 : (0 : Int32) = if bPlace sf.2.2.2.1 i then 1 else 0 := by simp [c_1, Int32.not_le.mpr c_1]
    exact zbreti hC hZ hr hlocks rfl ⟨hq_1, rfl⟩ dX4_hasPlace_23
  · refine lv_iload_n hx hb dX4_hasPlace_4 rfl (lv_at hl 1 rfl) ?_
    refine lv_aload_n hx hb dX4_hasPlace_5 rfl (lv_at hl 0 rfl) ?_
    refine zget hC hZ fX4_25 (by omega) hR.1 rfl dX4_hasPlace_6 ?_
    refine lv_icmp_ge (tgt := 22) hx hb dX4_hasPlace_9 (by decide) (fun c_9 => ?_) (fun c_9 => ?_)
    · refine lv_iconst (v := 0) hx hb dX4_hasPlace_22 (by decide) ?_
      have hq_2 : (0 : Int32) = if bPlace sf.2.2.2.1 i then 1 else 0 := by simp [c_1, Int32.not_lt.mp c_1, c_9, Int32.not_lt.mpr c_9]
      exact zbreti hC hZ hr hlocks rfl ⟨hq_2, rfl⟩ dX4_hasPlace_23
    · refine lv_iload_n hx hb dX4_hasPlace_12 rfl (lv_at hl 1 rfl) ?_
      refine lv_bipush (v := 100) hx hb dX4_hasPlace_13 (by decide) ?_
      refine lv_icmp_ge (tgt := 22) hx hb dX4_hasPlace_15 (by decide) (fun c_15 => ?_) (fun c_15 => ?_)
      · refine lv_iconst (v := 0) hx hb dX4_hasPlace_22 (by decide) ?_
        have hq_3 : (0 : Int32) = if bPlace sf.2.2.2.1 i then 1 else 0 := by simp [c_1, Int32.not_lt.mp c_1, c_9, Int32.not_le.mp c_9, c_15, Int32.not_lt.mpr c_15]
        exact zbreti hC hZ hr hlocks rfl ⟨hq_3, rfl⟩ dX4_hasPlace_23
      · refine lv_iconst (v := 1) hx hb dX4_hasPlace_18 (by decide) ?_
        refine lv_goto (tgt := 23) hx hb dX4_hasPlace_19 (by decide) ?_
        have hq_4 : (1 : Int32) = if bPlace sf.2.2.2.1 i then 1 else 0 := by simp [c_1, Int32.not_lt.mp c_1, c_9, Int32.not_le.mp c_9, c_15, Int32.not_le.mp c_15]
        exact zbreti hC hZ hr hlocks rfl ⟨hq_4, rfl⟩ dX4_hasPlace_23

theorem mX4_hasStretch : zMd yX4_hasStretch cX4_hasStretch 3 (some .boolean) 2 := ⟨by decide +kernel, gt_of 607 (by decide +kernel) rfl, gt_of 48 (by decide +kernel) rfl, by decide⟩
theorem dX4_hasStretch_0 : decode cX4_hasStretch 0 = .ok (.iload_n 2, 1) := by decide +kernel
theorem dX4_hasStretch_1 : decode cX4_hasStretch 1 = .ok (.ifCond .lt 29, 3) := by decide +kernel
theorem dX4_hasStretch_30 : decode cX4_hasStretch 30 = .ok (.iconst 0, 1) := by decide +kernel
theorem dX4_hasStretch_31 : decode cX4_hasStretch 31 = .ok (.ireturn, 1) := by decide +kernel
theorem dX4_hasStretch_4 : decode cX4_hasStretch 4 = .ok (.iload_n 2, 1) := by decide +kernel
theorem dX4_hasStretch_5 : decode cX4_hasStretch 5 = .ok (.aload_n 0, 1) := by decide +kernel
theorem dX4_hasStretch_6 : decode cX4_hasStretch 6 = .ok (.getfield 25, 3) := by decide +kernel
theorem dX4_hasStretch_9 : decode cX4_hasStretch 9 = .ok (.if_icmp .gt 21, 3) := by decide +kernel
theorem dX4_hasStretch_12 : decode cX4_hasStretch 12 = .ok (.iload_n 1, 1) := by decide +kernel
theorem dX4_hasStretch_13 : decode cX4_hasStretch 13 = .ok (.ifCond .lt 17, 3) := by decide +kernel
theorem dX4_hasStretch_16 : decode cX4_hasStretch 16 = .ok (.iload_n 1, 1) := by decide +kernel
theorem dX4_hasStretch_17 : decode cX4_hasStretch 17 = .ok (.aload_n 0, 1) := by decide +kernel
theorem dX4_hasStretch_18 : decode cX4_hasStretch 18 = .ok (.getfield 25, 3) := by decide +kernel
theorem dX4_hasStretch_21 : decode cX4_hasStretch 21 = .ok (.iload_n 2, 1) := by decide +kernel
theorem dX4_hasStretch_22 : decode cX4_hasStretch 22 = .ok (.isub, 1) := by decide +kernel
theorem dX4_hasStretch_23 : decode cX4_hasStretch 23 = .ok (.if_icmp .gt 7, 3) := by decide +kernel
theorem dX4_hasStretch_26 : decode cX4_hasStretch 26 = .ok (.iconst 1, 1) := by decide +kernel
theorem dX4_hasStretch_27 : decode cX4_hasStretch 27 = .ok (.goto 4, 3) := by decide +kernel
set_option maxRecDepth 100000 in
theorem c_X4_hasStretch (l : Launch) (D : va_G) (cy : Nat → Nat) (n : Nat) (ad : Nat → Nat) (F : Nat → va_E) (sz : Nat) (k : Nat) (sf : Shf) (hk : k + 3 ≤ n) (hR : RSh ad cy k F sf) (i q : Int32) : Met l yX4_hasStretch (zw yX4_hasStretch cX4_hasStretch 3 (some .boolean)) (rmL 0) (zPc D cy n ad F sz [.ref (ad k), .int i, .int q]) (va_Qi (fun r F1 => r = (if bStretch sf.2.2.2.1 i q then 1 else 0) ∧ F = F1) (zB D n ad) (zA n ad sz)) 0 0 (zA n ad sz) := by
  refine zmet (by decide +kernel) (Nat.le_of_ble_eq_true rfl) (fun p e s m args below meth c ls hC hsz hZ hA hr hlocks hnm hl => ?_)
  have hC : zC p m c cX4_hasStretch 3 s args RX4 D cy := hC
  have hx := hC.1.1
  have hb := hC.1.2.1
  have hl : lv_has ls 3 [(0, .ref (ad k)), (1, .int i), (2, .int q)] := hl
  refine lv_iload_n hx hb dX4_hasStretch_0 rfl (lv_at hl 2 rfl) ?_
  refine lv_if_lt (tgt := 30) hx hb dX4_hasStretch_1 (by decide) (fun c_1 => ?_) (fun c_1 => ?_)
  · refine lv_iconst (v := 0) hx hb dX4_hasStretch_30 (by decide) ?_
    have hq_1 : (0 : Int32) = if bStretch sf.2.2.2.1 i q then 1 else 0 := by simp [c_1, Int32.not_le.mpr c_1]
    exact zbreti hC hZ hr hlocks rfl ⟨hq_1, rfl⟩ dX4_hasStretch_31
  · refine lv_iload_n hx hb dX4_hasStretch_4 rfl (lv_at hl 2 rfl) ?_
    refine lv_aload_n hx hb dX4_hasStretch_5 rfl (lv_at hl 0 rfl) ?_
    refine zget hC hZ fX4_25 (by omega) hR.1 rfl dX4_hasStretch_6 ?_
    refine lv_icmp_gt (tgt := 30) hx hb dX4_hasStretch_9 (by decide) (fun c_9 => ?_) (fun c_9 => ?_)
    · refine lv_iconst (v := 0) hx hb dX4_hasStretch_30 (by decide) ?_
      have hq_2 : (0 : Int32) = if bStretch sf.2.2.2.1 i q then 1 else 0 := by simp [c_1, Int32.not_lt.mp c_1, c_9, Int32.not_le.mpr c_9]
      exact zbreti hC hZ hr hlocks rfl ⟨hq_2, rfl⟩ dX4_hasStretch_31
    · refine lv_iload_n hx hb dX4_hasStretch_12 rfl (lv_at hl 1 rfl) ?_
      refine lv_if_lt (tgt := 30) hx hb dX4_hasStretch_13 (by decide) (fun c_13 => ?_) (fun c_13 => ?_)
      · refine lv_iconst (v := 0) hx hb dX4_hasStretch_30 (by decide) ?_
        have hq_3 : (0 : Int32) = if bStretch sf.2.2.2.1 i q then 1 else 0 := by simp [c_1, Int32.not_lt.mp c_1, c_9, Int32.not_lt.mp c_9, c_13, Int32.not_le.mpr c_13]
        exact zbreti hC hZ hr hlocks rfl ⟨hq_3, rfl⟩ dX4_hasStretch_31
      · refine lv_iload_n hx hb dX4_hasStretch_16 rfl (lv_at hl 1 rfl) ?_
        refine lv_aload_n hx hb dX4_hasStretch_17 rfl (lv_at hl 0 rfl) ?_
        refine zget hC hZ fX4_25 (by omega) hR.1 rfl dX4_hasStretch_18 ?_
        refine lv_iload_n hx hb dX4_hasStretch_21 rfl (lv_at hl 2 rfl) ?_
        refine lv_isub hx hb dX4_hasStretch_22 ?_
        refine lv_icmp_gt (tgt := 30) hx hb dX4_hasStretch_23 (by decide) (fun c_23 => ?_) (fun c_23 => ?_)
        · refine lv_iconst (v := 0) hx hb dX4_hasStretch_30 (by decide) ?_
          have hq_4 : (0 : Int32) = if bStretch sf.2.2.2.1 i q then 1 else 0 := by simp [c_1, Int32.not_lt.mp c_1, c_9, Int32.not_lt.mp c_9, c_13, Int32.not_lt.mp c_13, c_23, Int32.not_le.mpr c_23]
          exact zbreti hC hZ hr hlocks rfl ⟨hq_4, rfl⟩ dX4_hasStretch_31
        · refine lv_iconst (v := 1) hx hb dX4_hasStretch_26 (by decide) ?_
          refine lv_goto (tgt := 31) hx hb dX4_hasStretch_27 (by decide) ?_
          have hq_5 : (1 : Int32) = if bStretch sf.2.2.2.1 i q then 1 else 0 := by simp [c_1, Int32.not_lt.mp c_1, c_9, Int32.not_lt.mp c_9, c_13, Int32.not_lt.mp c_13, c_23, Int32.not_lt.mp c_23]
          exact zbreti hC hZ hr hlocks rfl ⟨hq_5, rfl⟩ dX4_hasStretch_31

theorem mX4_change : zMd yX4_change cX4_change 3 none 2 := ⟨by decide +kernel, gt_of 599 (by decide +kernel) rfl, gt_of 48 (by decide +kernel) rfl, by decide⟩
theorem dX4_change_0 : decode cX4_change 0 = .ok (.aload_n 0, 1) := by decide +kernel
theorem dX4_change_1 : decode cX4_change 1 = .ok (.iload_n 1, 1) := by decide +kernel
theorem dX4_change_2 : decode cX4_change 2 = .ok (.invokevirtual 36, 3) := by decide +kernel
theorem kX4_36 : zLk RX4 36 yX4_hasPlace := Or.inl (gt_of 302 (by decide +kernel) rfl)
theorem vX4_hasPlace : zMi yX4_hasPlace := ⟨gt_of 303 (by decide +kernel) rfl, gt_of 304 (by decide +kernel) rfl⟩
theorem dX4_change_5 : decode cX4_change 5 = .ok (.ifCond .ne 4, 3) := by decide +kernel
theorem dX4_change_9 : decode cX4_change 9 = .ok (.aload_n 0, 1) := by decide +kernel
theorem dX4_change_10 : decode cX4_change 10 = .ok (.getfield 22, 3) := by decide +kernel
theorem fX4_22 : zFld RX4 22 4 2 := ⟨RX4, TX4, 5, rfl, inX4, by decide, rfl, Or.inl (gt_of 180 (by decide +kernel) rfl)⟩
theorem dX4_change_13 : decode cX4_change 13 = .ok (.lookupswitch 49 #[(0, 27), (1, 38)], 27) := by decide +kernel
theorem dX4_change_40 : decode cX4_change 40 = .ok (.aload_n 0, 1) := by decide +kernel
theorem dX4_change_41 : decode cX4_change 41 = .ok (.getfield 28, 3) := by decide +kernel
theorem dX4_change_44 : decode cX4_change 44 = .ok (.iload_n 1, 1) := by decide +kernel
theorem dX4_change_45 : decode cX4_change 45 = .ok (.iload_n 2, 1) := by decide +kernel
theorem dX4_change_46 : decode cX4_change 46 = .ok (.i2b, 1) := by decide +kernel
theorem dX4_change_47 : decode cX4_change 47 = .ok (.iastore, 1) := by decide +kernel
theorem dX4_change_48 : decode cX4_change 48 = .ok (.goto 21, 3) := by decide +kernel
theorem dX4_change_69 : decode cX4_change 69 = .ok (.return_, 1) := by decide +kernel
theorem dX4_change_51 : decode cX4_change 51 = .ok (.aload_n 0, 1) := by decide +kernel
theorem dX4_change_52 : decode cX4_change 52 = .ok (.getfield 28, 3) := by decide +kernel
theorem dX4_change_55 : decode cX4_change 55 = .ok (.iload_n 1, 1) := by decide +kernel
theorem dX4_change_56 : decode cX4_change 56 = .ok (.iload_n 2, 1) := by decide +kernel
theorem dX4_change_57 : decode cX4_change 57 = .ok (.i2s, 1) := by decide +kernel
theorem dX4_change_58 : decode cX4_change 58 = .ok (.iastore, 1) := by decide +kernel
theorem dX4_change_59 : decode cX4_change 59 = .ok (.goto 10, 3) := by decide +kernel
theorem dX4_change_62 : decode cX4_change 62 = .ok (.aload_n 0, 1) := by decide +kernel
theorem dX4_change_63 : decode cX4_change 63 = .ok (.getfield 28, 3) := by decide +kernel
theorem dX4_change_66 : decode cX4_change 66 = .ok (.iload_n 1, 1) := by decide +kernel
theorem dX4_change_67 : decode cX4_change 67 = .ok (.iload_n 2, 1) := by decide +kernel
theorem dX4_change_68 : decode cX4_change 68 = .ok (.iastore, 1) := by decide +kernel
theorem dX4_change_8 : decode cX4_change 8 = .ok (.return_, 1) := by decide +kernel
set_option maxRecDepth 100000 in
theorem c_X4_change (l : Launch) (D : va_G) (cy : Nat → Nat) (n : Nat) (ad : Nat → Nat) (F : Nat → va_E) (sz : Nat) (k : Nat) (sf : Shf) (hk : k + 3 ≤ n) (hR : RSh ad cy k F sf) (i v : Int32) : Met l yX4_change (zw yX4_change cX4_change 3 none) (rmL 1) (zPc D cy n ad F sz [.ref (ad k), .int i, .int v]) (va_Qv (fun F1 => F1 = va_up F (k + 2) (oInts cy 100 (if bPlace sf.2.2.2.1 i then upd sf.2.2.2.2 (iN i) (sNar sf.2.2.1 v) else sf.2.2.2.2))) (zB D n ad) (zA n ad sz)) 0 0 (zA n ad sz) := by
  refine zmet (by decide +kernel) (Nat.le_of_ble_eq_true rfl) (fun p e s m args below meth c ls hC hsz hZ hA hr hlocks hnm hl => ?_)
  have hC : zC p m c cX4_change 3 s args RX4 D cy := hC
  have hx := hC.1.1
  have hb := hC.1.2.1
  have hl : lv_has ls 3 [(0, .ref (ad k)), (1, .int i), (2, .int v)] := hl
  refine lv_aload_n hx hb dX4_change_0 rfl (lv_at hl 0 rfl) ?_
  refine lv_iload_n hx hb dX4_change_1 rfl (lv_at hl 1 rfl) ?_
  refine zgoi hZ hA (zrunV (As := [.int i]) (rest := []) (k := k) hC hZ (c_X4_hasPlace l D cy n ad F s.heap.size k sf hk hR i) mX4_hasPlace vX4_hasPlace kX4_36 (zRj_of rfl) (by omega) hR.1 rfl rfl hl.1 rfl (Nat.le_of_ble_eq_true rfl) dX4_change_2 ⟨Nat.le_refl _, Nat.le_refl _⟩) (fun r_2 F_1 hp_3 H locs hZ => ?_)
  obtain ⟨hp_3, rfl⟩ := hp_3
  by_cases b_4 : bPlace sf.2.2.2.1 i
  · rw [if_pos b_4] at hp_3
    subst hp_3
    refine lv_if_ne (tgt := 9) hx hb dX4_change_5 (by decide) (fun _ => ?_) (fun h => absurd h (by decide))
    refine lv_aload_n hx hb dX4_change_9 rfl (lv_at hl 0 rfl) ?_
    refine zget hC hZ fX4_22 (by omega) hR.1 rfl dX4_change_10 ?_
    by_cases c_13_0 : sf.2.2.1 = 0
    · refine lv_lookup (off := 27) (tgt := 40) hx hb dX4_change_13 (by decide) (by rw [c_13_0]; decide) (by decide) ?_
      refine lv_aload_n hx hb dX4_change_40 rfl (lv_at hl 0 rfl) ?_
      refine zget hC hZ fX4_28 (by omega) hR.1 rfl dX4_change_41 ?_
      refine lv_iload_n hx hb dX4_change_44 rfl (lv_at hl 1 rfl) ?_
      refine lv_iload_n hx hb dX4_change_45 rfl (lv_at hl 2 rfl) ?_
      refine lv_i2b (v := v.toInt8.toInt32) hx hb dX4_change_46 rfl ?_
      refine ziast hC hZ (by omega) hR.2.2 (iN_at (N := 100) b_4.1 b_4.2.2 rfl).1 (iN_at (N := 100) b_4.1 b_4.2.2 rfl).2 (by decide) dX4_change_47 (fun F_5 hF_6 H locs hZ => ?_)
      have h_7 := zeq hF_6
      refine lv_goto (tgt := 69) hx hb dX4_change_48 (by decide) ?_
      have hq_8 : F_5 = va_up F (k + 2) (oInts cy 100 (if bPlace sf.2.2.2.1 i then upd sf.2.2.2.2 (iN i) (sNar sf.2.2.1 v) else sf.2.2.2.2)) := by rw [if_pos b_4, hF_6]; simp [sNar, b_4, c_13_0]
      exact zvret hC hZ hr hlocks hq_8 dX4_change_69
    · by_cases c_13_1 : sf.2.2.1 = 1
      · refine lv_lookup (off := 38) (tgt := 51) hx hb dX4_change_13 (by decide) (by rw [c_13_1]; decide) (by decide) ?_
        refine lv_aload_n hx hb dX4_change_51 rfl (lv_at hl 0 rfl) ?_
        refine zget hC hZ fX4_28 (by omega) hR.1 rfl dX4_change_52 ?_
        refine lv_iload_n hx hb dX4_change_55 rfl (lv_at hl 1 rfl) ?_
        refine lv_iload_n hx hb dX4_change_56 rfl (lv_at hl 2 rfl) ?_
        refine lv_i2s (v := v.toInt16.toInt32) hx hb dX4_change_57 rfl ?_
        refine ziast hC hZ (by omega) hR.2.2 (iN_at (N := 100) b_4.1 b_4.2.2 rfl).1 (iN_at (N := 100) b_4.1 b_4.2.2 rfl).2 (by decide) dX4_change_58 (fun F_9 hF_10 H locs hZ => ?_)
        have h_11 := zeq hF_10
        refine lv_goto (tgt := 69) hx hb dX4_change_59 (by decide) ?_
        have hq_12 : F_9 = va_up F (k + 2) (oInts cy 100 (if bPlace sf.2.2.2.1 i then upd sf.2.2.2.2 (iN i) (sNar sf.2.2.1 v) else sf.2.2.2.2)) := by rw [if_pos b_4, hF_10]; simp [sNar, b_4, c_13_0, c_13_1]
        exact zvret hC hZ hr hlocks hq_12 dX4_change_69
      · refine lv_lookup (off := 49) (tgt := 62) hx hb dX4_change_13 (by decide) ((lv_osw (k := 0) c_13_0 rfl).trans ((lv_osw (k := 1) c_13_1 rfl).trans rfl)) (by decide) ?_
        refine lv_aload_n hx hb dX4_change_62 rfl (lv_at hl 0 rfl) ?_
        refine zget hC hZ fX4_28 (by omega) hR.1 rfl dX4_change_63 ?_
        refine lv_iload_n hx hb dX4_change_66 rfl (lv_at hl 1 rfl) ?_
        refine lv_iload_n hx hb dX4_change_67 rfl (lv_at hl 2 rfl) ?_
        refine ziast hC hZ (by omega) hR.2.2 (iN_at (N := 100) b_4.1 b_4.2.2 rfl).1 (iN_at (N := 100) b_4.1 b_4.2.2 rfl).2 (by decide) dX4_change_68 (fun F_13 hF_14 H locs hZ => ?_)
        have h_15 := zeq hF_14
        have hq_16 : F_13 = va_up F (k + 2) (oInts cy 100 (if bPlace sf.2.2.2.1 i then upd sf.2.2.2.2 (iN i) (sNar sf.2.2.1 v) else sf.2.2.2.2)) := by rw [if_pos b_4, hF_14]; simp [sNar, b_4, c_13_0, c_13_1]
        exact zvret hC hZ hr hlocks hq_16 dX4_change_69
  · rw [if_neg b_4] at hp_3
    subst hp_3
    refine lv_if_ne (tgt := 9) hx hb dX4_change_5 (by decide) (fun h => absurd (by decide) h) (fun _ => ?_)
    have hq_17 : F = va_up F (k + 2) (oInts cy 100 (if bPlace sf.2.2.2.1 i then upd sf.2.2.2.2 (iN i) (sNar sf.2.2.1 v) else sf.2.2.2.2)) := by rw [if_neg b_4]; exact zself hR.2.2
    exact zvret hC hZ hr hlocks hq_17 dX4_change_8

theorem mX4_at : zMd yX4_at cX4_at 2 (some .int) 1 := ⟨by decide +kernel, gt_of 301 (by decide +kernel) rfl, gt_of 48 (by decide +kernel) rfl, by decide⟩
theorem dX4_at_0 : decode cX4_at 0 = .ok (.aload_n 0, 1) := by decide +kernel
theorem dX4_at_1 : decode cX4_at 1 = .ok (.iload_n 1, 1) := by decide +kernel
theorem dX4_at_2 : decode cX4_at 2 = .ok (.invokevirtual 36, 3) := by decide +kernel
theorem dX4_at_5 : decode cX4_at 5 = .ok (.ifCond .eq 12, 3) := by decide +kernel
theorem dX4_at_8 : decode cX4_at 8 = .ok (.aload_n 0, 1) := by decide +kernel
theorem dX4_at_9 : decode cX4_at 9 = .ok (.getfield 28, 3) := by decide +kernel
theorem dX4_at_12 : decode cX4_at 12 = .ok (.iload_n 1, 1) := by decide +kernel
theorem dX4_at_13 : decode cX4_at 13 = .ok (.iaload, 1) := by decide +kernel
theorem dX4_at_14 : decode cX4_at 14 = .ok (.goto 4, 3) := by decide +kernel
theorem dX4_at_18 : decode cX4_at 18 = .ok (.ireturn, 1) := by decide +kernel
theorem dX4_at_17 : decode cX4_at 17 = .ok (.iconst 0, 1) := by decide +kernel
set_option maxRecDepth 100000 in
theorem c_X4_at (l : Launch) (D : va_G) (cy : Nat → Nat) (n : Nat) (ad : Nat → Nat) (F : Nat → va_E) (sz : Nat) (k : Nat) (sf : Shf) (hk : k + 3 ≤ n) (hR : RSh ad cy k F sf) (i : Int32) : Met l yX4_at (zw yX4_at cX4_at 2 (some .int)) (rmL 1) (zPc D cy n ad F sz [.ref (ad k), .int i]) (va_Qi (fun r F1 => r = sAt sf.2.2.2.1 sf.2.2.2.2 i ∧ F = F1) (zB D n ad) (zA n ad sz)) 0 0 (zA n ad sz) := by
  refine zmet (by decide +kernel) (Nat.le_of_ble_eq_true rfl) (fun p e s m args below meth c ls hC hsz hZ hA hr hlocks hnm hl => ?_)
  have hC : zC p m c cX4_at 2 s args RX4 D cy := hC
  have hx := hC.1.1
  have hb := hC.1.2.1
  have hl : lv_has ls 2 [(0, .ref (ad k)), (1, .int i)] := hl
  refine lv_aload_n hx hb dX4_at_0 rfl (lv_at hl 0 rfl) ?_
  refine lv_iload_n hx hb dX4_at_1 rfl (lv_at hl 1 rfl) ?_
  refine zgoi hZ hA (zrunV (As := [.int i]) (rest := []) (k := k) hC hZ (c_X4_hasPlace l D cy n ad F s.heap.size k sf hk hR i) mX4_hasPlace vX4_hasPlace kX4_36 (zRj_of rfl) (by omega) hR.1 rfl rfl hl.1 rfl (Nat.le_of_ble_eq_true rfl) dX4_at_2 ⟨Nat.le_refl _, Nat.le_refl _⟩) (fun r_2 F_1 hp_3 H locs hZ => ?_)
  obtain ⟨hp_3, rfl⟩ := hp_3
  by_cases b_4 : bPlace sf.2.2.2.1 i
  · rw [if_pos b_4] at hp_3
    subst hp_3
    refine lv_if_eq (tgt := 17) hx hb dX4_at_5 (by decide) (fun h => absurd h (by decide)) (fun _ => ?_)
    refine lv_aload_n hx hb dX4_at_8 rfl (lv_at hl 0 rfl) ?_
    refine zget hC hZ fX4_28 (by omega) hR.1 rfl dX4_at_9 ?_
    refine lv_iload_n hx hb dX4_at_12 rfl (lv_at hl 1 rfl) ?_
    refine ziald hC hZ (by omega) hR.2.2 (iN_at (N := 100) b_4.1 b_4.2.2 rfl).1 (iN_at (N := 100) b_4.1 b_4.2.2 rfl).2 (by decide) dX4_at_13 ?_
    refine lv_goto (tgt := 18) hx hb dX4_at_14 (by decide) ?_
    have hq_5 : (sf.2.2.2.2 (iN i)) = sAt sf.2.2.2.1 sf.2.2.2.2 i := by first | rfl | simp [sAt, b_4] | (simp only [sAt]; simp [b_4])
    exact zireti hC hZ hr hlocks ⟨hq_5, rfl⟩ dX4_at_18
  · rw [if_neg b_4] at hp_3
    subst hp_3
    refine lv_if_eq (tgt := 17) hx hb dX4_at_5 (by decide) (fun _ => ?_) (fun h => absurd (by decide) h)
    refine lv_iconst (v := 0) hx hb dX4_at_17 (by decide) ?_
    have hq_6 : (0 : Int32) = sAt sf.2.2.2.1 sf.2.2.2.2 i := by first | rfl | simp [sAt, b_4] | (simp only [sAt]; simp [b_4])
    exact zireti hC hZ hr hlocks ⟨hq_6, rfl⟩ dX4_at_18

theorem mX4_tells : zMd yX4_tells cX4_tells 2 (some .boolean) 1 := ⟨by decide +kernel, gt_of 489 (by decide +kernel) rfl, gt_of 48 (by decide +kernel) rfl, by decide⟩
theorem dX4_tells_0 : decode cX4_tells 0 = .ok (.aload_n 0, 1) := by decide +kernel
theorem dX4_tells_1 : decode cX4_tells 1 = .ok (.getfield 22, 3) := by decide +kernel
theorem dX4_tells_4 : decode cX4_tells 4 = .ok (.lookupswitch 61 #[(0, 28), (1, 44)], 28) := by decide +kernel
theorem dX4_tells_32 : decode cX4_tells 32 = .ok (.aload_n 0, 1) := by decide +kernel
theorem dX4_tells_33 : decode cX4_tells 33 = .ok (.iload_n 1, 1) := by decide +kernel
theorem dX4_tells_34 : decode cX4_tells 34 = .ok (.invokevirtual 40, 3) := by decide +kernel
theorem kX4_40 : zLk RX4 40 yX4_at := Or.inl (gt_of 490 (by decide +kernel) rfl)
theorem vX4_at : zMi yX4_at := ⟨gt_of 299 (by decide +kernel) rfl, gt_of 300 (by decide +kernel) rfl⟩
theorem dX4_tells_37 : decode cX4_tells 37 = .ok (.bipush (-128), 2) := by decide +kernel
theorem dX4_tells_39 : decode cX4_tells 39 = .ok (.if_icmp .eq 7, 3) := by decide +kernel
theorem dX4_tells_46 : decode cX4_tells 46 = .ok (.iconst 0, 1) := by decide +kernel
theorem dX4_tells_47 : decode cX4_tells 47 = .ok (.ireturn, 1) := by decide +kernel
theorem dX4_tells_42 : decode cX4_tells 42 = .ok (.iconst 1, 1) := by decide +kernel
theorem dX4_tells_43 : decode cX4_tells 43 = .ok (.goto 4, 3) := by decide +kernel
theorem dX4_tells_48 : decode cX4_tells 48 = .ok (.aload_n 0, 1) := by decide +kernel
theorem dX4_tells_49 : decode cX4_tells 49 = .ok (.iload_n 1, 1) := by decide +kernel
theorem dX4_tells_50 : decode cX4_tells 50 = .ok (.invokevirtual 40, 3) := by decide +kernel
theorem dX4_tells_53 : decode cX4_tells 53 = .ok (.sipush (-32768), 3) := by decide +kernel
theorem dX4_tells_56 : decode cX4_tells 56 = .ok (.if_icmp .eq 7, 3) := by decide +kernel
theorem dX4_tells_63 : decode cX4_tells 63 = .ok (.iconst 0, 1) := by decide +kernel
theorem dX4_tells_64 : decode cX4_tells 64 = .ok (.ireturn, 1) := by decide +kernel
theorem dX4_tells_59 : decode cX4_tells 59 = .ok (.iconst 1, 1) := by decide +kernel
theorem dX4_tells_60 : decode cX4_tells 60 = .ok (.goto 4, 3) := by decide +kernel
theorem dX4_tells_65 : decode cX4_tells 65 = .ok (.aload_n 0, 1) := by decide +kernel
theorem dX4_tells_66 : decode cX4_tells 66 = .ok (.iload_n 1, 1) := by decide +kernel
theorem dX4_tells_67 : decode cX4_tells 67 = .ok (.invokevirtual 40, 3) := by decide +kernel
theorem dX4_tells_70 : decode cX4_tells 70 = .ok (.ldc 46, 2) := by decide +kernel
theorem qX4_46 : Cond.constant RX4 46 (-2147483648) ∈ gtbl := gt_of 491 (by decide +kernel) rfl
theorem dX4_tells_72 : decode cX4_tells 72 = .ok (.if_icmp .eq 7, 3) := by decide +kernel
theorem dX4_tells_79 : decode cX4_tells 79 = .ok (.iconst 0, 1) := by decide +kernel
theorem dX4_tells_80 : decode cX4_tells 80 = .ok (.ireturn, 1) := by decide +kernel
theorem dX4_tells_75 : decode cX4_tells 75 = .ok (.iconst 1, 1) := by decide +kernel
theorem dX4_tells_76 : decode cX4_tells 76 = .ok (.goto 4, 3) := by decide +kernel
set_option maxRecDepth 100000 in
theorem c_X4_tells (l : Launch) (D : va_G) (cy : Nat → Nat) (n : Nat) (ad : Nat → Nat) (F : Nat → va_E) (sz : Nat) (k : Nat) (sf : Shf) (hk : k + 3 ≤ n) (hR : RSh ad cy k F sf) (i : Int32) : Met l yX4_tells (zw yX4_tells cX4_tells 2 (some .boolean)) (rmL 2) (zPc D cy n ad F sz [.ref (ad k), .int i]) (va_Qi (fun r F1 => r = (if bTells sf.2.2.1 sf.2.2.2.1 sf.2.2.2.2 i then 1 else 0) ∧ F = F1) (zB D n ad) (zA n ad sz)) 0 0 (zA n ad sz) := by
  refine zmet (by decide +kernel) (Nat.le_of_ble_eq_true rfl) (fun p e s m args below meth c ls hC hsz hZ hA hr hlocks hnm hl => ?_)
  have hC : zC p m c cX4_tells 2 s args RX4 D cy := hC
  have hx := hC.1.1
  have hb := hC.1.2.1
  have hl : lv_has ls 2 [(0, .ref (ad k)), (1, .int i)] := hl
  refine lv_aload_n hx hb dX4_tells_0 rfl (lv_at hl 0 rfl) ?_
  refine zget hC hZ fX4_22 (by omega) hR.1 rfl dX4_tells_1 ?_
  by_cases c_4_0 : sf.2.2.1 = 0
  · refine lv_lookup (off := 28) (tgt := 32) hx hb dX4_tells_4 (by decide) (by rw [c_4_0]; decide) (by decide) ?_
    refine lv_aload_n hx hb dX4_tells_32 rfl (lv_at hl 0 rfl) ?_
    refine lv_iload_n hx hb dX4_tells_33 rfl (lv_at hl 1 rfl) ?_
    refine zgoi hZ hA (zrunV (As := [.int i]) (rest := []) (k := k) hC hZ (c_X4_at l D cy n ad F s.heap.size k sf hk hR i) mX4_at vX4_at kX4_40 (zRj_of rfl) (by omega) hR.1 rfl rfl hl.1 rfl (Nat.le_of_ble_eq_true rfl) dX4_tells_34 ⟨Nat.le_refl _, Nat.le_refl _⟩) (fun r_2 F_1 hp_3 H locs hZ => ?_)
    obtain ⟨rfl, rfl⟩ := hp_3
    refine lv_bipush (v := (-128)) hx hb dX4_tells_37 (by decide) ?_
    refine lv_icmp_eq (tgt := 46) hx hb dX4_tells_39 (by decide) (fun c_39 => ?_) (fun c_39 => ?_)
    · refine lv_iconst (v := 0) hx hb dX4_tells_46 (by decide) ?_
      have hq_4 : (0 : Int32) = if bTells sf.2.2.1 sf.2.2.2.1 sf.2.2.2.2 i then 1 else 0 := by simp [sLow, c_4_0, c_39]
      exact zbreti hC hZ hr hlocks rfl ⟨hq_4, rfl⟩ dX4_tells_47
    · refine lv_iconst (v := 1) hx hb dX4_tells_42 (by decide) ?_
      refine lv_goto (tgt := 47) hx hb dX4_tells_43 (by decide) ?_
      have hq_5 : (1 : Int32) = if bTells sf.2.2.1 sf.2.2.2.1 sf.2.2.2.2 i then 1 else 0 := by simp [sLow, c_4_0, c_39]
      exact zbreti hC hZ hr hlocks rfl ⟨hq_5, rfl⟩ dX4_tells_47
  · by_cases c_4_1 : sf.2.2.1 = 1
    · refine lv_lookup (off := 44) (tgt := 48) hx hb dX4_tells_4 (by decide) (by rw [c_4_1]; decide) (by decide) ?_
      refine lv_aload_n hx hb dX4_tells_48 rfl (lv_at hl 0 rfl) ?_
      refine lv_iload_n hx hb dX4_tells_49 rfl (lv_at hl 1 rfl) ?_
      refine zgoi hZ hA (zrunV (As := [.int i]) (rest := []) (k := k) hC hZ (c_X4_at l D cy n ad F s.heap.size k sf hk hR i) mX4_at vX4_at kX4_40 (zRj_of rfl) (by omega) hR.1 rfl rfl hl.1 rfl (Nat.le_of_ble_eq_true rfl) dX4_tells_50 ⟨Nat.le_refl _, Nat.le_refl _⟩) (fun r_7 F_6 hp_8 H locs hZ => ?_)
      obtain ⟨rfl, rfl⟩ := hp_8
      refine lv_sipush (v := (-32768)) hx hb dX4_tells_53 (by decide) ?_
      refine lv_icmp_eq (tgt := 63) hx hb dX4_tells_56 (by decide) (fun c_56 => ?_) (fun c_56 => ?_)
      · refine lv_iconst (v := 0) hx hb dX4_tells_63 (by decide) ?_
        have hq_9 : (0 : Int32) = if bTells sf.2.2.1 sf.2.2.2.1 sf.2.2.2.2 i then 1 else 0 := by simp [sLow, c_4_0, c_4_1, c_56]
        exact zbreti hC hZ hr hlocks rfl ⟨hq_9, rfl⟩ dX4_tells_64
      · refine lv_iconst (v := 1) hx hb dX4_tells_59 (by decide) ?_
        refine lv_goto (tgt := 64) hx hb dX4_tells_60 (by decide) ?_
        have hq_10 : (1 : Int32) = if bTells sf.2.2.1 sf.2.2.2.1 sf.2.2.2.2 i then 1 else 0 := by simp [sLow, c_4_0, c_4_1, c_56]
        exact zbreti hC hZ hr hlocks rfl ⟨hq_10, rfl⟩ dX4_tells_64
    · refine lv_lookup (off := 61) (tgt := 65) hx hb dX4_tells_4 (by decide) ((lv_osw (k := 0) c_4_0 rfl).trans ((lv_osw (k := 1) c_4_1 rfl).trans rfl)) (by decide) ?_
      refine lv_aload_n hx hb dX4_tells_65 rfl (lv_at hl 0 rfl) ?_
      refine lv_iload_n hx hb dX4_tells_66 rfl (lv_at hl 1 rfl) ?_
      refine zgoi hZ hA (zrunV (As := [.int i]) (rest := []) (k := k) hC hZ (c_X4_at l D cy n ad F s.heap.size k sf hk hR i) mX4_at vX4_at kX4_40 (zRj_of rfl) (by omega) hR.1 rfl rfl hl.1 rfl (Nat.le_of_ble_eq_true rfl) dX4_tells_67 ⟨Nat.le_refl _, Nat.le_refl _⟩) (fun r_12 F_11 hp_13 H locs hZ => ?_)
      obtain ⟨rfl, rfl⟩ := hp_13
      refine lv_ldc (v := (-2147483648)) hx hb hC.1.2.2.2.1 (hC.1.2.2.2.2 _ qX4_46) dX4_tells_70 ?_
      refine lv_icmp_eq (tgt := 79) hx hb dX4_tells_72 (by decide) (fun c_72 => ?_) (fun c_72 => ?_)
      · refine lv_iconst (v := 0) hx hb dX4_tells_79 (by decide) ?_
        have hq_14 : (0 : Int32) = if bTells sf.2.2.1 sf.2.2.2.1 sf.2.2.2.2 i then 1 else 0 := by simp [sLow, c_4_0, c_4_1, c_72]
        exact zbreti hC hZ hr hlocks rfl ⟨hq_14, rfl⟩ dX4_tells_80
      · refine lv_iconst (v := 1) hx hb dX4_tells_75 (by decide) ?_
        refine lv_goto (tgt := 80) hx hb dX4_tells_76 (by decide) ?_
        have hq_15 : (1 : Int32) = if bTells sf.2.2.1 sf.2.2.2.1 sf.2.2.2.2 i then 1 else 0 := by simp [sLow, c_4_0, c_4_1, c_72]
        exact zbreti hC hZ hr hlocks rfl ⟨hq_15, rfl⟩ dX4_tells_80
end
section
section RSL
variable {ad cy : Nat → Nat} {k : Nat} {F F1 : Nat → va_E} {sc : Scn}
theorem RS_chain {t : Stg} (h : RS ad cy k F sc) (hF : F1 = va_up F (k + 1) (oSetting t)) : RS ad cy k F1 (t, sc.2) :=
  ⟨zne hF (by omega) h.1, zeq hF, zne hF (by omega) h.2.2.1, zne hF (by omega) h.2.2.2.1, fun i hi => zne hF (by omega) (h.2.2.2.2 i hi)⟩
theorem RS_self {ln tc : Int32} (h : RS ad cy k F sc) (hF : F1 = va_up F k (oScene ad k ln tc)) : RS ad cy k F1 (sc.1, ln, sc.2.2.1, tc, sc.2.2.2.2) :=
  ⟨zeq hF, zne hF (by omega) h.2.1, zne hF (by omega) h.2.2.1, zne hF (by omega) h.2.2.2.1, fun i hi => zne hF (by omega) (h.2.2.2.2 i hi)⟩
theorem RS_course {c : Crs} (h : RS ad cy k F sc) (hF : F1 = va_up F (k + 3) (oCourse c)) : RS ad cy k F1 (sc.1, sc.2.1, sc.2.2.1, sc.2.2.2.1, c) :=
  ⟨zne hF (by omega) h.1, zne hF (by omega) h.2.1, zne hF (by omega) h.2.2.1, zeq hF, fun i hi => zne hF (by omega) (h.2.2.2.2 i hi)⟩
theorem RS_try {t : Stg} {j : Nat} (h : RS ad cy k F sc) (hF : F1 = va_up F (k + 4 + j) (oSetting t)) : RS ad cy k F1 (sc.1, sc.2.1, va_up sc.2.2.1 j t, sc.2.2.2.1, sc.2.2.2.2) := by
  refine ⟨zne hF (by omega) h.1, zne hF (by omega) h.2.1, zne hF (by omega) h.2.2.1, zne hF (by omega) h.2.2.2.1, fun i hi => ?_⟩
  by_cases hj : i = j
  · subst hj
    show F1 (k + 4 + i) = oSetting (va_up sc.2.2.1 i t i)
    rw [va_up_self]; exact zeq hF
  · show F1 (k + 4 + i) = oSetting (va_up sc.2.2.1 j t i)
    rw [va_up_ne _ _ hj]; exact zne hF (by omega) (h.2.2.2.2 i hi)
theorem RS_fr (h : RS ad cy k F sc) (hF : ∀ q, k ≤ q → q < k + 12 → F1 q = F q) : RS ad cy k F1 sc :=
  ⟨(hF _ (by omega) (by omega)).trans h.1, (hF _ (by omega) (by omega)).trans h.2.1, (hF _ (by omega) (by omega)).trans h.2.2.1, (hF _ (by omega) (by omega)).trans h.2.2.2.1, fun i hi => (hF _ (by omega) (by omega)).trans (h.2.2.2.2 i hi)⟩
theorem RS_ext {sc' : Scn} (h : RS ad cy k F sc) (h1 : sc'.1 = sc.1) (h2 : sc'.2.1 = sc.2.1) (h3 : ∀ i, i < 8 → sc'.2.2.1 i = sc.2.2.1 i) (h4 : sc'.2.2.2 = sc.2.2.2) : RS ad cy k F sc' := by
  obtain ⟨a, b, c, d⟩ := sc'
  dsimp only at h1 h2 h3 h4
  subst h1; subst h2; subst h4
  exact ⟨h.1, h.2.1, h.2.2.1, h.2.2.2.1, fun i hi => by show F (k + 4 + i) = oSetting (c i); rw [h3 i hi]; exact h.2.2.2.2 i hi⟩
end RSL
theorem tr_s (f g : Nat → Stg) (i : Nat) : va_up (fun j => if j < i then f j else g j) i (f i) = fun j => if j < i + 1 then f j else g j := by
  funext j
  unfold va_up
  by_cases h : j = i
  · simp [h]
  · by_cases h2 : j < i
    · simp [h, h2, show j < i + 1 by omega]
    · simp [h, h2, show ¬ j < i + 1 by omega]
abbrev bIn (v lo hi : Int32) : Prop := lo ≤ v ∧ v ≤ hi
abbrev bSh (d : Int32) : Prop := 0 ≤ d ∧ d < 8
abbrev bTold (b : Stg) : Prop := bIn b.1 0 100 ∧ bIn b.2.1 0 100 ∧ bIn b.2.2.1 0 2 ∧ bIn b.2.2.2 1 400
def sFirst (x y : Int32) : Int32 := if x = 0 ∨ y = 0 then x + y else sMax x y
abbrev bTry (tc i : Int32) : Prop := 0 ≤ i ∧ i < tc ∧ i < 8
def zcop (f g : Nat → Int32) (i : Nat) : Nat → Int32 := fun j => if j < i then f j else g j
theorem zcop_0 (f g : Nat → Int32) : zcop f g 0 = g := by funext j; simp [zcop]
theorem zcop_s (f g : Nat → Int32) (i : Nat) : upd (zcop f g i) i (f i) = zcop f g (i + 1) := by
  funext j
  unfold upd zcop
  by_cases h : j = i
  · simp [h]
  · by_cases h2 : j < i
    · simp [h, h2, show j < i + 1 by omega]
    · simp [h, h2, show ¬ j < i + 1 by omega]
theorem sAt_nI {el : Nat → Int32} {z i : Nat} (hz : z ≤ 100) (hi : i < z) : sAt (nI z) el (nI i) = el i := by
  unfold sAt bPlace
  rw [if_pos ⟨nI_pos' (by omega), nI_lt hi (by omega), by
    have := nI_lt (a := i) (b := 100) (by omega) (by omega)
    exact this⟩, iN_nI (by omega)]
section RDL
variable {ch : Int32 → Int32} {g v : Int32} {q : Int32 × Int32} {u : Int32 × Int32 × Int32}
theorem sAcc_pos (h : bAcc ch g q) : sAcc ch g q = (q.1 + 1, q.2) := if_pos h
theorem sAcc_neg (h : ¬ bAcc ch g q) : sAcc ch g q = q := if_neg h
theorem sNeed_pos (h : bAcc ch g q) : sNeed ch g q = sAcc ch g q := by rw [sAcc_pos h]; exact if_pos h
theorem sNeed_neg (h : ¬ bAcc ch g q) : sNeed ch g q = (q.1, 1) := if_neg h
theorem sDig_pos (h1 : q.2 = 0) (h2 : bDig ch q.1) : sDig ch q = (ch q.1 - 48, q.1 + 1, q.2) := if_pos ⟨h1, h2⟩
theorem sDig_neg (h : ¬ (q.2 = 0 ∧ bDig ch q.1)) : sDig ch q = (0, q.1, 1) := if_neg h
theorem sMore_pos (h1 : u.2.2 = 0) (h2 : 0 < u.1) (h3 : bDig ch u.2.1) : sMore ch u = (10 * u.1 + (sDig ch u.2).1, (sDig ch u.2).2) := if_pos ⟨h1, h2, h3⟩
theorem sMore_neg (h : ¬ (u.2.2 = 0 ∧ 0 < u.1 ∧ bDig ch u.2.1)) : sMore ch u = u := if_neg h
theorem sOpt_posN (h : bAcc ch g q) : sOpt ch g true v q = sNum ch (sAcc ch g q) := by unfold sOpt; rw [if_pos h]; rfl
theorem sOpt_posD (h : bAcc ch g q) : sOpt ch g false v q = sDig ch (sAcc ch g q) := by unfold sOpt; rw [if_pos h]; rfl
theorem sOpt_neg {b : Bool} (h : ¬ bAcc ch g q) : sOpt ch g b v q = (v, q) := if_neg h
end RDL
end
section
theorem mX6_isWithin : zMd yX6_isWithin cX6_isWithin 3 (some .boolean) 3 := ⟨by decide +kernel, gt_of 263 (by decide +kernel) rfl, gt_of 44 (by decide +kernel) rfl, by decide⟩
theorem dX6_isWithin_0 : decode cX6_isWithin 0 = .ok (.iload_n 0, 1) := by decide +kernel
theorem dX6_isWithin_1 : decode cX6_isWithin 1 = .ok (.iload_n 1, 1) := by decide +kernel
theorem dX6_isWithin_2 : decode cX6_isWithin 2 = .ok (.if_icmp .lt 12, 3) := by decide +kernel
theorem dX6_isWithin_14 : decode cX6_isWithin 14 = .ok (.iconst 0, 1) := by decide +kernel
theorem dX6_isWithin_15 : decode cX6_isWithin 15 = .ok (.ireturn, 1) := by decide +kernel
theorem dX6_isWithin_5 : decode cX6_isWithin 5 = .ok (.iload_n 0, 1) := by decide +kernel
theorem dX6_isWithin_6 : decode cX6_isWithin 6 = .ok (.iload_n 2, 1) := by decide +kernel
theorem dX6_isWithin_7 : decode cX6_isWithin 7 = .ok (.if_icmp .gt 7, 3) := by decide +kernel
theorem dX6_isWithin_10 : decode cX6_isWithin 10 = .ok (.iconst 1, 1) := by decide +kernel
theorem dX6_isWithin_11 : decode cX6_isWithin 11 = .ok (.goto 4, 3) := by decide +kernel
set_option maxRecDepth 100000 in
theorem c_X6_isWithin (l : Launch) (D : va_G) (cy : Nat → Nat) (n : Nat) (ad : Nat → Nat) (F : Nat → va_E) (sz : Nat) (v lo hi : Int32) : Met l yX6_isWithin (zw yX6_isWithin cX6_isWithin 3 (some .boolean)) (rmL 0) (zPc D cy n ad F sz [.int v, .int lo, .int hi]) (va_Qi (fun r F1 => r = (if bIn v lo hi then 1 else 0) ∧ F = F1) (zB D n ad) (zA n ad sz)) 0 0 (zA n ad sz) := by
  refine zmet (by decide +kernel) (Nat.le_of_ble_eq_true rfl) (fun p e s m args below meth c ls hC hsz hZ hA hr hlocks hnm hl => ?_)
  have hC : zC p m c cX6_isWithin 3 s args RX6 D cy := hC
  have hx := hC.1.1
  have hb := hC.1.2.1
  have hl : lv_has ls 3 [(0, .int v), (1, .int lo), (2, .int hi)] := hl
  refine lv_iload_n hx hb dX6_isWithin_0 rfl (lv_at hl 0 rfl) ?_
  refine lv_iload_n hx hb dX6_isWithin_1 rfl (lv_at hl 1 rfl) ?_
  refine lv_icmp_lt (tgt := 14) hx hb dX6_isWithin_2 (by decide) (fun c_2 => ?_) (fun c_2 => ?_)
  · refine lv_iconst (v := 0) hx hb dX6_isWithin_14 (by decide) ?_
    have hq_1 : (0 : Int32) = if bIn v lo hi then 1 else 0 := by simp [c_2, Int32.not_le.mpr c_2]
    exact zbreti hC hZ hr hlocks rfl ⟨hq_1, rfl⟩ dX6_isWithin_15
  · refine lv_iload_n hx hb dX6_isWithin_5 rfl (lv_at hl 0 rfl) ?_
    refine lv_iload_n hx hb dX6_isWithin_6 rfl (lv_at hl 2 rfl) ?_
    refine lv_icmp_gt (tgt := 14) hx hb dX6_isWithin_7 (by decide) (fun c_7 => ?_) (fun c_7 => ?_)
    · refine lv_iconst (v := 0) hx hb dX6_isWithin_14 (by decide) ?_
      have hq_2 : (0 : Int32) = if bIn v lo hi then 1 else 0 := by simp [c_2, Int32.not_lt.mp c_2, c_7, Int32.not_le.mpr c_7]
      exact zbreti hC hZ hr hlocks rfl ⟨hq_2, rfl⟩ dX6_isWithin_15
    · refine lv_iconst (v := 1) hx hb dX6_isWithin_10 (by decide) ?_
      refine lv_goto (tgt := 15) hx hb dX6_isWithin_11 (by decide) ?_
      have hq_3 : (1 : Int32) = if bIn v lo hi then 1 else 0 := by simp [c_2, Int32.not_lt.mp c_2, c_7, Int32.not_lt.mp c_7]
      exact zbreti hC hZ hr hlocks rfl ⟨hq_3, rfl⟩ dX6_isWithin_15

theorem mX6_isShelf : zMd yX6_isShelf cX6_isShelf 1 (some .boolean) 1 := ⟨by decide +kernel, gt_of 278 (by decide +kernel) rfl, gt_of 44 (by decide +kernel) rfl, by decide⟩
theorem dX6_isShelf_0 : decode cX6_isShelf 0 = .ok (.iload_n 0, 1) := by decide +kernel
theorem dX6_isShelf_1 : decode cX6_isShelf 1 = .ok (.ifCond .lt 13, 3) := by decide +kernel
theorem dX6_isShelf_14 : decode cX6_isShelf 14 = .ok (.iconst 0, 1) := by decide +kernel
theorem dX6_isShelf_15 : decode cX6_isShelf 15 = .ok (.ireturn, 1) := by decide +kernel
theorem dX6_isShelf_4 : decode cX6_isShelf 4 = .ok (.iload_n 0, 1) := by decide +kernel
theorem dX6_isShelf_5 : decode cX6_isShelf 5 = .ok (.bipush 8, 2) := by decide +kernel
theorem dX6_isShelf_7 : decode cX6_isShelf 7 = .ok (.if_icmp .ge 7, 3) := by decide +kernel
theorem dX6_isShelf_10 : decode cX6_isShelf 10 = .ok (.iconst 1, 1) := by decide +kernel
theorem dX6_isShelf_11 : decode cX6_isShelf 11 = .ok (.goto 4, 3) := by decide +kernel
set_option maxRecDepth 100000 in
theorem c_X6_isShelf (l : Launch) (D : va_G) (cy : Nat → Nat) (n : Nat) (ad : Nat → Nat) (F : Nat → va_E) (sz : Nat) (d : Int32) : Met l yX6_isShelf (zw yX6_isShelf cX6_isShelf 1 (some .boolean)) (rmL 0) (zPc D cy n ad F sz [.int d]) (va_Qi (fun r F1 => r = (if bSh d then 1 else 0) ∧ F = F1) (zB D n ad) (zA n ad sz)) 0 0 (zA n ad sz) := by
  refine zmet (by decide +kernel) (Nat.le_of_ble_eq_true rfl) (fun p e s m args below meth c ls hC hsz hZ hA hr hlocks hnm hl => ?_)
  have hC : zC p m c cX6_isShelf 1 s args RX6 D cy := hC
  have hx := hC.1.1
  have hb := hC.1.2.1
  have hl : lv_has ls 1 [(0, .int d)] := hl
  refine lv_iload_n hx hb dX6_isShelf_0 rfl (lv_at hl 0 rfl) ?_
  refine lv_if_lt (tgt := 14) hx hb dX6_isShelf_1 (by decide) (fun c_1 => ?_) (fun c_1 => ?_)
  · refine lv_iconst (v := 0) hx hb dX6_isShelf_14 (by decide) ?_
    have hq_1 : (0 : Int32) = if bSh d then 1 else 0 := by simp [c_1, Int32.not_le.mpr c_1]
    exact zbreti hC hZ hr hlocks rfl ⟨hq_1, rfl⟩ dX6_isShelf_15
  · refine lv_iload_n hx hb dX6_isShelf_4 rfl (lv_at hl 0 rfl) ?_
    refine lv_bipush (v := 8) hx hb dX6_isShelf_5 (by decide) ?_
    refine lv_icmp_ge (tgt := 14) hx hb dX6_isShelf_7 (by decide) (fun c_7 => ?_) (fun c_7 => ?_)
    · refine lv_iconst (v := 0) hx hb dX6_isShelf_14 (by decide) ?_
      have hq_2 : (0 : Int32) = if bSh d then 1 else 0 := by simp [c_1, Int32.not_lt.mp c_1, c_7, Int32.not_lt.mpr c_7]
      exact zbreti hC hZ hr hlocks rfl ⟨hq_2, rfl⟩ dX6_isShelf_15
    · refine lv_iconst (v := 1) hx hb dX6_isShelf_10 (by decide) ?_
      refine lv_goto (tgt := 15) hx hb dX6_isShelf_11 (by decide) ?_
      have hq_3 : (1 : Int32) = if bSh d then 1 else 0 := by simp [c_1, Int32.not_lt.mp c_1, c_7, Int32.not_le.mp c_7]
      exact zbreti hC hZ hr hlocks rfl ⟨hq_3, rfl⟩ dX6_isShelf_15

theorem mX6_firstRefusal : zMd yX6_firstRefusal cX6_firstRefusal 2 (some .int) 2 := ⟨by decide +kernel, gt_of 462 (by decide +kernel) rfl, gt_of 44 (by decide +kernel) rfl, by decide⟩
theorem dX6_firstRefusal_0 : decode cX6_firstRefusal 0 = .ok (.iload_n 0, 1) := by decide +kernel
theorem dX6_firstRefusal_1 : decode cX6_firstRefusal 1 = .ok (.ifCond .eq 7, 3) := by decide +kernel
theorem dX6_firstRefusal_8 : decode cX6_firstRefusal 8 = .ok (.iload_n 0, 1) := by decide +kernel
theorem dX6_firstRefusal_9 : decode cX6_firstRefusal 9 = .ok (.iload_n 1, 1) := by decide +kernel
theorem dX6_firstRefusal_10 : decode cX6_firstRefusal 10 = .ok (.iadd, 1) := by decide +kernel
theorem dX6_firstRefusal_11 : decode cX6_firstRefusal 11 = .ok (.ireturn, 1) := by decide +kernel
theorem dX6_firstRefusal_4 : decode cX6_firstRefusal 4 = .ok (.iload_n 1, 1) := by decide +kernel
theorem dX6_firstRefusal_5 : decode cX6_firstRefusal 5 = .ok (.ifCond .ne 7, 3) := by decide +kernel
theorem dX6_firstRefusal_12 : decode cX6_firstRefusal 12 = .ok (.iload_n 0, 1) := by decide +kernel
theorem dX6_firstRefusal_13 : decode cX6_firstRefusal 13 = .ok (.iload_n 1, 1) := by decide +kernel
theorem dX6_firstRefusal_14 : decode cX6_firstRefusal 14 = .ok (.invokestatic 75, 3) := by decide +kernel
theorem kX6_75 : zMath RX6 75 Lib.Math.max.name Lib.Math.max.code 2 (some .int) := ⟨gt_of 463 (by decide +kernel) rfl, gt_of 416 (by decide +kernel) rfl, gt_of 52 (by decide +kernel) rfl, gt_of 417 (by decide +kernel) rfl⟩
theorem dX6_firstRefusal_17 : decode cX6_firstRefusal 17 = .ok (.ireturn, 1) := by decide +kernel
set_option maxRecDepth 100000 in
theorem c_X6_firstRefusal (l : Launch) (D : va_G) (cy : Nat → Nat) (n : Nat) (ad : Nat → Nat) (F : Nat → va_E) (sz : Nat) (x y : Int32) : Met l yX6_firstRefusal (zw yX6_firstRefusal cX6_firstRefusal 2 (some .int)) (rmL 1) (zPc D cy n ad F sz [.int x, .int y]) (va_Qi (fun r F1 => r = sFirst x y ∧ F = F1) (zB D n ad) (zA n ad sz)) 0 0 (zA n ad sz) := by
  refine zmet (by decide +kernel) (Nat.le_of_ble_eq_true rfl) (fun p e s m args below meth c ls hC hsz hZ hA hr hlocks hnm hl => ?_)
  have hC : zC p m c cX6_firstRefusal 2 s args RX6 D cy := hC
  have hx := hC.1.1
  have hb := hC.1.2.1
  have hl : lv_has ls 2 [(0, .int x), (1, .int y)] := hl
  refine lv_iload_n hx hb dX6_firstRefusal_0 rfl (lv_at hl 0 rfl) ?_
  refine lv_if_eq (tgt := 8) hx hb dX6_firstRefusal_1 (by decide) (fun c_1 => ?_) (fun c_1 => ?_)
  · refine lv_iload_n hx hb dX6_firstRefusal_8 rfl (lv_at hl 0 rfl) ?_
    refine lv_iload_n hx hb dX6_firstRefusal_9 rfl (lv_at hl 1 rfl) ?_
    refine lv_iadd hx hb dX6_firstRefusal_10 ?_
    have hq_1 : (x + y) = sFirst x y := by first | rfl | simp [sFirst, sMax, c_1] | (simp only [sFirst, sMax]; simp [c_1])
    exact zireti hC hZ hr hlocks ⟨hq_1, rfl⟩ dX6_firstRefusal_11
  · refine lv_iload_n hx hb dX6_firstRefusal_4 rfl (lv_at hl 1 rfl) ?_
    refine lv_if_ne (tgt := 12) hx hb dX6_firstRefusal_5 (by decide) (fun c_5 => ?_) (fun c_5 => ?_)
    · refine lv_iload_n hx hb dX6_firstRefusal_12 rfl (lv_at hl 0 rfl) ?_
      refine lv_iload_n hx hb dX6_firstRefusal_13 rfl (lv_at hl 1 rfl) ?_
      refine zmax hC kX6_75 hl.1 (zRj_of rfl) (Nat.le_of_ble_eq_true rfl) ⟨Nat.le_refl _, Nat.le_refl _⟩ dX6_firstRefusal_14 ?_
      have hq_2 : (if x < y then y else x) = sFirst x y := by first | rfl | simp [sFirst, sMax, c_1, c_5] | (simp only [sFirst, sMax]; simp [c_1, c_5])
      exact zireti hC hZ hr hlocks ⟨hq_2, rfl⟩ dX6_firstRefusal_17
    · refine lv_iload_n hx hb dX6_firstRefusal_8 rfl (lv_at hl 0 rfl) ?_
      refine lv_iload_n hx hb dX6_firstRefusal_9 rfl (lv_at hl 1 rfl) ?_
      refine lv_iadd hx hb dX6_firstRefusal_10 ?_
      have hq_3 : (x + y) = sFirst x y := by first | rfl | simp [sFirst, sMax, c_1, c_5] | (simp only [sFirst, sMax]; simp [c_1, c_5])
      exact zireti hC hZ hr hlocks ⟨hq_3, rfl⟩ dX6_firstRefusal_11

theorem mX6_putApart : zMd yX6_putApart cX6_putApart 1 (some .int) 1 := ⟨by decide +kernel, gt_of 518 (by decide +kernel) rfl, gt_of 44 (by decide +kernel) rfl, by decide⟩
theorem dX6_putApart_0 : decode cX6_putApart 0 = .ok (.ldc 81, 2) := by decide +kernel
theorem qX6_81 : Cond.constant RX6 81 (-1000000000) ∈ gtbl := gt_of 519 (by decide +kernel) rfl
theorem dX6_putApart_2 : decode cX6_putApart 2 = .ok (.iload_n 0, 1) := by decide +kernel
theorem dX6_putApart_3 : decode cX6_putApart 3 = .ok (.iadd, 1) := by decide +kernel
theorem dX6_putApart_4 : decode cX6_putApart 4 = .ok (.ireturn, 1) := by decide +kernel
set_option maxRecDepth 100000 in
theorem c_X6_putApart (l : Launch) (D : va_G) (cy : Nat → Nat) (n : Nat) (ad : Nat → Nat) (F : Nat → va_E) (sz : Nat) (x : Int32) : Met l yX6_putApart (zw yX6_putApart cX6_putApart 1 (some .int)) (rmL 0) (zPc D cy n ad F sz [.int x]) (va_Qi (fun r F1 => r = -1000000000 + x ∧ F = F1) (zB D n ad) (zA n ad sz)) 0 0 (zA n ad sz) := by
  refine zmet (by decide +kernel) (Nat.le_of_ble_eq_true rfl) (fun p e s m args below meth c ls hC hsz hZ hA hr hlocks hnm hl => ?_)
  have hC : zC p m c cX6_putApart 1 s args RX6 D cy := hC
  have hx := hC.1.1
  have hb := hC.1.2.1
  have hl : lv_has ls 1 [(0, .int x)] := hl
  refine lv_ldc (v := (-1000000000)) hx hb hC.1.2.2.2.1 (hC.1.2.2.2.2 _ qX6_81) dX6_putApart_0 ?_
  refine lv_iload_n hx hb dX6_putApart_2 rfl (lv_at hl 0 rfl) ?_
  refine lv_iadd hx hb dX6_putApart_3 ?_
  have hq_1 : ((-1000000000) + x) = -1000000000 + x := by rfl
  exact zireti hC hZ hr hlocks ⟨hq_1, rfl⟩ dX6_putApart_4

theorem mX3_isAsTold : zMd yX3_isAsTold cX3_isAsTold 1 (some .boolean) 0 := ⟨by decide +kernel, gt_of 341 (by decide +kernel) rfl, gt_of 46 (by decide +kernel) rfl, by decide⟩
theorem dX3_isAsTold_0 : decode cX3_isAsTold 0 = .ok (.aload_n 0, 1) := by decide +kernel
theorem dX3_isAsTold_1 : decode cX3_isAsTold 1 = .ok (.getfield 9, 3) := by decide +kernel
theorem dX3_isAsTold_4 : decode cX3_isAsTold 4 = .ok (.iconst 0, 1) := by decide +kernel
theorem dX3_isAsTold_5 : decode cX3_isAsTold 5 = .ok (.bipush 100, 2) := by decide +kernel
theorem dX3_isAsTold_7 : decode cX3_isAsTold 7 = .ok (.invokestatic 24, 3) := by decide +kernel
theorem kX3_24 : zLk RX3 24 yX6_isWithin := Or.inr ⟨"ChainLeap", List.mem_of_getElem? (i := 342) (by decide +kernel)⟩
theorem sX6_isWithin : Cond.static yX6_isWithin ∈ gtbl := gt_of 262 (by decide +kernel) rfl
theorem dX3_isAsTold_10 : decode cX3_isAsTold 10 = .ok (.ifCond .eq 46, 3) := by decide +kernel
theorem dX3_isAsTold_13 : decode cX3_isAsTold 13 = .ok (.aload_n 0, 1) := by decide +kernel
theorem dX3_isAsTold_14 : decode cX3_isAsTold 14 = .ok (.getfield 15, 3) := by decide +kernel
theorem dX3_isAsTold_17 : decode cX3_isAsTold 17 = .ok (.iconst 0, 1) := by decide +kernel
theorem dX3_isAsTold_18 : decode cX3_isAsTold 18 = .ok (.bipush 100, 2) := by decide +kernel
theorem dX3_isAsTold_20 : decode cX3_isAsTold 20 = .ok (.invokestatic 24, 3) := by decide +kernel
theorem dX3_isAsTold_23 : decode cX3_isAsTold 23 = .ok (.ifCond .eq 33, 3) := by decide +kernel
theorem dX3_isAsTold_26 : decode cX3_isAsTold 26 = .ok (.aload_n 0, 1) := by decide +kernel
theorem dX3_isAsTold_27 : decode cX3_isAsTold 27 = .ok (.getfield 18, 3) := by decide +kernel
theorem dX3_isAsTold_30 : decode cX3_isAsTold 30 = .ok (.iconst 0, 1) := by decide +kernel
theorem dX3_isAsTold_31 : decode cX3_isAsTold 31 = .ok (.iconst 2, 1) := by decide +kernel
theorem dX3_isAsTold_32 : decode cX3_isAsTold 32 = .ok (.invokestatic 24, 3) := by decide +kernel
theorem dX3_isAsTold_35 : decode cX3_isAsTold 35 = .ok (.ifCond .eq 21, 3) := by decide +kernel
theorem dX3_isAsTold_38 : decode cX3_isAsTold 38 = .ok (.aload_n 0, 1) := by decide +kernel
theorem dX3_isAsTold_39 : decode cX3_isAsTold 39 = .ok (.getfield 21, 3) := by decide +kernel
theorem dX3_isAsTold_42 : decode cX3_isAsTold 42 = .ok (.iconst 1, 1) := by decide +kernel
theorem dX3_isAsTold_43 : decode cX3_isAsTold 43 = .ok (.sipush 400, 3) := by decide +kernel
theorem dX3_isAsTold_46 : decode cX3_isAsTold 46 = .ok (.invokestatic 24, 3) := by decide +kernel
theorem dX3_isAsTold_49 : decode cX3_isAsTold 49 = .ok (.ifCond .eq 7, 3) := by decide +kernel
theorem dX3_isAsTold_52 : decode cX3_isAsTold 52 = .ok (.iconst 1, 1) := by decide +kernel
theorem dX3_isAsTold_53 : decode cX3_isAsTold 53 = .ok (.goto 4, 3) := by decide +kernel
theorem dX3_isAsTold_57 : decode cX3_isAsTold 57 = .ok (.ireturn, 1) := by decide +kernel
theorem dX3_isAsTold_56 : decode cX3_isAsTold 56 = .ok (.iconst 0, 1) := by decide +kernel
set_option maxRecDepth 100000 in
theorem c_X3_isAsTold (l : Launch) (D : va_G) (cy : Nat → Nat) (n : Nat) (ad : Nat → Nat) (F : Nat → va_E) (sz : Nat) (j : Nat) (b : Stg) (hj : j < n) (hFj : F j = oSetting b) : Met l yX3_isAsTold (zw yX3_isAsTold cX3_isAsTold 1 (some .boolean)) (rmL 1) (zPc D cy n ad F sz [.ref (ad j)]) (va_Qi (fun r F1 => r = (if bTold b then 1 else 0) ∧ F = F1) (zB D n ad) (zA n ad sz)) 0 0 (zA n ad sz) := by
  refine zmet (by decide +kernel) (Nat.le_of_ble_eq_true rfl) (fun p e s m args below meth c ls hC hsz hZ hA hr hlocks hnm hl => ?_)
  have hC : zC p m c cX3_isAsTold 1 s args RX3 D cy := hC
  have hx := hC.1.1
  have hb := hC.1.2.1
  have hl : lv_has ls 1 [(0, .ref (ad j))] := hl
  refine lv_aload_n hx hb dX3_isAsTold_0 rfl (lv_at hl 0 rfl) ?_
  refine zget hC hZ fX3_9 hj hFj rfl dX3_isAsTold_1 ?_
  refine lv_iconst (v := 0) hx hb dX3_isAsTold_4 (by decide) ?_
  refine lv_bipush (v := 100) hx hb dX3_isAsTold_5 (by decide) ?_
  refine zgoi hZ hA (zrunS (As := [.int b.1, .int 0, .int 100]) (rest := []) hC hZ (c_X6_isWithin l D cy n ad F s.heap.size b.1 0 100) mX6_isWithin sX6_isWithin kX3_24 (zRj_of rfl) rfl hl.1 rfl (Nat.le_of_ble_eq_true rfl) dX3_isAsTold_7 ⟨Nat.le_refl _, Nat.le_refl _⟩) (fun r_2 F_1 hp_3 H locs hZ => ?_)
  obtain ⟨hp_3, rfl⟩ := hp_3
  by_cases b_4 : bIn b.1 0 100
  · rw [if_pos b_4] at hp_3
    subst hp_3
    refine lv_if_eq (tgt := 56) hx hb dX3_isAsTold_10 (by decide) (fun h => absurd h (by decide)) (fun _ => ?_)
    refine lv_aload_n hx hb dX3_isAsTold_13 rfl (lv_at hl 0 rfl) ?_
    refine zget hC hZ fX3_15 hj hFj rfl dX3_isAsTold_14 ?_
    refine lv_iconst (v := 0) hx hb dX3_isAsTold_17 (by decide) ?_
    refine lv_bipush (v := 100) hx hb dX3_isAsTold_18 (by decide) ?_
    refine zgoi hZ hA (zrunS (As := [.int b.2.1, .int 0, .int 100]) (rest := []) hC hZ (c_X6_isWithin l D cy n ad F H.size b.2.1 0 100) mX6_isWithin sX6_isWithin kX3_24 (zRj_of rfl) rfl hl.1 rfl (Nat.le_of_ble_eq_true rfl) dX3_isAsTold_20 ⟨Nat.le_refl _, Nat.le_refl _⟩) (fun r_6 F_5 hp_7 H locs hZ => ?_)
    obtain ⟨hp_7, rfl⟩ := hp_7
    by_cases b_8 : bIn b.2.1 0 100
    · rw [if_pos b_8] at hp_7
      subst hp_7
      refine lv_if_eq (tgt := 56) hx hb dX3_isAsTold_23 (by decide) (fun h => absurd h (by decide)) (fun _ => ?_)
      refine lv_aload_n hx hb dX3_isAsTold_26 rfl (lv_at hl 0 rfl) ?_
      refine zget hC hZ fX3_18 hj hFj rfl dX3_isAsTold_27 ?_
      refine lv_iconst (v := 0) hx hb dX3_isAsTold_30 (by decide) ?_
      refine lv_iconst (v := 2) hx hb dX3_isAsTold_31 (by decide) ?_
      refine zgoi hZ hA (zrunS (As := [.int b.2.2.1, .int 0, .int 2]) (rest := []) hC hZ (c_X6_isWithin l D cy n ad F H.size b.2.2.1 0 2) mX6_isWithin sX6_isWithin kX3_24 (zRj_of rfl) rfl hl.1 rfl (Nat.le_of_ble_eq_true rfl) dX3_isAsTold_32 ⟨Nat.le_refl _, Nat.le_refl _⟩) (fun r_10 F_9 hp_11 H locs hZ => ?_)
      obtain ⟨hp_11, rfl⟩ := hp_11
      by_cases b_12 : bIn b.2.2.1 0 2
      · rw [if_pos b_12] at hp_11
        subst hp_11
        refine lv_if_eq (tgt := 56) hx hb dX3_isAsTold_35 (by decide) (fun h => absurd h (by decide)) (fun _ => ?_)
        refine lv_aload_n hx hb dX3_isAsTold_38 rfl (lv_at hl 0 rfl) ?_
        refine zget hC hZ fX3_21 hj hFj rfl dX3_isAsTold_39 ?_
        refine lv_iconst (v := 1) hx hb dX3_isAsTold_42 (by decide) ?_
        refine lv_sipush (v := 400) hx hb dX3_isAsTold_43 (by decide) ?_
        refine zgoi hZ hA (zrunS (As := [.int b.2.2.2, .int 1, .int 400]) (rest := []) hC hZ (c_X6_isWithin l D cy n ad F H.size b.2.2.2 1 400) mX6_isWithin sX6_isWithin kX3_24 (zRj_of rfl) rfl hl.1 rfl (Nat.le_of_ble_eq_true rfl) dX3_isAsTold_46 ⟨Nat.le_refl _, Nat.le_refl _⟩) (fun r_14 F_13 hp_15 H locs hZ => ?_)
        obtain ⟨hp_15, rfl⟩ := hp_15
        by_cases b_16 : bIn b.2.2.2 1 400
        · rw [if_pos b_16] at hp_15
          subst hp_15
          refine lv_if_eq (tgt := 56) hx hb dX3_isAsTold_49 (by decide) (fun h => absurd h (by decide)) (fun _ => ?_)
          refine lv_iconst (v := 1) hx hb dX3_isAsTold_52 (by decide) ?_
          refine lv_goto (tgt := 57) hx hb dX3_isAsTold_53 (by decide) ?_
          have hq_17 : (1 : Int32) = if bTold b then 1 else 0 := by simp [b_4, b_8, b_12, b_16]
          exact zbreti hC hZ hr hlocks rfl ⟨hq_17, rfl⟩ dX3_isAsTold_57
        · rw [if_neg b_16] at hp_15
          subst hp_15
          refine lv_if_eq (tgt := 56) hx hb dX3_isAsTold_49 (by decide) (fun _ => ?_) (fun h => absurd (by decide) h)
          refine lv_iconst (v := 0) hx hb dX3_isAsTold_56 (by decide) ?_
          have hq_18 : (0 : Int32) = if bTold b then 1 else 0 := by simp [b_4, b_8, b_12, b_16]
          exact zbreti hC hZ hr hlocks rfl ⟨hq_18, rfl⟩ dX3_isAsTold_57
      · rw [if_neg b_12] at hp_11
        subst hp_11
        refine lv_if_eq (tgt := 56) hx hb dX3_isAsTold_35 (by decide) (fun _ => ?_) (fun h => absurd (by decide) h)
        refine lv_iconst (v := 0) hx hb dX3_isAsTold_56 (by decide) ?_
        have hq_19 : (0 : Int32) = if bTold b then 1 else 0 := by simp [b_4, b_8, b_12]
        exact zbreti hC hZ hr hlocks rfl ⟨hq_19, rfl⟩ dX3_isAsTold_57
    · rw [if_neg b_8] at hp_7
      subst hp_7
      refine lv_if_eq (tgt := 56) hx hb dX3_isAsTold_23 (by decide) (fun _ => ?_) (fun h => absurd (by decide) h)
      refine lv_iconst (v := 0) hx hb dX3_isAsTold_56 (by decide) ?_
      have hq_20 : (0 : Int32) = if bTold b then 1 else 0 := by simp [b_4, b_8]
      exact zbreti hC hZ hr hlocks rfl ⟨hq_20, rfl⟩ dX3_isAsTold_57
  · rw [if_neg b_4] at hp_3
    subst hp_3
    refine lv_if_eq (tgt := 56) hx hb dX3_isAsTold_10 (by decide) (fun _ => ?_) (fun h => absurd (by decide) h)
    refine lv_iconst (v := 0) hx hb dX3_isAsTold_56 (by decide) ?_
    have hq_21 : (0 : Int32) = if bTold b then 1 else 0 := by simp [b_4]
    exact zbreti hC hZ hr hlocks rfl ⟨hq_21, rfl⟩ dX3_isAsTold_57

theorem mX2_hasTry : zMd yX2_hasTry cX2_hasTry 2 (some .boolean) 1 := ⟨by decide +kernel, gt_of 358 (by decide +kernel) rfl, gt_of 45 (by decide +kernel) rfl, by decide⟩
theorem dX2_hasTry_0 : decode cX2_hasTry 0 = .ok (.iload_n 1, 1) := by decide +kernel
theorem dX2_hasTry_1 : decode cX2_hasTry 1 = .ok (.ifCond .lt 21, 3) := by decide +kernel
theorem dX2_hasTry_22 : decode cX2_hasTry 22 = .ok (.iconst 0, 1) := by decide +kernel
theorem dX2_hasTry_23 : decode cX2_hasTry 23 = .ok (.ireturn, 1) := by decide +kernel
theorem dX2_hasTry_4 : decode cX2_hasTry 4 = .ok (.iload_n 1, 1) := by decide +kernel
theorem dX2_hasTry_5 : decode cX2_hasTry 5 = .ok (.aload_n 0, 1) := by decide +kernel
theorem dX2_hasTry_6 : decode cX2_hasTry 6 = .ok (.getfield 26, 3) := by decide +kernel
theorem fX2_26 : zFld RX2 26 2 3 := ⟨RX2, TX2, 5, rfl, inX2, by decide, rfl, Or.inl (gt_of 141 (by decide +kernel) rfl)⟩
theorem dX2_hasTry_9 : decode cX2_hasTry 9 = .ok (.if_icmp .ge 13, 3) := by decide +kernel
theorem dX2_hasTry_12 : decode cX2_hasTry 12 = .ok (.iload_n 1, 1) := by decide +kernel
theorem dX2_hasTry_13 : decode cX2_hasTry 13 = .ok (.bipush 8, 2) := by decide +kernel
theorem dX2_hasTry_15 : decode cX2_hasTry 15 = .ok (.if_icmp .ge 7, 3) := by decide +kernel
theorem dX2_hasTry_18 : decode cX2_hasTry 18 = .ok (.iconst 1, 1) := by decide +kernel
theorem dX2_hasTry_19 : decode cX2_hasTry 19 = .ok (.goto 4, 3) := by decide +kernel
set_option maxRecDepth 100000 in
theorem c_X2_hasTry (l : Launch) (D : va_G) (cy : Nat → Nat) (n : Nat) (ad : Nat → Nat) (F : Nat → va_E) (sz : Nat) (k : Nat) (sc : Scn) (hk : k + 12 ≤ n) (hR : RS ad cy k F sc) (i : Int32) : Met l yX2_hasTry (zw yX2_hasTry cX2_hasTry 2 (some .boolean)) (rmL 0) (zPc D cy n ad F sz [.ref (ad k), .int i]) (va_Qi (fun r F1 => r = (if bTry sc.2.2.2.1 i then 1 else 0) ∧ F = F1) (zB D n ad) (zA n ad sz)) 0 0 (zA n ad sz) := by
  refine zmet (by decide +kernel) (Nat.le_of_ble_eq_true rfl) (fun p e s m args below meth c ls hC hsz hZ hA hr hlocks hnm hl => ?_)
  have hC : zC p m c cX2_hasTry 2 s args RX2 D cy := hC
  have hx := hC.1.1
  have hb := hC.1.2.1
  have hl : lv_has ls 2 [(0, .ref (ad k)), (1, .int i)] := hl
  refine lv_iload_n hx hb dX2_hasTry_0 rfl (lv_at hl 1 rfl) ?_
  refine lv_if_lt (tgt := 22) hx hb dX2_hasTry_1 (by decide) (fun c_1 => ?_) (fun c_1 => ?_)
  · refine lv_iconst (v := 0) hx hb dX2_hasTry_22 (by decide) ?_
    have hq_1 : (0 : Int32) = if bTry sc.2.2.2.1 i then 1 else 0 := by simp [c_1, Int32.not_le.mpr c_1]
    exact zbreti hC hZ hr hlocks rfl ⟨hq_1, rfl⟩ dX2_hasTry_23
  · refine lv_iload_n hx hb dX2_hasTry_4 rfl (lv_at hl 1 rfl) ?_
    refine lv_aload_n hx hb dX2_hasTry_5 rfl (lv_at hl 0 rfl) ?_
    refine zget hC hZ fX2_26 (by omega) hR.1 rfl dX2_hasTry_6 ?_
    refine lv_icmp_ge (tgt := 22) hx hb dX2_hasTry_9 (by decide) (fun c_9 => ?_) (fun c_9 => ?_)
    · refine lv_iconst (v := 0) hx hb dX2_hasTry_22 (by decide) ?_
      have hq_2 : (0 : Int32) = if bTry sc.2.2.2.1 i then 1 else 0 := by simp [c_1, Int32.not_lt.mp c_1, c_9, Int32.not_lt.mpr c_9]
      exact zbreti hC hZ hr hlocks rfl ⟨hq_2, rfl⟩ dX2_hasTry_23
    · refine lv_iload_n hx hb dX2_hasTry_12 rfl (lv_at hl 1 rfl) ?_
      refine lv_bipush (v := 8) hx hb dX2_hasTry_13 (by decide) ?_
      refine lv_icmp_ge (tgt := 22) hx hb dX2_hasTry_15 (by decide) (fun c_15 => ?_) (fun c_15 => ?_)
      · refine lv_iconst (v := 0) hx hb dX2_hasTry_22 (by decide) ?_
        have hq_3 : (0 : Int32) = if bTry sc.2.2.2.1 i then 1 else 0 := by simp [c_1, Int32.not_lt.mp c_1, c_9, Int32.not_le.mp c_9, c_15, Int32.not_lt.mpr c_15]
        exact zbreti hC hZ hr hlocks rfl ⟨hq_3, rfl⟩ dX2_hasTry_23
      · refine lv_iconst (v := 1) hx hb dX2_hasTry_18 (by decide) ?_
        refine lv_goto (tgt := 23) hx hb dX2_hasTry_19 (by decide) ?_
        have hq_4 : (1 : Int32) = if bTry sc.2.2.2.1 i then 1 else 0 := by simp [c_1, Int32.not_lt.mp c_1, c_9, Int32.not_le.mp c_9, c_15, Int32.not_le.mp c_15]
        exact zbreti hC hZ hr hlocks rfl ⟨hq_4, rfl⟩ dX2_hasTry_23

theorem mX2_isDone : zMd yX2_isDone cX2_isDone 1 (some .boolean) 0 := ⟨by decide +kernel, gt_of 434 (by decide +kernel) rfl, gt_of 45 (by decide +kernel) rfl, by decide⟩
theorem dX2_isDone_0 : decode cX2_isDone 0 = .ok (.aload_n 0, 1) := by decide +kernel
theorem dX2_isDone_1 : decode cX2_isDone 1 = .ok (.getfield 32, 3) := by decide +kernel
theorem fX2_32 : zFld RX2 32 2 4 := ⟨RX2, TX2, 5, rfl, inX2, by decide, rfl, Or.inl (gt_of 143 (by decide +kernel) rfl)⟩
theorem dX2_isDone_4 : decode cX2_isDone 4 = .ok (.getfield 43, 3) := by decide +kernel
theorem fX2_43 : zFld RX2 43 0 3 := ⟨RX0, TX0, 5, rfl, inX0, by decide, rfl, Or.inr ⟨"ChainLeap", List.mem_of_getElem? (i := 120) (by decide +kernel)⟩⟩
theorem dX2_isDone_7 : decode cX2_isDone 7 = .ok (.aload_n 0, 1) := by decide +kernel
theorem dX2_isDone_8 : decode cX2_isDone 8 = .ok (.getfield 18, 3) := by decide +kernel
theorem fX2_18 : zFld RX2 18 2 1 := ⟨RX2, TX2, 5, rfl, inX2, by decide, rfl, Or.inl (gt_of 137 (by decide +kernel) rfl)⟩
theorem dX2_isDone_11 : decode cX2_isDone 11 = .ok (.if_icmp .lt 7, 3) := by decide +kernel
theorem dX2_isDone_18 : decode cX2_isDone 18 = .ok (.iconst 0, 1) := by decide +kernel
theorem dX2_isDone_19 : decode cX2_isDone 19 = .ok (.ireturn, 1) := by decide +kernel
theorem dX2_isDone_14 : decode cX2_isDone 14 = .ok (.iconst 1, 1) := by decide +kernel
theorem dX2_isDone_15 : decode cX2_isDone 15 = .ok (.goto 4, 3) := by decide +kernel
set_option maxRecDepth 100000 in
theorem c_X2_isDone (l : Launch) (D : va_G) (cy : Nat → Nat) (n : Nat) (ad : Nat → Nat) (F : Nat → va_E) (sz : Nat) (k : Nat) (sc : Scn) (hk : k + 12 ≤ n) (hR : RS ad cy k F sc) : Met l yX2_isDone (zw yX2_isDone cX2_isDone 1 (some .boolean)) (rmL 0) (zPc D cy n ad F sz [.ref (ad k)]) (va_Qi (fun r F1 => r = (if sc.2.1 ≤ sc.2.2.2.2.2.2.2.1 then 1 else 0) ∧ F = F1) (zB D n ad) (zA n ad sz)) 0 0 (zA n ad sz) := by
  refine zmet (by decide +kernel) (Nat.le_of_ble_eq_true rfl) (fun p e s m args below meth c ls hC hsz hZ hA hr hlocks hnm hl => ?_)
  have hC : zC p m c cX2_isDone 1 s args RX2 D cy := hC
  have hx := hC.1.1
  have hb := hC.1.2.1
  have hl : lv_has ls 1 [(0, .ref (ad k))] := hl
  refine lv_aload_n hx hb dX2_isDone_0 rfl (lv_at hl 0 rfl) ?_
  refine zget hC hZ fX2_32 (by omega) hR.1 rfl dX2_isDone_1 ?_
  refine zget hC hZ fX2_43 (by omega) hR.2.2.2.1 rfl dX2_isDone_4 ?_
  refine lv_aload_n hx hb dX2_isDone_7 rfl (lv_at hl 0 rfl) ?_
  refine zget hC hZ fX2_18 (by omega) hR.1 rfl dX2_isDone_8 ?_
  refine lv_icmp_lt (tgt := 18) hx hb dX2_isDone_11 (by decide) (fun c_11 => ?_) (fun c_11 => ?_)
  · refine lv_iconst (v := 0) hx hb dX2_isDone_18 (by decide) ?_
    have hq_1 : (0 : Int32) = if sc.2.1 ≤ sc.2.2.2.2.2.2.2.1 then 1 else 0 := by simp [c_11, Int32.not_le.mpr c_11]
    exact zbreti hC hZ hr hlocks rfl ⟨hq_1, rfl⟩ dX2_isDone_19
  · refine lv_iconst (v := 1) hx hb dX2_isDone_14 (by decide) ?_
    refine lv_goto (tgt := 19) hx hb dX2_isDone_15 (by decide) ?_
    have hq_2 : (1 : Int32) = if sc.2.1 ≤ sc.2.2.2.2.2.2.2.1 then 1 else 0 := by simp [c_11, Int32.not_lt.mp c_11]
    exact zbreti hC hZ hr hlocks rfl ⟨hq_2, rfl⟩ dX2_isDone_19

theorem mX2_step : zMd yX2_step cX2_step 3 none 2 := ⟨by decide +kernel, gt_of 402 (by decide +kernel) rfl, gt_of 45 (by decide +kernel) rfl, by decide⟩
theorem dX2_step_0 : decode cX2_step 0 = .ok (.aload_n 1, 1) := by decide +kernel
theorem dX2_step_1 : decode cX2_step 1 = .ok (.aload_n 2, 1) := by decide +kernel
theorem dX2_step_2 : decode cX2_step 2 = .ok (.aload_n 0, 1) := by decide +kernel
theorem dX2_step_3 : decode cX2_step 3 = .ok (.getfield 12, 3) := by decide +kernel
theorem fX2_12 : zFld RX2 12 2 0 := ⟨RX2, TX2, 5, rfl, inX2, by decide, rfl, Or.inl (gt_of 135 (by decide +kernel) rfl)⟩
theorem dX2_step_6 : decode cX2_step 6 = .ok (.invokevirtual 46, 3) := by decide +kernel
theorem kX2_46 : zLk RX2 46 yX5_kick := Or.inl (gt_of 403 (by decide +kernel) rfl)
theorem dX2_step_9 : decode cX2_step 9 = .ok (.aload_n 2, 1) := by decide +kernel
theorem dX2_step_10 : decode cX2_step 10 = .ok (.aload_n 0, 1) := by decide +kernel
theorem dX2_step_11 : decode cX2_step 11 = .ok (.getfield 12, 3) := by decide +kernel
theorem dX2_step_14 : decode cX2_step 14 = .ok (.invokevirtual 52, 3) := by decide +kernel
theorem kX2_52 : zLk RX2 52 yX5_less := Or.inl (gt_of 404 (by decide +kernel) rfl)
theorem dX2_step_17 : decode cX2_step 17 = .ok (.aload_n 0, 1) := by decide +kernel
theorem dX2_step_18 : decode cX2_step 18 = .ok (.getfield 12, 3) := by decide +kernel
theorem dX2_step_21 : decode cX2_step 21 = .ok (.getfield 55, 3) := by decide +kernel
theorem fX2_55 : zFld RX2 55 3 3 := ⟨RX3, TX3, 4, rfl, inX3, by decide, rfl, Or.inr ⟨"ChainLeap", List.mem_of_getElem? (i := 94) (by decide +kernel)⟩⟩
theorem dX2_step_24 : decode cX2_step 24 = .ok (.aload_n 0, 1) := by decide +kernel
theorem dX2_step_25 : decode cX2_step 25 = .ok (.getfield 18, 3) := by decide +kernel
theorem dX2_step_28 : decode cX2_step 28 = .ok (.invokevirtual 58, 3) := by decide +kernel
theorem kX2_58 : zLk RX2 58 yX0_step := Or.inl (gt_of 411 (by decide +kernel) rfl)
theorem vX0_step : zMi yX0_step := ⟨gt_of 412 (by decide +kernel) rfl, gt_of 413 (by decide +kernel) rfl⟩
theorem dX2_step_31 : decode cX2_step 31 = .ok (.return_, 1) := by decide +kernel
set_option maxRecDepth 100000 in
theorem c_X2_step (l : Launch) (D : va_G) (cy : Nat → Nat) (n : Nat) (ad : Nat → Nat) (F : Nat → va_E) (sz : Nat) (k : Nat) (sc : Scn) (hk : k + 12 ≤ n) (hR : RS ad cy k F sc) (j : Nat) (c0 : Crs) (hj : j < n) (hFj : F j = oCourse c0) (q : Nat) (t : Tal) (hq : q < n) (hFq : F q = oTale t) : Met l yX2_step (zw yX2_step cX2_step 3 none) (rmL 3) (zPc D cy n ad F sz [.ref (ad k), .ref (ad j), .ref (ad q)]) (va_Qv (fun F1 => F1 = va_up F j (oCourse (sStep (sKick t sc.1) (sLess t sc.1) sc.1.2.2.2 sc.2.1 c0))) (zB D n ad) (zA n ad sz)) 0 0 (zA n ad sz) := by
  refine zmet (by decide +kernel) (Nat.le_of_ble_eq_true rfl) (fun p e s m args below meth c ls hC hsz hZ hA hr hlocks hnm hl => ?_)
  have hC : zC p m c cX2_step 3 s args RX2 D cy := hC
  have hx := hC.1.1
  have hb := hC.1.2.1
  have hl : lv_has ls 3 [(0, .ref (ad k)), (1, .ref (ad j)), (2, .ref (ad q))] := hl
  refine lv_aload_n hx hb dX2_step_0 rfl (lv_at hl 1 rfl) ?_
  refine lv_aload_n hx hb dX2_step_1 rfl (lv_at hl 2 rfl) ?_
  refine lv_aload_n hx hb dX2_step_2 rfl (lv_at hl 0 rfl) ?_
  refine zget hC hZ fX2_12 (by omega) hR.1 rfl dX2_step_3 ?_
  refine zgoi hZ hA (zrunV (As := [.ref (ad (k + 1))]) (rest := [.ref (ad j)]) (k := q) hC hZ (c_X5_kick l D cy n ad F s.heap.size q t hq hFq (k + 1) sc.1 (by omega) hR.2.1) mX5_kick vX5_kick kX2_46 (zRj_of rfl) hq hFq rfl rfl hl.1 rfl (Nat.le_of_ble_eq_true rfl) dX2_step_6 ⟨Nat.le_refl _, Nat.le_refl _⟩) (fun r_2 F_1 hp_3 H locs hZ => ?_)
  obtain ⟨rfl, rfl⟩ := hp_3
  refine lv_aload_n hx hb dX2_step_9 rfl (lv_at hl 2 rfl) ?_
  refine lv_aload_n hx hb dX2_step_10 rfl (lv_at hl 0 rfl) ?_
  refine zget hC hZ fX2_12 (by omega) hR.1 rfl dX2_step_11 ?_
  refine zgoi hZ hA (zrunV (As := [.ref (ad (k + 1))]) (rest := [.int (sKick t sc.1), .ref (ad j)]) (k := q) hC hZ (c_X5_less l D cy n ad F H.size q t hq hFq (k + 1) sc.1 (by omega) hR.2.1) mX5_less vX5_less kX2_52 (zRj_of rfl) hq hFq rfl rfl hl.1 rfl (Nat.le_of_ble_eq_true rfl) dX2_step_14 ⟨Nat.le_refl _, Nat.le_refl _⟩) (fun r_5 F_4 hp_6 H locs hZ => ?_)
  obtain ⟨rfl, rfl⟩ := hp_6
  refine lv_aload_n hx hb dX2_step_17 rfl (lv_at hl 0 rfl) ?_
  refine zget hC hZ fX2_12 (by omega) hR.1 rfl dX2_step_18 ?_
  refine zget hC hZ fX2_55 (by omega) hR.2.1 rfl dX2_step_21 ?_
  refine lv_aload_n hx hb dX2_step_24 rfl (lv_at hl 0 rfl) ?_
  refine zget hC hZ fX2_18 (by omega) hR.1 rfl dX2_step_25 ?_
  refine zgov hZ hA (zrunV (As := [.int (sKick t sc.1), .int (sLess t sc.1), .int sc.1.2.2.2, .int sc.2.1]) (rest := []) (k := j) hC hZ (c_X0_step l D cy n ad F H.size j c0 hj hFj (sKick t sc.1) (sLess t sc.1) sc.1.2.2.2 sc.2.1) mX0_step vX0_step kX2_58 (zRj_of rfl) hj hFj rfl rfl hl.1 rfl (Nat.le_of_ble_eq_true rfl) dX2_step_28 ⟨Nat.le_refl _, Nat.le_refl _⟩) (fun F_7 hp_9 H locs hZ => ?_)
  have h_10 := zeq hp_9
  exact zvret hC hZ hr hlocks hp_9 dX2_step_31

theorem mX2_admits : zMd yX2_admits cX2_admits 4 (some .boolean) 2 := ⟨by decide +kernel, gt_of 337 (by decide +kernel) rfl, gt_of 45 (by decide +kernel) rfl, by decide⟩
theorem dX2_admits_0 : decode cX2_admits 0 = .ok (.aload_n 0, 1) := by decide +kernel
theorem dX2_admits_1 : decode cX2_admits 1 = .ok (.getfield 26, 3) := by decide +kernel
theorem dX2_admits_4 : decode cX2_admits 4 = .ok (.iload_n 2, 1) := by decide +kernel
theorem dX2_admits_5 : decode cX2_admits 5 = .ok (.iadd, 1) := by decide +kernel
theorem dX2_admits_6 : decode cX2_admits 6 = .ok (.istore_n 3, 1) := by decide +kernel
theorem dX2_admits_7 : decode cX2_admits 7 = .ok (.aload_n 1, 1) := by decide +kernel
theorem dX2_admits_8 : decode cX2_admits 8 = .ok (.invokevirtual 62, 3) := by decide +kernel
theorem kX2_62 : zLk RX2 62 yX3_isAsTold := Or.inl (gt_of 338 (by decide +kernel) rfl)
theorem vX3_isAsTold : zMi yX3_isAsTold := ⟨gt_of 339 (by decide +kernel) rfl, gt_of 340 (by decide +kernel) rfl⟩
theorem dX2_admits_11 : decode cX2_admits 11 = .ok (.ifCond .eq 13, 3) := by decide +kernel
theorem dX2_admits_14 : decode cX2_admits 14 = .ok (.iload_n 3, 1) := by decide +kernel
theorem dX2_admits_15 : decode cX2_admits 15 = .ok (.ifCond .lt 9, 3) := by decide +kernel
theorem dX2_admits_24 : decode cX2_admits 24 = .ok (.iconst 0, 1) := by decide +kernel
theorem dX2_admits_25 : decode cX2_admits 25 = .ok (.ireturn, 1) := by decide +kernel
theorem dX2_admits_18 : decode cX2_admits 18 = .ok (.iload_n 3, 1) := by decide +kernel
theorem dX2_admits_19 : decode cX2_admits 19 = .ok (.bipush 8, 2) := by decide +kernel
theorem dX2_admits_21 : decode cX2_admits 21 = .ok (.if_icmp .lt 5, 3) := by decide +kernel
theorem dX2_admits_26 : decode cX2_admits 26 = .ok (.aload_n 0, 1) := by decide +kernel
theorem dX2_admits_27 : decode cX2_admits 27 = .ok (.getfield 22, 3) := by decide +kernel
theorem fX2_22 : zFld RX2 22 2 2 := ⟨RX2, TX2, 5, rfl, inX2, by decide, rfl, Or.inl (gt_of 139 (by decide +kernel) rfl)⟩
theorem dX2_admits_30 : decode cX2_admits 30 = .ok (.iload_n 3, 1) := by decide +kernel
theorem dX2_admits_31 : decode cX2_admits 31 = .ok (.aaload, 1) := by decide +kernel
theorem dX2_admits_32 : decode cX2_admits 32 = .ok (.aload_n 1, 1) := by decide +kernel
theorem dX2_admits_33 : decode cX2_admits 33 = .ok (.invokevirtual 36, 3) := by decide +kernel
theorem kX2_36 : zLk RX2 36 yX3_take := Or.inl (gt_of 343 (by decide +kernel) rfl)
theorem vX3_take : zMi yX3_take := ⟨gt_of 344 (by decide +kernel) rfl, gt_of 345 (by decide +kernel) rfl⟩
theorem dX2_admits_36 : decode cX2_admits 36 = .ok (.iconst 1, 1) := by decide +kernel
theorem dX2_admits_37 : decode cX2_admits 37 = .ok (.ireturn, 1) := by decide +kernel
set_option maxRecDepth 100000 in
theorem c_X2_admits (l : Launch) (D : va_G) (cy : Nat → Nat) (n : Nat) (ad : Nat → Nat) (F : Nat → va_E) (sz : Nat) (k : Nat) (sc : Scn) (hk : k + 12 ≤ n) (hR : RS ad cy k F sc) (j : Nat) (b : Stg) (hj : j < n) (hFj : F j = oSetting b) (hjk : ∀ i, i < 8 → j ≠ k + 4 + i) (ah : Int32) : Met l yX2_admits (zw yX2_admits cX2_admits 4 (some .boolean)) (rmL 2) (zPc D cy n ad F sz [.ref (ad k), .ref (ad j), .int ah]) (va_Qi (fun r F1 => ((bTold b ∧ 0 ≤ sc.2.2.2.1 + ah ∧ sc.2.2.2.1 + ah < 8) ∧ r = 1 ∧ F1 = va_up F (k + 4 + iN (sc.2.2.2.1 + ah)) (oSetting b)) ∨ (¬ (bTold b ∧ 0 ≤ sc.2.2.2.1 + ah ∧ sc.2.2.2.1 + ah < 8) ∧ r = 0 ∧ F = F1)) (zB D n ad) (zA n ad sz)) 0 0 (zA n ad sz) := by
  refine zmet (by decide +kernel) (Nat.le_of_ble_eq_true rfl) (fun p e s m args below meth c ls hC hsz hZ hA hr hlocks hnm hl => ?_)
  have hC : zC p m c cX2_admits 4 s args RX2 D cy := hC
  have hx := hC.1.1
  have hb := hC.1.2.1
  have hl : lv_has ls 4 [(0, .ref (ad k)), (1, .ref (ad j)), (2, .int ah)] := hl
  refine lv_aload_n hx hb dX2_admits_0 rfl (lv_at hl 0 rfl) ?_
  refine zget hC hZ fX2_26 (by omega) hR.1 rfl dX2_admits_1 ?_
  refine lv_iload_n hx hb dX2_admits_4 rfl (lv_at hl 2 rfl) ?_
  refine lv_iadd hx hb dX2_admits_5 ?_
  refine lv_istore_n (lv' := [(3, .int (sc.2.2.2.1 + ah)), (0, .ref (ad k)), (1, .ref (ad j)), (2, .int ah)]) hx hb dX2_admits_6 rfl hl (by decide) rfl (fun ls hl => ?_)
  refine lv_aload_n hx hb dX2_admits_7 rfl (lv_at hl 2 rfl) ?_
  refine zgoi hZ hA (zrunV (As := []) (rest := []) (k := j) hC hZ (c_X3_isAsTold l D cy n ad F s.heap.size j b hj hFj) mX3_isAsTold vX3_isAsTold kX2_62 (zRj_of rfl) hj hFj rfl rfl hl.1 rfl (Nat.le_of_ble_eq_true rfl) dX2_admits_8 ⟨Nat.le_refl _, Nat.le_refl _⟩) (fun r_2 F_1 hp_3 H locs hZ => ?_)
  obtain ⟨hp_3, rfl⟩ := hp_3
  by_cases b_4 : bTold b
  · rw [if_pos b_4] at hp_3
    subst hp_3
    refine lv_if_eq (tgt := 24) hx hb dX2_admits_11 (by decide) (fun h => absurd h (by decide)) (fun _ => ?_)
    refine lv_iload_n hx hb dX2_admits_14 rfl (lv_at hl 0 rfl) ?_
    refine lv_if_lt (tgt := 24) hx hb dX2_admits_15 (by decide) (fun c_15 => ?_) (fun c_15 => ?_)
    · refine lv_iconst (v := 0) hx hb dX2_admits_24 (by decide) ?_
      have hq_5 : ¬ (bTold b ∧ 0 ≤ sc.2.2.2.1 + ah ∧ sc.2.2.2.1 + ah < 8) := by simp [b_4, c_15, Int32.not_le.mpr c_15]
      exact zbreti hC hZ hr hlocks rfl (Or.inr ⟨hq_5, rfl, rfl⟩) dX2_admits_25
    · refine lv_iload_n hx hb dX2_admits_18 rfl (lv_at hl 0 rfl) ?_
      refine lv_bipush (v := 8) hx hb dX2_admits_19 (by decide) ?_
      refine lv_icmp_lt (tgt := 26) hx hb dX2_admits_21 (by decide) (fun c_21 => ?_) (fun c_21 => ?_)
      · refine lv_aload_n hx hb dX2_admits_26 rfl (lv_at hl 1 rfl) ?_
        refine zget hC hZ fX2_22 (by omega) hR.1 rfl dX2_admits_27 ?_
        refine lv_iload_n hx hb dX2_admits_30 rfl (lv_at hl 0 rfl) ?_
        have hi8 := iN_at (N := 8) (Int32.not_lt.mp c_15) c_21 rfl
        have hl8 := hi8.2
        refine zaald hC hZ (by omega) hR.2.2.1 (C := RX3) rfl hi8.1 hl8 (by decide) rfl dX2_admits_31 ?_
        refine lv_aload_n hx hb dX2_admits_32 rfl (lv_at hl 2 rfl) ?_
        refine zgov hZ hA (zrunV (As := [.ref (ad j)]) (rest := []) (k := k + 4 + (iN (sc.2.2.2.1 + ah))) hC hZ (c_X3_take l D cy n ad F H.size (k + 4 + (iN (sc.2.2.2.1 + ah))) (sc.2.2.1 (iN (sc.2.2.2.1 + ah))) (by have := hl8; omega) (hR.2.2.2.2 (iN (sc.2.2.2.1 + ah)) hl8) j b hj hFj (fun h => hjk _ hl8 h)) mX3_take vX3_take kX2_36 (zRj_of rfl) (by have := hl8; omega) (hR.2.2.2.2 (iN (sc.2.2.2.1 + ah)) hl8) rfl rfl hl.1 rfl (Nat.le_of_ble_eq_true rfl) dX2_admits_33 ⟨Nat.le_refl _, Nat.le_refl _⟩) (fun F_6 hp_8 H locs hZ => ?_)
        have h_9 := zeq hp_8
        refine lv_iconst (v := 1) hx hb dX2_admits_36 (by decide) ?_
        have hq_10 : bTold b ∧ 0 ≤ sc.2.2.2.1 + ah ∧ sc.2.2.2.1 + ah < 8 := ⟨b_4, Int32.not_lt.mp c_15, c_21⟩
        exact zbreti hC hZ hr hlocks rfl (Or.inl ⟨hq_10, rfl, hp_8⟩) dX2_admits_37
      · refine lv_iconst (v := 0) hx hb dX2_admits_24 (by decide) ?_
        have hq_11 : ¬ (bTold b ∧ 0 ≤ sc.2.2.2.1 + ah ∧ sc.2.2.2.1 + ah < 8) := by simp [b_4, c_15, Int32.not_lt.mp c_15, c_21, Int32.not_lt.mp c_21]
        exact zbreti hC hZ hr hlocks rfl (Or.inr ⟨hq_11, rfl, rfl⟩) dX2_admits_25
  · rw [if_neg b_4] at hp_3
    subst hp_3
    refine lv_if_eq (tgt := 24) hx hb dX2_admits_11 (by decide) (fun _ => ?_) (fun h => absurd (by decide) h)
    refine lv_iconst (v := 0) hx hb dX2_admits_24 (by decide) ?_
    have hq_12 : ¬ (bTold b ∧ 0 ≤ sc.2.2.2.1 + ah ∧ sc.2.2.2.1 + ah < 8) := by simp [b_4]
    exact zbreti hC hZ hr hlocks rfl (Or.inr ⟨hq_12, rfl, rfl⟩) dX2_admits_25

theorem mX2_take : zMd yX2_take cX2_take 3 none 1 := ⟨by decide +kernel, gt_of 557 (by decide +kernel) rfl, gt_of 45 (by decide +kernel) rfl, by decide⟩
theorem dX2_take_0 : decode cX2_take 0 = .ok (.aload_n 0, 1) := by decide +kernel
theorem dX2_take_1 : decode cX2_take 1 = .ok (.getfield 12, 3) := by decide +kernel
theorem dX2_take_4 : decode cX2_take 4 = .ok (.aload_n 1, 1) := by decide +kernel
theorem dX2_take_5 : decode cX2_take 5 = .ok (.getfield 12, 3) := by decide +kernel
theorem dX2_take_8 : decode cX2_take 8 = .ok (.invokevirtual 36, 3) := by decide +kernel
theorem dX2_take_11 : decode cX2_take 11 = .ok (.aload_n 0, 1) := by decide +kernel
theorem dX2_take_12 : decode cX2_take 12 = .ok (.aload_n 1, 1) := by decide +kernel
theorem dX2_take_13 : decode cX2_take 13 = .ok (.getfield 18, 3) := by decide +kernel
theorem dX2_take_16 : decode cX2_take 16 = .ok (.putfield 18, 3) := by decide +kernel
theorem pX2_18 : zFldP RX2 18 2 1 false .int := ⟨RX2, TX2, 5, tyX2, rfl, inX2, by decide, rfl, Or.inl (gt_of 137 (by decide +kernel) rfl), tyX2_ok, nmX2, rfl, by decide +kernel, fun h => by cases h⟩
theorem dX2_take_19 : decode cX2_take 19 = .ok (.iconst 0, 1) := by decide +kernel
theorem dX2_take_20 : decode cX2_take 20 = .ok (.istore_n 2, 1) := by decide +kernel
theorem dX2_take_21 : decode cX2_take 21 = .ok (.iload_n 2, 1) := by decide +kernel
theorem dX2_take_22 : decode cX2_take 22 = .ok (.bipush 8, 2) := by decide +kernel
theorem dX2_take_24 : decode cX2_take 24 = .ok (.if_icmp .ge 24, 3) := by decide +kernel
theorem dX2_take_48 : decode cX2_take 48 = .ok (.aload_n 0, 1) := by decide +kernel
theorem dX2_take_49 : decode cX2_take 49 = .ok (.aload_n 1, 1) := by decide +kernel
theorem dX2_take_50 : decode cX2_take 50 = .ok (.getfield 26, 3) := by decide +kernel
theorem dX2_take_53 : decode cX2_take 53 = .ok (.putfield 26, 3) := by decide +kernel
theorem pX2_26 : zFldP RX2 26 2 3 false .int := ⟨RX2, TX2, 5, tyX2, rfl, inX2, by decide, rfl, Or.inl (gt_of 141 (by decide +kernel) rfl), tyX2_ok, nmX2, rfl, by decide +kernel, fun h => by cases h⟩
theorem dX2_take_56 : decode cX2_take 56 = .ok (.aload_n 0, 1) := by decide +kernel
theorem dX2_take_57 : decode cX2_take 57 = .ok (.getfield 32, 3) := by decide +kernel
theorem dX2_take_60 : decode cX2_take 60 = .ok (.aload_n 1, 1) := by decide +kernel
theorem dX2_take_61 : decode cX2_take 61 = .ok (.getfield 32, 3) := by decide +kernel
theorem dX2_take_64 : decode cX2_take 64 = .ok (.invokevirtual 40, 3) := by decide +kernel
theorem kX2_40 : zLk RX2 40 yX0_take := Or.inl (gt_of 558 (by decide +kernel) rfl)
theorem vX0_take : zMi yX0_take := ⟨gt_of 559 (by decide +kernel) rfl, gt_of 560 (by decide +kernel) rfl⟩
theorem dX2_take_67 : decode cX2_take 67 = .ok (.return_, 1) := by decide +kernel
theorem dX2_take_27 : decode cX2_take 27 = .ok (.aload_n 0, 1) := by decide +kernel
theorem dX2_take_28 : decode cX2_take 28 = .ok (.getfield 22, 3) := by decide +kernel
theorem dX2_take_31 : decode cX2_take 31 = .ok (.iload_n 2, 1) := by decide +kernel
theorem dX2_take_32 : decode cX2_take 32 = .ok (.aaload, 1) := by decide +kernel
theorem dX2_take_33 : decode cX2_take 33 = .ok (.aload_n 1, 1) := by decide +kernel
theorem dX2_take_34 : decode cX2_take 34 = .ok (.getfield 22, 3) := by decide +kernel
theorem dX2_take_37 : decode cX2_take 37 = .ok (.iload_n 2, 1) := by decide +kernel
theorem dX2_take_38 : decode cX2_take 38 = .ok (.aaload, 1) := by decide +kernel
theorem dX2_take_39 : decode cX2_take 39 = .ok (.invokevirtual 36, 3) := by decide +kernel
theorem dX2_take_42 : decode cX2_take 42 = .ok (.iinc 2 1, 3) := by decide +kernel
theorem dX2_take_45 : decode cX2_take 45 = .ok (.goto (-24), 3) := by decide +kernel
set_option maxRecDepth 100000 in
theorem c_X2_take (l : Launch) (D : va_G) (cy : Nat → Nat) (n : Nat) (ad : Nat → Nat) (F : Nat → va_E) (sz : Nat) (k : Nat) (sc : Scn) (hk : k + 12 ≤ n) (hR : RS ad cy k F sc) (b : Nat) (sd : Scn) (hb12 : b + 12 ≤ n) (hR2 : RS ad cy b F sd) (hkb : k + 12 ≤ b ∨ b + 12 ≤ k) : Met l yX2_take (zw yX2_take cX2_take 3 none) (rmL 1) (zPc D cy n ad F sz [.ref (ad k), .ref (ad b)]) (va_Qv (fun F1 => RS ad cy k F1 sd ∧ ∀ q, ¬ (k ≤ q ∧ q < k + 12) → F1 q = F q) (zB D n ad) (zA n ad sz)) 0 0 (zA n ad sz) := by
  refine zmet (by decide +kernel) (Nat.le_of_ble_eq_true rfl) (fun p e s m args below meth c ls hC hsz hZ hA hr hlocks hnm hl => ?_)
  have hC : zC p m c cX2_take 3 s args RX2 D cy := hC
  have hx := hC.1.1
  have hb := hC.1.2.1
  have hl : lv_has ls 3 [(0, .ref (ad k)), (1, .ref (ad b))] := hl
  refine lv_aload_n hx hb dX2_take_0 rfl (lv_at hl 0 rfl) ?_
  refine zget hC hZ fX2_12 (by omega) hR.1 rfl dX2_take_1 ?_
  refine lv_aload_n hx hb dX2_take_4 rfl (lv_at hl 1 rfl) ?_
  refine zget hC hZ fX2_12 (by omega) hR2.1 rfl dX2_take_5 ?_
  refine zgov hZ hA (zrunV (As := [.ref (ad (b + 1))]) (rest := []) (k := k + 1) hC hZ (c_X3_take l D cy n ad F s.heap.size (k + 1) sc.1 (by omega) hR.2.1 (b + 1) sd.1 (by omega) hR2.2.1 (by omega)) mX3_take vX3_take kX2_36 (zRj_of rfl) (by omega) hR.2.1 rfl rfl hl.1 rfl (Nat.le_of_ble_eq_true rfl) dX2_take_8 ⟨Nat.le_refl _, Nat.le_refl _⟩) (fun F_1 hp_3 H locs hZ => ?_)
  have h_4 := zeq hp_3
  refine lv_aload_n hx hb dX2_take_11 rfl (lv_at hl 0 rfl) ?_
  refine lv_aload_n hx hb dX2_take_12 rfl (lv_at hl 1 rfl) ?_
  refine zget hC hZ fX2_18 (by omega) (zne hp_3 (by omega) hR2.1) rfl dX2_take_13 ?_
  refine zput (E := oScene ad k sd.2.1 sc.2.2.2.1) hC hZ pX2_18 (by omega) (zne hp_3 (by omega) hR.1) rfl rfl rfl (Nat.le_of_ble_eq_true rfl) dX2_take_16 (fun F_5 hF_6 H locs hZ => ?_)
  have h_7 := zeq hF_6
  refine lv_iconst (v := 0) hx hb dX2_take_19 (by decide) ?_
  refine lv_istore_n (lv' := [(2, .int 0), (0, .ref (ad k)), (1, .ref (ad b))]) hx hb dX2_take_20 rfl hl (by decide) rfl (fun ls hl => ?_)
  refine zlp (X := Nat) 21 (fun _ => []) (fun i ls F1 => i ≤ 8 ∧ lv_has ls 3 [(2, .int (nI i)), (0, .ref (ad k)), (1, .ref (ad b))] ∧ RS ad cy k F1 (sd.1, sd.2.1, (fun j => if j < i then sd.2.2.1 j else sc.2.2.1 j), sc.2.2.2.1, sc.2.2.2.2) ∧ ∀ q, ¬ (k ≤ q ∧ q < k + 12) → F1 q = F q) (fun i => 8 - i) ?_ 0 hZ ⟨by omega, hl, ?_, ?_⟩
  · intro i ih ls F3 H locs hZ hφ
    obtain ⟨hi, hl, hRk, hfr⟩ := hφ
    have hRb : RS ad cy b F3 sd := RS_fr hR2 (fun q h1 h2 => hfr q (by omega))
    refine lv_iload_n hx hb dX2_take_21 rfl (lv_at hl 0 rfl) ?_
    refine lv_bipush (v := 8) hx hb dX2_take_22 (by decide) ?_
    refine lv_icmp_ge (tgt := 48) hx hb dX2_take_24 (by decide) (fun c_24 => ?_) (fun c_24 => ?_)
    · refine lv_aload_n hx hb dX2_take_48 rfl (lv_at hl 1 rfl) ?_
      refine lv_aload_n hx hb dX2_take_49 rfl (lv_at hl 2 rfl) ?_
      refine zget hC hZ fX2_26 (by omega) hRb.1 rfl dX2_take_50 ?_
      refine zput (E := oScene ad k sd.2.1 sd.2.2.2.1) hC hZ pX2_26 (by omega) hRk.1 rfl rfl rfl (Nat.le_of_ble_eq_true rfl) dX2_take_53 (fun F_8 hF_9 H locs hZ => ?_)
      have h_10 := zeq hF_9
      refine lv_aload_n hx hb dX2_take_56 rfl (lv_at hl 1 rfl) ?_
      refine zget hC hZ fX2_32 (by omega) h_10 rfl dX2_take_57 ?_
      refine lv_aload_n hx hb dX2_take_60 rfl (lv_at hl 2 rfl) ?_
      refine zget hC hZ fX2_32 (by omega) (zne hF_9 (by omega) hRb.1) rfl dX2_take_61 ?_
      refine zgov hZ hA (zrunV (As := [.ref (ad (b + 3))]) (rest := []) (k := k + 3) hC hZ (c_X0_take l D cy n ad F_8 H.size (k + 3) sc.2.2.2.2 (by omega) (zne hF_9 (by omega) hRk.2.2.2.1) (b + 3) sd.2.2.2.2 (by omega) (zne hF_9 (by omega) hRb.2.2.2.1) (by omega)) mX0_take vX0_take kX2_40 (zRj_of rfl) (by omega) (zne hF_9 (by omega) hRk.2.2.2.1) rfl rfl hl.1 rfl (Nat.le_of_ble_eq_true rfl) dX2_take_64 ⟨Nat.le_refl _, Nat.le_refl _⟩) (fun F_11 hp_13 H locs hZ => ?_)
      have h_14 := zeq hp_13
      have hi8 : i = 8 := by have := nIge (N := 8) c_24 (by omega) rfl; omega
      subst hi8
      have h9 := RS_course (RS_self hRk hF_9) hp_13
      have h8 : RS ad cy k F_11 sd := RS_ext h9 rfl rfl (fun i hi => by simp [hi]) rfl
      exact zvret hC hZ hr hlocks ⟨h8, fr_tr hfr (fr_tr (fr_up hF_9 (by omega) (by omega)) (fr_up hp_13 (by omega) (by omega)))⟩ dX2_take_67
    · refine lv_aload_n hx hb dX2_take_27 rfl (lv_at hl 1 rfl) ?_
      refine zget hC hZ fX2_22 (by omega) hRk.1 rfl dX2_take_28 ?_
      refine lv_iload_n hx hb dX2_take_31 rfl (lv_at hl 0 rfl) ?_
      have hlt8 := nIlt (N := 8) c_24 (by omega) rfl
      refine zaald hC hZ (by omega) hRk.2.2.1 (C := RX3) rfl rfl hlt8 (by decide) rfl dX2_take_32 ?_
      refine lv_aload_n hx hb dX2_take_33 rfl (lv_at hl 2 rfl) ?_
      refine zget hC hZ fX2_22 (by omega) hRb.1 rfl dX2_take_34 ?_
      refine lv_iload_n hx hb dX2_take_37 rfl (lv_at hl 0 rfl) ?_
      refine zaald hC hZ (by omega) hRb.2.2.1 (C := RX3) rfl rfl hlt8 (by decide) rfl dX2_take_38 ?_
      refine zgov hZ hA (zrunV (As := [.ref (ad (b + 4 + i))]) (rest := []) (k := k + 4 + i) hC hZ (c_X3_take l D cy n ad F3 H.size (k + 4 + i) (if i < i then sd.2.2.1 i else sc.2.2.1 i) (by omega) (hRk.2.2.2.2 i hlt8) (b + 4 + i) (sd.2.2.1 i) (by omega) (hRb.2.2.2.2 i hlt8) (by omega)) mX3_take vX3_take kX2_36 (zRj_of rfl) (by omega) (hRk.2.2.2.2 i hlt8) rfl rfl hl.1 rfl (Nat.le_of_ble_eq_true rfl) dX2_take_39 ⟨Nat.le_refl _, Nat.le_refl _⟩) (fun F_15 hp_17 H locs hZ => ?_)
      have h_18 := zeq hp_17
      refine lv_iinc (v := nI (i + 1)) (lv' := [(2, .int (nI (i + 1))), (0, .ref (ad k)), (1, .ref (ad b))]) hx hb dX2_take_42 hl (k := 0) rfl (nI_1 i) (by decide) rfl (fun ls hl => ?_)
      refine lv_goto (tgt := 21) hx hb dX2_take_45 (by decide) ?_
      have hlt := nIlt (N := 8) c_24 (by omega) rfl
      refine ih (i + 1) ls _ H locs (by show 8 - (i + 1) < 8 - i; omega) hZ ⟨by omega, hl, ?_, fr_tr hfr (fr_up hp_17 (by omega) (by omega))⟩
      have h9 := RS_try hRk hp_17
      rw [tr_s] at h9
      exact h9
  · exact RS_self (RS_chain hR hp_3) hF_6
  · exact fr_tr (fr_up hp_3 (by omega) (by omega)) (fr_up hF_6 (by omega) (by omega))
end
section
theorem zmin_zn {zn : Nat} (h : zn ≤ 100) : (if (100 : Int32) < nI zn then (100 : Int32) else nI zn) = nI zn := by
  rw [if_neg]
  rw [i32lt, nI_toInt (by omega)]
  have : (100 : Int32).toInt = 100 := rfl
  omega

theorem mX1_open : zMd yX1_open cX1_open 3 none 1 := ⟨by decide +kernel, gt_of 294 (by decide +kernel) rfl, gt_of 50 (by decide +kernel) rfl, by decide⟩
theorem dX1_open_0 : decode cX1_open 0 = .ok (.aload_n 0, 1) := by decide +kernel
theorem dX1_open_1 : decode cX1_open 1 = .ok (.aload_n 1, 1) := by decide +kernel
theorem dX1_open_2 : decode cX1_open 2 = .ok (.getfield 26, 3) := by decide +kernel
theorem fX1_26 : zFld RX1 26 4 3 := ⟨RX4, TX4, 5, rfl, inX4, by decide, rfl, Or.inr ⟨"ChainLeap", List.mem_of_getElem? (i := 183) (by decide +kernel)⟩⟩
theorem dX1_open_5 : decode cX1_open 5 = .ok (.bipush 100, 2) := by decide +kernel
theorem dX1_open_7 : decode cX1_open 7 = .ok (.invokestatic 29, 3) := by decide +kernel
theorem kX1_29 : zMath RX1 29 Lib.Math.min.name Lib.Math.min.code 2 (some .int) := ⟨gt_of 295 (by decide +kernel) rfl, gt_of 296 (by decide +kernel) rfl, gt_of 52 (by decide +kernel) rfl, gt_of 297 (by decide +kernel) rfl⟩
theorem dX1_open_10 : decode cX1_open 10 = .ok (.putfield 15, 3) := by decide +kernel
theorem pX1_15 : zFldP RX1 15 1 1 false .int := ⟨RX1, TX1, 4, tyX1, rfl, inX1, by decide, rfl, Or.inl (gt_of 206 (by decide +kernel) rfl), tyX1_ok, nmX1, rfl, by decide +kernel, fun h => by cases h⟩
theorem dX1_open_13 : decode cX1_open 13 = .ok (.iconst 0, 1) := by decide +kernel
theorem dX1_open_14 : decode cX1_open 14 = .ok (.istore_n 2, 1) := by decide +kernel
theorem dX1_open_15 : decode cX1_open 15 = .ok (.iload_n 2, 1) := by decide +kernel
theorem dX1_open_16 : decode cX1_open 16 = .ok (.aload_n 0, 1) := by decide +kernel
theorem dX1_open_17 : decode cX1_open 17 = .ok (.getfield 15, 3) := by decide +kernel
theorem fX1_15 : zFld RX1 15 1 1 := ⟨RX1, TX1, 4, rfl, inX1, by decide, rfl, Or.inl (gt_of 206 (by decide +kernel) rfl)⟩
theorem dX1_open_20 : decode cX1_open 20 = .ok (.if_icmp .ge 20, 3) := by decide +kernel
theorem dX1_open_40 : decode cX1_open 40 = .ok (.aload_n 0, 1) := by decide +kernel
theorem dX1_open_41 : decode cX1_open 41 = .ok (.iconst 0, 1) := by decide +kernel
theorem dX1_open_42 : decode cX1_open 42 = .ok (.putfield 19, 3) := by decide +kernel
theorem pX1_19 : zFldP RX1 19 1 2 false .int := ⟨RX1, TX1, 4, tyX1, rfl, inX1, by decide, rfl, Or.inl (gt_of 207 (by decide +kernel) rfl), tyX1_ok, nmX1, rfl, by decide +kernel, fun h => by cases h⟩
theorem dX1_open_45 : decode cX1_open 45 = .ok (.aload_n 0, 1) := by decide +kernel
theorem dX1_open_46 : decode cX1_open 46 = .ok (.iconst 0, 1) := by decide +kernel
theorem dX1_open_47 : decode cX1_open 47 = .ok (.putfield 22, 3) := by decide +kernel
theorem pX1_22 : zFldP RX1 22 1 3 false .boolean := ⟨RX1, TX1, 4, tyX1, rfl, inX1, by decide, rfl, Or.inl (gt_of 209 (by decide +kernel) rfl), tyX1_ok, nmX1, rfl, by decide +kernel, fun h => by cases h⟩
theorem dX1_open_50 : decode cX1_open 50 = .ok (.return_, 1) := by decide +kernel
theorem dX1_open_23 : decode cX1_open 23 = .ok (.aload_n 0, 1) := by decide +kernel
theorem dX1_open_24 : decode cX1_open 24 = .ok (.getfield 9, 3) := by decide +kernel
theorem fX1_9 : zFld RX1 9 1 0 := ⟨RX1, TX1, 4, rfl, inX1, by decide, rfl, Or.inl (gt_of 205 (by decide +kernel) rfl)⟩
theorem dX1_open_27 : decode cX1_open 27 = .ok (.iload_n 2, 1) := by decide +kernel
theorem dX1_open_28 : decode cX1_open 28 = .ok (.aload_n 1, 1) := by decide +kernel
theorem dX1_open_29 : decode cX1_open 29 = .ok (.iload_n 2, 1) := by decide +kernel
theorem dX1_open_30 : decode cX1_open 30 = .ok (.invokevirtual 35, 3) := by decide +kernel
theorem kX1_35 : zLk RX1 35 yX4_at := Or.inl (gt_of 298 (by decide +kernel) rfl)
theorem dX1_open_33 : decode cX1_open 33 = .ok (.iastore, 1) := by decide +kernel
theorem dX1_open_34 : decode cX1_open 34 = .ok (.iinc 2 1, 3) := by decide +kernel
theorem dX1_open_37 : decode cX1_open 37 = .ok (.goto (-22), 3) := by decide +kernel
set_option maxRecDepth 100000 in
theorem c_X1_open (l : Launch) (D : va_G) (cy : Nat → Nat) (n : Nat) (ad : Nat → Nat) (F : Nat → va_E) (sz : Nat) (k : Nat) (f : Nat → Int32) (z : Int32) (u : Int32 × Int32) (hk : k + 2 ≤ n) (hFk : F k = oReader ad k z u.1 u.2) (hFt : F (k + 1) = oInts cy 100 f) (j : Nat) (sf : Shf) (hj : j + 3 ≤ n) (hJ : RSh ad cy j F sf) (hkj : k + 2 ≤ j ∨ j + 3 ≤ k) (zn : Nat) (hzn : zn ≤ 100) (hz : sf.2.2.2.1 = nI zn) : Met l yX1_open (zw yX1_open cX1_open 3 none) (rmL 2) (zPc D cy n ad F sz [.ref (ad k), .ref (ad j)]) (va_Qv (fun F1 => F1 k = oReader ad k (nI zn) 0 0 ∧ F1 (k + 1) = oInts cy 100 (zcop sf.2.2.2.2 f zn) ∧ ∀ q, ¬ (k ≤ q ∧ q < k + 2) → F1 q = F q) (zB D n ad) (zA n ad sz)) 0 0 (zA n ad sz) := by
  refine zmet (by decide +kernel) (Nat.le_of_ble_eq_true rfl) (fun p e s m args below meth c ls hC hsz hZ hA hr hlocks hnm hl => ?_)
  have hC : zC p m c cX1_open 3 s args RX1 D cy := hC
  have hx := hC.1.1
  have hb := hC.1.2.1
  have hl : lv_has ls 3 [(0, .ref (ad k)), (1, .ref (ad j))] := hl
  refine lv_aload_n hx hb dX1_open_0 rfl (lv_at hl 0 rfl) ?_
  refine lv_aload_n hx hb dX1_open_1 rfl (lv_at hl 1 rfl) ?_
  refine zget hC hZ fX1_26 (by omega) hJ.1 rfl dX1_open_2 ?_
  refine lv_bipush (v := 100) hx hb dX1_open_5 (by decide) ?_
  refine zmin hC kX1_29 hl.1 (zRj_of rfl) (Nat.le_of_ble_eq_true rfl) ⟨Nat.le_refl _, Nat.le_refl _⟩ dX1_open_7 ?_
  refine zput (E := oReader ad k (if 100 < sf.2.2.2.1 then 100 else sf.2.2.2.1) u.1 u.2) hC hZ pX1_15 (by omega) hFk rfl rfl rfl (Nat.le_of_ble_eq_true rfl) dX1_open_10 (fun F_1 hF_2 H locs hZ => ?_)
  have h_3 := zeq hF_2
  refine lv_iconst (v := 0) hx hb dX1_open_13 (by decide) ?_
  refine lv_istore_n (lv' := [(2, .int 0), (0, .ref (ad k)), (1, .ref (ad j))]) hx hb dX1_open_14 rfl hl (by decide) rfl (fun ls hl => ?_)
  refine zlp (X := Nat) 15 (fun _ => []) (fun i ls F1 => i ≤ zn ∧ lv_has ls 3 [(2, .int (nI i)), (0, .ref (ad k)), (1, .ref (ad j))] ∧ F1 k = oReader ad k (nI zn) u.1 u.2 ∧ F1 (k + 1) = oInts cy 100 (zcop sf.2.2.2.2 f i) ∧ RSh ad cy j F1 sf ∧ ∀ q, ¬ (k ≤ q ∧ q < k + 2) → F1 q = F q) (fun i => zn - i) ?_ 0 hZ ⟨by omega, hl, (zeq hF_2).trans ?_, ?_, ?_, fr_up hF_2 (by omega) (by omega)⟩
  · intro i ih ls F3 H locs hZ hφ
    obtain ⟨hi, hl, hK3, hT3, hJ3, hfr⟩ := hφ
    refine lv_iload_n hx hb dX1_open_15 rfl (lv_at hl 0 rfl) ?_
    refine lv_aload_n hx hb dX1_open_16 rfl (lv_at hl 1 rfl) ?_
    refine zget hC hZ fX1_15 (by omega) hK3 rfl dX1_open_17 ?_
    refine lv_icmp_ge (tgt := 40) hx hb dX1_open_20 (by decide) (fun c_20 => ?_) (fun c_20 => ?_)
    · refine lv_aload_n hx hb dX1_open_40 rfl (lv_at hl 1 rfl) ?_
      refine lv_iconst (v := 0) hx hb dX1_open_41 (by decide) ?_
      refine zput (E := oReader ad k (nI zn) 0 u.2) hC hZ pX1_19 (by omega) hK3 rfl rfl rfl (Nat.le_of_ble_eq_true rfl) dX1_open_42 (fun F_4 hF_5 H locs hZ => ?_)
      have h_6 := zeq hF_5
      refine lv_aload_n hx hb dX1_open_45 rfl (lv_at hl 1 rfl) ?_
      refine lv_iconst (v := 0) hx hb dX1_open_46 (by decide) ?_
      refine zput (E := oReader ad k (nI zn) 0 0) hC hZ pX1_22 (by omega) h_6 rfl rfl rfl (Nat.le_of_ble_eq_true rfl) dX1_open_47 (fun F_7 hF_8 H locs hZ => ?_)
      have h_9 := zeq hF_8
      have hi8 : i = zn := by rcases Nat.lt_or_ge i zn with h | h; exact absurd c_20 (by rw [Int32.not_le]; exact nI_lt h (by omega)); omega
      subst hi8
      exact zvret hC hZ hr hlocks ⟨zeq hF_8, zne hF_8 (by omega) (zne hF_5 (by omega) hT3), fr_tr hfr (fr_tr (fr_up hF_5 (by omega) (by omega)) (fr_up hF_8 (by omega) (by omega)))⟩ dX1_open_50
    · refine lv_aload_n hx hb dX1_open_23 rfl (lv_at hl 1 rfl) ?_
      refine zget hC hZ fX1_9 (by omega) hK3 rfl dX1_open_24 ?_
      refine lv_iload_n hx hb dX1_open_27 rfl (lv_at hl 0 rfl) ?_
      refine lv_aload_n hx hb dX1_open_28 rfl (lv_at hl 2 rfl) ?_
      refine lv_iload_n hx hb dX1_open_29 rfl (lv_at hl 0 rfl) ?_
      refine zgoi hZ hA (zrunV (As := [.int (nI i)]) (rest := [.int (nI i), .ref (ad (k + 1))]) (k := j) hC hZ (c_X4_at l D cy n ad F3 H.size j sf hj hJ3 (nI i)) mX4_at vX4_at kX1_35 (zRj_of rfl) (by omega) hJ3.1 rfl rfl hl.1 rfl (Nat.le_of_ble_eq_true rfl) dX1_open_30 ⟨Nat.le_refl _, Nat.le_refl _⟩) (fun r_11 F_10 hp_12 H locs hZ => ?_)
      obtain ⟨rfl, rfl⟩ := hp_12
      have hlt0 : i < 100 := by have := c_20; rcases Nat.lt_or_ge i zn with h | h; omega; exact absurd (nI_le h (by omega)) this
      refine ziast hC hZ (by omega) hT3 rfl hlt0 (by decide) dX1_open_33 (fun F_13 hF_14 H locs hZ => ?_)
      have h_15 := zeq hF_14
      refine lv_iinc (v := nI (i + 1)) (lv' := [(2, .int (nI (i + 1))), (0, .ref (ad k)), (1, .ref (ad j))]) hx hb dX1_open_34 hl (k := 0) rfl (nI_1 i) (by decide) rfl (fun ls hl => ?_)
      refine lv_goto (tgt := 15) hx hb dX1_open_37 (by decide) ?_
      have hlt : i < zn := by have := c_20; rcases Nat.lt_or_ge i zn with h | h; exact h; exact absurd (nI_le h (by omega)) this
      refine ih (i + 1) ls _ H locs (by show zn - (i + 1) < zn - i; omega) hZ ⟨by omega, hl, zne hF_14 (by omega) hK3, (zeq hF_14).trans ?_, ?_, fr_tr hfr (fr_up hF_14 (by omega) (by omega))⟩
      · rw [hz, sAt_nI (by omega) hlt, zcop_s]
      · refine ⟨(zne hF_14 (by omega) hJ3.1), (zne hF_14 (by omega) hJ3.2.1), (zne hF_14 (by omega) hJ3.2.2)⟩
  · rw [hz, zmin_zn hzn]
  · rw [zcop_0]
    exact zne hF_2 (by omega) hFt
  · refine ⟨(zne hF_2 (by omega) hJ.1), (zne hF_2 (by omega) hJ.2.1), (zne hF_2 (by omega) hJ.2.2)⟩

theorem mX1_isAtEnd : zMd yX1_isAtEnd cX1_isAtEnd 1 (some .boolean) 0 := ⟨by decide +kernel, gt_of 350 (by decide +kernel) rfl, gt_of 50 (by decide +kernel) rfl, by decide⟩
theorem dX1_isAtEnd_0 : decode cX1_isAtEnd 0 = .ok (.aload_n 0, 1) := by decide +kernel
theorem dX1_isAtEnd_1 : decode cX1_isAtEnd 1 = .ok (.getfield 19, 3) := by decide +kernel
theorem fX1_19 : zFld RX1 19 1 2 := ⟨RX1, TX1, 4, rfl, inX1, by decide, rfl, Or.inl (gt_of 207 (by decide +kernel) rfl)⟩
theorem dX1_isAtEnd_4 : decode cX1_isAtEnd 4 = .ok (.aload_n 0, 1) := by decide +kernel
theorem dX1_isAtEnd_5 : decode cX1_isAtEnd 5 = .ok (.getfield 15, 3) := by decide +kernel
theorem dX1_isAtEnd_8 : decode cX1_isAtEnd 8 = .ok (.if_icmp .lt 7, 3) := by decide +kernel
theorem dX1_isAtEnd_15 : decode cX1_isAtEnd 15 = .ok (.iconst 0, 1) := by decide +kernel
theorem dX1_isAtEnd_16 : decode cX1_isAtEnd 16 = .ok (.ireturn, 1) := by decide +kernel
theorem dX1_isAtEnd_11 : decode cX1_isAtEnd 11 = .ok (.iconst 1, 1) := by decide +kernel
theorem dX1_isAtEnd_12 : decode cX1_isAtEnd 12 = .ok (.goto 4, 3) := by decide +kernel
set_option maxRecDepth 100000 in
theorem c_X1_isAtEnd (l : Launch) (D : va_G) (cy : Nat → Nat) (n : Nat) (ad : Nat → Nat) (F : Nat → va_E) (sz : Nat) (k : Nat) (f : Nat → Int32) (z : Int32) (u : Int32 × Int32) (hk : k + 2 ≤ n) (hFk : F k = oReader ad k z u.1 u.2) (hFt : F (k + 1) = oInts cy 100 f) : Met l yX1_isAtEnd (zw yX1_isAtEnd cX1_isAtEnd 1 (some .boolean)) (rmL 0) (zPc D cy n ad F sz [.ref (ad k)]) (va_Qi (fun r F1 => r = (if z ≤ u.1 then 1 else 0) ∧ F = F1) (zB D n ad) (zA n ad sz)) 0 0 (zA n ad sz) := by
  refine zmet (by decide +kernel) (Nat.le_of_ble_eq_true rfl) (fun p e s m args below meth c ls hC hsz hZ hA hr hlocks hnm hl => ?_)
  have hC : zC p m c cX1_isAtEnd 1 s args RX1 D cy := hC
  have hx := hC.1.1
  have hb := hC.1.2.1
  have hl : lv_has ls 1 [(0, .ref (ad k))] := hl
  refine lv_aload_n hx hb dX1_isAtEnd_0 rfl (lv_at hl 0 rfl) ?_
  refine zget hC hZ fX1_19 (by omega) hFk rfl dX1_isAtEnd_1 ?_
  refine lv_aload_n hx hb dX1_isAtEnd_4 rfl (lv_at hl 0 rfl) ?_
  refine zget hC hZ fX1_15 (by omega) hFk rfl dX1_isAtEnd_5 ?_
  refine lv_icmp_lt (tgt := 15) hx hb dX1_isAtEnd_8 (by decide) (fun c_8 => ?_) (fun c_8 => ?_)
  · refine lv_iconst (v := 0) hx hb dX1_isAtEnd_15 (by decide) ?_
    have hq_1 : (0 : Int32) = if z ≤ u.1 then 1 else 0 := by simp [c_8, Int32.not_le.mpr c_8]
    exact zbreti hC hZ hr hlocks rfl ⟨hq_1, rfl⟩ dX1_isAtEnd_16
  · refine lv_iconst (v := 1) hx hb dX1_isAtEnd_11 (by decide) ?_
    refine lv_goto (tgt := 16) hx hb dX1_isAtEnd_12 (by decide) ?_
    have hq_2 : (1 : Int32) = if z ≤ u.1 then 1 else 0 := by simp [c_8, Int32.not_lt.mp c_8]
    exact zbreti hC hZ hr hlocks rfl ⟨hq_2, rfl⟩ dX1_isAtEnd_16

theorem mX1_next : zMd yX1_next cX1_next 1 (some .int) 0 := ⟨by decide +kernel, gt_of 321 (by decide +kernel) rfl, gt_of 50 (by decide +kernel) rfl, by decide⟩
theorem dX1_next_0 : decode cX1_next 0 = .ok (.aload_n 0, 1) := by decide +kernel
theorem dX1_next_1 : decode cX1_next 1 = .ok (.getfield 19, 3) := by decide +kernel
theorem dX1_next_4 : decode cX1_next 4 = .ok (.ifCond .lt 35, 3) := by decide +kernel
theorem dX1_next_39 : decode cX1_next 39 = .ok (.sipush (-1000), 3) := by decide +kernel
theorem dX1_next_42 : decode cX1_next 42 = .ok (.ireturn, 1) := by decide +kernel
theorem dX1_next_7 : decode cX1_next 7 = .ok (.aload_n 0, 1) := by decide +kernel
theorem dX1_next_8 : decode cX1_next 8 = .ok (.getfield 19, 3) := by decide +kernel
theorem dX1_next_11 : decode cX1_next 11 = .ok (.aload_n 0, 1) := by decide +kernel
theorem dX1_next_12 : decode cX1_next 12 = .ok (.getfield 15, 3) := by decide +kernel
theorem dX1_next_15 : decode cX1_next 15 = .ok (.if_icmp .ge 24, 3) := by decide +kernel
theorem dX1_next_18 : decode cX1_next 18 = .ok (.aload_n 0, 1) := by decide +kernel
theorem dX1_next_19 : decode cX1_next 19 = .ok (.getfield 19, 3) := by decide +kernel
theorem dX1_next_22 : decode cX1_next 22 = .ok (.bipush 100, 2) := by decide +kernel
theorem dX1_next_24 : decode cX1_next 24 = .ok (.if_icmp .ge 15, 3) := by decide +kernel
theorem dX1_next_27 : decode cX1_next 27 = .ok (.aload_n 0, 1) := by decide +kernel
theorem dX1_next_28 : decode cX1_next 28 = .ok (.getfield 9, 3) := by decide +kernel
theorem dX1_next_31 : decode cX1_next 31 = .ok (.aload_n 0, 1) := by decide +kernel
theorem dX1_next_32 : decode cX1_next 32 = .ok (.getfield 19, 3) := by decide +kernel
theorem dX1_next_35 : decode cX1_next 35 = .ok (.iaload, 1) := by decide +kernel
theorem dX1_next_36 : decode cX1_next 36 = .ok (.goto 6, 3) := by decide +kernel
set_option maxRecDepth 100000 in
theorem c_X1_next (l : Launch) (D : va_G) (cy : Nat → Nat) (n : Nat) (ad : Nat → Nat) (F : Nat → va_E) (sz : Nat) (k : Nat) (f : Nat → Int32) (z : Int32) (u : Int32 × Int32) (hk : k + 2 ≤ n) (hFk : F k = oReader ad k z u.1 u.2) (hFt : F (k + 1) = oInts cy 100 f) : Met l yX1_next (zw yX1_next cX1_next 1 (some .int)) (rmL 0) (zPc D cy n ad F sz [.ref (ad k)]) (va_Qi (fun r F1 => r = sNext f z u.1 ∧ F = F1) (zB D n ad) (zA n ad sz)) 0 0 (zA n ad sz) := by
  refine zmet (by decide +kernel) (Nat.le_of_ble_eq_true rfl) (fun p e s m args below meth c ls hC hsz hZ hA hr hlocks hnm hl => ?_)
  have hC : zC p m c cX1_next 1 s args RX1 D cy := hC
  have hx := hC.1.1
  have hb := hC.1.2.1
  have hl : lv_has ls 1 [(0, .ref (ad k))] := hl
  refine lv_aload_n hx hb dX1_next_0 rfl (lv_at hl 0 rfl) ?_
  refine zget hC hZ fX1_19 (by omega) hFk rfl dX1_next_1 ?_
  refine lv_if_lt (tgt := 39) hx hb dX1_next_4 (by decide) (fun c_4 => ?_) (fun c_4 => ?_)
  · refine lv_sipush (v := (-1000)) hx hb dX1_next_39 (by decide) ?_
    have hq_1 : (-1000 : Int32) = sNext f z u.1 := by first | rfl | simp [sNext, c_4, Int32.not_le.mpr c_4] | (simp only [sNext]; simp [c_4, Int32.not_le.mpr c_4])
    exact zireti hC hZ hr hlocks ⟨hq_1, rfl⟩ dX1_next_42
  · refine lv_aload_n hx hb dX1_next_7 rfl (lv_at hl 0 rfl) ?_
    refine zget hC hZ fX1_19 (by omega) hFk rfl dX1_next_8 ?_
    refine lv_aload_n hx hb dX1_next_11 rfl (lv_at hl 0 rfl) ?_
    refine zget hC hZ fX1_15 (by omega) hFk rfl dX1_next_12 ?_
    refine lv_icmp_ge (tgt := 39) hx hb dX1_next_15 (by decide) (fun c_15 => ?_) (fun c_15 => ?_)
    · refine lv_sipush (v := (-1000)) hx hb dX1_next_39 (by decide) ?_
      have hq_2 : (-1000 : Int32) = sNext f z u.1 := by first | rfl | simp [sNext, c_4, Int32.not_lt.mp c_4, c_15, Int32.not_lt.mpr c_15] | (simp only [sNext]; simp [c_4, Int32.not_lt.mp c_4, c_15, Int32.not_lt.mpr c_15])
      exact zireti hC hZ hr hlocks ⟨hq_2, rfl⟩ dX1_next_42
    · refine lv_aload_n hx hb dX1_next_18 rfl (lv_at hl 0 rfl) ?_
      refine zget hC hZ fX1_19 (by omega) hFk rfl dX1_next_19 ?_
      refine lv_bipush (v := 100) hx hb dX1_next_22 (by decide) ?_
      refine lv_icmp_ge (tgt := 39) hx hb dX1_next_24 (by decide) (fun c_24 => ?_) (fun c_24 => ?_)
      · refine lv_sipush (v := (-1000)) hx hb dX1_next_39 (by decide) ?_
        have hq_3 : (-1000 : Int32) = sNext f z u.1 := by first | rfl | simp [sNext, c_4, Int32.not_lt.mp c_4, c_15, Int32.not_le.mp c_15, c_24, Int32.not_lt.mpr c_24] | (simp only [sNext]; simp [c_4, Int32.not_lt.mp c_4, c_15, Int32.not_le.mp c_15, c_24, Int32.not_lt.mpr c_24])
        exact zireti hC hZ hr hlocks ⟨hq_3, rfl⟩ dX1_next_42
      · refine lv_aload_n hx hb dX1_next_27 rfl (lv_at hl 0 rfl) ?_
        refine zget hC hZ fX1_9 (by omega) hFk rfl dX1_next_28 ?_
        refine lv_aload_n hx hb dX1_next_31 rfl (lv_at hl 0 rfl) ?_
        refine zget hC hZ fX1_19 (by omega) hFk rfl dX1_next_32 ?_
        refine ziald hC hZ (by omega) hFt (iN_at (N := 100) (Int32.not_lt.mp c_4) (Int32.not_le.mp c_24) rfl).1 (iN_at (N := 100) (Int32.not_lt.mp c_4) (Int32.not_le.mp c_24) rfl).2 (by decide) dX1_next_35 ?_
        refine lv_goto (tgt := 42) hx hb dX1_next_36 (by decide) ?_
        have hq_4 : (f (iN u.1)) = sNext f z u.1 := by first | rfl | simp [sNext, c_4, Int32.not_lt.mp c_4, c_15, Int32.not_le.mp c_15, c_24, Int32.not_le.mp c_24] | (simp only [sNext]; simp [c_4, Int32.not_lt.mp c_4, c_15, Int32.not_le.mp c_15, c_24, Int32.not_le.mp c_24])
        exact zireti hC hZ hr hlocks ⟨hq_4, rfl⟩ dX1_next_42

theorem mX1_isAtDigit : zMd yX1_isAtDigit cX1_isAtDigit 1 (some .boolean) 0 := ⟨by decide +kernel, gt_of 333 (by decide +kernel) rfl, gt_of 50 (by decide +kernel) rfl, by decide⟩
theorem dX1_isAtDigit_0 : decode cX1_isAtDigit 0 = .ok (.aload_n 0, 1) := by decide +kernel
theorem dX1_isAtDigit_1 : decode cX1_isAtDigit 1 = .ok (.invokevirtual 67, 3) := by decide +kernel
theorem kX1_67 : zLk RX1 67 yX1_next := Or.inl (gt_of 318 (by decide +kernel) rfl)
theorem vX1_next : zMi yX1_next := ⟨gt_of 320 (by decide +kernel) rfl, gt_of 5 (by decide +kernel) rfl⟩
theorem dX1_isAtDigit_4 : decode cX1_isAtDigit 4 = .ok (.bipush 48, 2) := by decide +kernel
theorem dX1_isAtDigit_6 : decode cX1_isAtDigit 6 = .ok (.if_icmp .lt 16, 3) := by decide +kernel
theorem dX1_isAtDigit_22 : decode cX1_isAtDigit 22 = .ok (.iconst 0, 1) := by decide +kernel
theorem dX1_isAtDigit_23 : decode cX1_isAtDigit 23 = .ok (.ireturn, 1) := by decide +kernel
theorem dX1_isAtDigit_9 : decode cX1_isAtDigit 9 = .ok (.aload_n 0, 1) := by decide +kernel
theorem dX1_isAtDigit_10 : decode cX1_isAtDigit 10 = .ok (.invokevirtual 67, 3) := by decide +kernel
theorem dX1_isAtDigit_13 : decode cX1_isAtDigit 13 = .ok (.bipush 57, 2) := by decide +kernel
theorem dX1_isAtDigit_15 : decode cX1_isAtDigit 15 = .ok (.if_icmp .gt 7, 3) := by decide +kernel
theorem dX1_isAtDigit_18 : decode cX1_isAtDigit 18 = .ok (.iconst 1, 1) := by decide +kernel
theorem dX1_isAtDigit_19 : decode cX1_isAtDigit 19 = .ok (.goto 4, 3) := by decide +kernel
set_option maxRecDepth 100000 in
theorem c_X1_isAtDigit (l : Launch) (D : va_G) (cy : Nat → Nat) (n : Nat) (ad : Nat → Nat) (F : Nat → va_E) (sz : Nat) (k : Nat) (f : Nat → Int32) (z : Int32) (u : Int32 × Int32) (hk : k + 2 ≤ n) (hFk : F k = oReader ad k z u.1 u.2) (hFt : F (k + 1) = oInts cy 100 f) : Met l yX1_isAtDigit (zw yX1_isAtDigit cX1_isAtDigit 1 (some .boolean)) (rmL 1) (zPc D cy n ad F sz [.ref (ad k)]) (va_Qi (fun r F1 => r = (if bDig (sNext f z) u.1 then 1 else 0) ∧ F = F1) (zB D n ad) (zA n ad sz)) 0 0 (zA n ad sz) := by
  refine zmet (by decide +kernel) (Nat.le_of_ble_eq_true rfl) (fun p e s m args below meth c ls hC hsz hZ hA hr hlocks hnm hl => ?_)
  have hC : zC p m c cX1_isAtDigit 1 s args RX1 D cy := hC
  have hx := hC.1.1
  have hb := hC.1.2.1
  have hl : lv_has ls 1 [(0, .ref (ad k))] := hl
  refine lv_aload_n hx hb dX1_isAtDigit_0 rfl (lv_at hl 0 rfl) ?_
  refine zgoi hZ hA (zrunV (As := []) (rest := []) (k := k) hC hZ (c_X1_next l D cy n ad F s.heap.size k f z u hk hFk hFt) mX1_next vX1_next kX1_67 (zRj_of rfl) (by omega) hFk rfl rfl hl.1 rfl (Nat.le_of_ble_eq_true rfl) dX1_isAtDigit_1 ⟨Nat.le_refl _, Nat.le_refl _⟩) (fun r_2 F_1 hp_3 H locs hZ => ?_)
  obtain ⟨rfl, rfl⟩ := hp_3
  refine lv_bipush (v := 48) hx hb dX1_isAtDigit_4 (by decide) ?_
  refine lv_icmp_lt (tgt := 22) hx hb dX1_isAtDigit_6 (by decide) (fun c_6 => ?_) (fun c_6 => ?_)
  · refine lv_iconst (v := 0) hx hb dX1_isAtDigit_22 (by decide) ?_
    have hq_4 : (0 : Int32) = if bDig (sNext f z) u.1 then 1 else 0 := by simp [c_6, Int32.not_le.mpr c_6]
    exact zbreti hC hZ hr hlocks rfl ⟨hq_4, rfl⟩ dX1_isAtDigit_23
  · refine lv_aload_n hx hb dX1_isAtDigit_9 rfl (lv_at hl 0 rfl) ?_
    refine zgoi hZ hA (zrunV (As := []) (rest := []) (k := k) hC hZ (c_X1_next l D cy n ad F H.size k f z u hk hFk hFt) mX1_next vX1_next kX1_67 (zRj_of rfl) (by omega) hFk rfl rfl hl.1 rfl (Nat.le_of_ble_eq_true rfl) dX1_isAtDigit_10 ⟨Nat.le_refl _, Nat.le_refl _⟩) (fun r_6 F_5 hp_7 H locs hZ => ?_)
    obtain ⟨rfl, rfl⟩ := hp_7
    refine lv_bipush (v := 57) hx hb dX1_isAtDigit_13 (by decide) ?_
    refine lv_icmp_gt (tgt := 22) hx hb dX1_isAtDigit_15 (by decide) (fun c_15 => ?_) (fun c_15 => ?_)
    · refine lv_iconst (v := 0) hx hb dX1_isAtDigit_22 (by decide) ?_
      have hq_8 : (0 : Int32) = if bDig (sNext f z) u.1 then 1 else 0 := by simp [c_6, Int32.not_lt.mp c_6, c_15, Int32.not_le.mpr c_15]
      exact zbreti hC hZ hr hlocks rfl ⟨hq_8, rfl⟩ dX1_isAtDigit_23
    · refine lv_iconst (v := 1) hx hb dX1_isAtDigit_18 (by decide) ?_
      refine lv_goto (tgt := 23) hx hb dX1_isAtDigit_19 (by decide) ?_
      have hq_9 : (1 : Int32) = if bDig (sNext f z) u.1 then 1 else 0 := by simp [c_6, Int32.not_lt.mp c_6, c_15, Int32.not_lt.mp c_15]
      exact zbreti hC hZ hr hlocks rfl ⟨hq_9, rfl⟩ dX1_isAtDigit_23

theorem mX1_accepts : zMd yX1_accepts cX1_accepts 2 (some .boolean) 1 := ⟨by decide +kernel, gt_of 317 (by decide +kernel) rfl, gt_of 50 (by decide +kernel) rfl, by decide⟩
theorem dX1_accepts_0 : decode cX1_accepts 0 = .ok (.aload_n 0, 1) := by decide +kernel
theorem dX1_accepts_1 : decode cX1_accepts 1 = .ok (.getfield 22, 3) := by decide +kernel
theorem fX1_22 : zFld RX1 22 1 3 := ⟨RX1, TX1, 4, rfl, inX1, by decide, rfl, Or.inl (gt_of 209 (by decide +kernel) rfl)⟩
theorem dX1_accepts_4 : decode cX1_accepts 4 = .ok (.ifCond .ne 11, 3) := by decide +kernel
theorem dX1_accepts_15 : decode cX1_accepts 15 = .ok (.iconst 0, 1) := by decide +kernel
theorem dX1_accepts_16 : decode cX1_accepts 16 = .ok (.ireturn, 1) := by decide +kernel
theorem dX1_accepts_7 : decode cX1_accepts 7 = .ok (.aload_n 0, 1) := by decide +kernel
theorem dX1_accepts_8 : decode cX1_accepts 8 = .ok (.invokevirtual 67, 3) := by decide +kernel
theorem dX1_accepts_11 : decode cX1_accepts 11 = .ok (.iload_n 1, 1) := by decide +kernel
theorem dX1_accepts_12 : decode cX1_accepts 12 = .ok (.if_icmp .eq 5, 3) := by decide +kernel
theorem dX1_accepts_17 : decode cX1_accepts 17 = .ok (.aload_n 0, 1) := by decide +kernel
theorem dX1_accepts_18 : decode cX1_accepts 18 = .ok (.dup, 1) := by decide +kernel
theorem dX1_accepts_19 : decode cX1_accepts 19 = .ok (.getfield 19, 3) := by decide +kernel
theorem dX1_accepts_22 : decode cX1_accepts 22 = .ok (.iconst 1, 1) := by decide +kernel
theorem dX1_accepts_23 : decode cX1_accepts 23 = .ok (.iadd, 1) := by decide +kernel
theorem dX1_accepts_24 : decode cX1_accepts 24 = .ok (.putfield 19, 3) := by decide +kernel
theorem dX1_accepts_27 : decode cX1_accepts 27 = .ok (.iconst 1, 1) := by decide +kernel
theorem dX1_accepts_28 : decode cX1_accepts 28 = .ok (.ireturn, 1) := by decide +kernel
set_option maxRecDepth 100000 in
theorem c_X1_accepts (l : Launch) (D : va_G) (cy : Nat → Nat) (n : Nat) (ad : Nat → Nat) (F : Nat → va_E) (sz : Nat) (k : Nat) (f : Nat → Int32) (z : Int32) (u : Int32 × Int32) (hk : k + 2 ≤ n) (hFk : F k = oReader ad k z u.1 u.2) (hFt : F (k + 1) = oInts cy 100 f) (g : Int32) : Met l yX1_accepts (zw yX1_accepts cX1_accepts 2 (some .boolean)) (rmL 1) (zPc D cy n ad F sz [.ref (ad k), .int g]) (va_Qi (fun r F1 => r = (if bAcc (sNext f z) g u then 1 else 0) ∧ F1 = va_up F k (oReader ad k z (sAcc (sNext f z) g u).1 (sAcc (sNext f z) g u).2)) (zB D n ad) (zA n ad sz)) 0 0 (zA n ad sz) := by
  refine zmet (by decide +kernel) (Nat.le_of_ble_eq_true rfl) (fun p e s m args below meth c ls hC hsz hZ hA hr hlocks hnm hl => ?_)
  have hC : zC p m c cX1_accepts 2 s args RX1 D cy := hC
  have hx := hC.1.1
  have hb := hC.1.2.1
  have hl : lv_has ls 2 [(0, .ref (ad k)), (1, .int g)] := hl
  refine lv_aload_n hx hb dX1_accepts_0 rfl (lv_at hl 0 rfl) ?_
  refine zget hC hZ fX1_22 (by omega) hFk rfl dX1_accepts_1 ?_
  refine lv_if_ne (tgt := 15) hx hb dX1_accepts_4 (by decide) (fun c_4 => ?_) (fun c_4 => ?_)
  · refine lv_iconst (v := 0) hx hb dX1_accepts_15 (by decide) ?_
    have hq_1 : F = va_up F k (oReader ad k z (sAcc (sNext f z) g u).1 (sAcc (sNext f z) g u).2) := zself (by rw [hFk]; simp [sAcc, bAcc, c_4])
    have hq_2 : (0 : Int32) = (if bAcc (sNext f z) g u then 1 else 0) := by simp [sAcc, bAcc, c_4]
    exact zbreti hC hZ hr hlocks rfl ⟨hq_2, hq_1⟩ dX1_accepts_16
  · refine lv_aload_n hx hb dX1_accepts_7 rfl (lv_at hl 0 rfl) ?_
    refine zgoi hZ hA (zrunV (As := []) (rest := []) (k := k) hC hZ (c_X1_next l D cy n ad F s.heap.size k f z u hk hFk hFt) mX1_next vX1_next kX1_67 (zRj_of rfl) (by omega) hFk rfl rfl hl.1 rfl (Nat.le_of_ble_eq_true rfl) dX1_accepts_8 ⟨Nat.le_refl _, Nat.le_refl _⟩) (fun r_4 F_3 hp_5 H locs hZ => ?_)
    obtain ⟨rfl, rfl⟩ := hp_5
    refine lv_iload_n hx hb dX1_accepts_11 rfl (lv_at hl 1 rfl) ?_
    refine lv_icmp_eq (tgt := 17) hx hb dX1_accepts_12 (by decide) (fun c_12 => ?_) (fun c_12 => ?_)
    · refine lv_aload_n hx hb dX1_accepts_17 rfl (lv_at hl 0 rfl) ?_
      refine lv_dup hx hb dX1_accepts_18 rfl ?_
      refine zget hC hZ fX1_19 (by omega) hFk rfl dX1_accepts_19 ?_
      refine lv_iconst (v := 1) hx hb dX1_accepts_22 (by decide) ?_
      refine lv_iadd hx hb dX1_accepts_23 ?_
      refine zput (E := oReader ad k z (u.1 + 1) u.2) hC hZ pX1_19 (by omega) hFk rfl rfl rfl (Nat.le_of_ble_eq_true rfl) dX1_accepts_24 (fun F_6 hF_7 H locs hZ => ?_)
      have h_8 := zeq hF_7
      refine lv_iconst (v := 1) hx hb dX1_accepts_27 (by decide) ?_
      have hq_9 : F_6 = va_up F k (oReader ad k z (sAcc (sNext f z) g u).1 (sAcc (sNext f z) g u).2) := by rw [hF_7]; simp [bx_uu, sAcc, bAcc, c_4, c_12]
      have hq_10 : (1 : Int32) = (if bAcc (sNext f z) g u then 1 else 0) := by simp [sAcc, bAcc, c_4, c_12]
      exact zbreti hC hZ hr hlocks rfl ⟨hq_10, hq_9⟩ dX1_accepts_28
    · refine lv_iconst (v := 0) hx hb dX1_accepts_15 (by decide) ?_
      have hq_11 : F = va_up F k (oReader ad k z (sAcc (sNext f z) g u).1 (sAcc (sNext f z) g u).2) := zself (by rw [hFk]; simp [sAcc, bAcc, c_4, c_12])
      have hq_12 : (0 : Int32) = (if bAcc (sNext f z) g u then 1 else 0) := by simp [sAcc, bAcc, c_4, c_12]
      exact zbreti hC hZ hr hlocks rfl ⟨hq_12, hq_11⟩ dX1_accepts_16

theorem mX1_need : zMd yX1_need cX1_need 2 none 1 := ⟨by decide +kernel, gt_of 313 (by decide +kernel) rfl, gt_of 50 (by decide +kernel) rfl, by decide⟩
theorem dX1_need_0 : decode cX1_need 0 = .ok (.aload_n 0, 1) := by decide +kernel
theorem dX1_need_1 : decode cX1_need 1 = .ok (.iload_n 1, 1) := by decide +kernel
theorem dX1_need_2 : decode cX1_need 2 = .ok (.invokevirtual 51, 3) := by decide +kernel
theorem kX1_51 : zLk RX1 51 yX1_accepts := Or.inl (gt_of 314 (by decide +kernel) rfl)
theorem vX1_accepts : zMi yX1_accepts := ⟨gt_of 316 (by decide +kernel) rfl, gt_of 4 (by decide +kernel) rfl⟩
theorem dX1_need_5 : decode cX1_need 5 = .ok (.ifCond .ne 8, 3) := by decide +kernel
theorem dX1_need_13 : decode cX1_need 13 = .ok (.return_, 1) := by decide +kernel
theorem dX1_need_8 : decode cX1_need 8 = .ok (.aload_n 0, 1) := by decide +kernel
theorem dX1_need_9 : decode cX1_need 9 = .ok (.iconst 1, 1) := by decide +kernel
theorem dX1_need_10 : decode cX1_need 10 = .ok (.putfield 22, 3) := by decide +kernel
set_option maxRecDepth 100000 in
theorem c_X1_need (l : Launch) (D : va_G) (cy : Nat → Nat) (n : Nat) (ad : Nat → Nat) (F : Nat → va_E) (sz : Nat) (k : Nat) (f : Nat → Int32) (z : Int32) (u : Int32 × Int32) (hk : k + 2 ≤ n) (hFk : F k = oReader ad k z u.1 u.2) (hFt : F (k + 1) = oInts cy 100 f) (g : Int32) : Met l yX1_need (zw yX1_need cX1_need 2 none) (rmL 2) (zPc D cy n ad F sz [.ref (ad k), .int g]) (va_Qv (fun F1 => F1 = va_up F k (oReader ad k z (sNeed (sNext f z) g u).1 (sNeed (sNext f z) g u).2)) (zB D n ad) (zA n ad sz)) 0 0 (zA n ad sz) := by
  refine zmet (by decide +kernel) (Nat.le_of_ble_eq_true rfl) (fun p e s m args below meth c ls hC hsz hZ hA hr hlocks hnm hl => ?_)
  have hC : zC p m c cX1_need 2 s args RX1 D cy := hC
  have hx := hC.1.1
  have hb := hC.1.2.1
  have hl : lv_has ls 2 [(0, .ref (ad k)), (1, .int g)] := hl
  refine lv_aload_n hx hb dX1_need_0 rfl (lv_at hl 0 rfl) ?_
  refine lv_iload_n hx hb dX1_need_1 rfl (lv_at hl 1 rfl) ?_
  refine zgoi hZ hA (zrunV (As := [.int g]) (rest := []) (k := k) hC hZ (c_X1_accepts l D cy n ad F s.heap.size k f z u hk hFk hFt g) mX1_accepts vX1_accepts kX1_51 (zRj_of rfl) (by omega) hFk rfl rfl hl.1 rfl (Nat.le_of_ble_eq_true rfl) dX1_need_2 ⟨Nat.le_refl _, Nat.le_refl _⟩) (fun r_2 F_1 hp_3 H locs hZ => ?_)
  obtain ⟨y_4, hy_4⟩ : ∃ y, y = (sAcc (sNext f z) g u) := ⟨_, rfl⟩
  rw [← hy_4] at hp_3
  obtain ⟨h_5, h_6⟩ := hp_3
  have h_7 := zeq h_6
  by_cases b_8 : bAcc (sNext f z) g u
  · rw [if_pos b_8] at h_5
    subst h_5
    refine lv_if_ne (tgt := 13) hx hb dX1_need_5 (by decide) (fun _ => ?_) (fun h => absurd h (by decide))
    have hq_9 : F_1 = va_up F k (oReader ad k z (sNeed (sNext f z) g u).1 (sNeed (sNext f z) g u).2) := by rw [sNeed_pos b_8, ← hy_4]; exact h_6
    exact zvret hC hZ hr hlocks hq_9 dX1_need_13
  · rw [if_neg b_8] at h_5
    subst h_5
    refine lv_if_ne (tgt := 13) hx hb dX1_need_5 (by decide) (fun h => absurd (by decide) h) (fun _ => ?_)
    refine lv_aload_n hx hb dX1_need_8 rfl (lv_at hl 0 rfl) ?_
    refine lv_iconst (v := 1) hx hb dX1_need_9 (by decide) ?_
    refine zput (E := oReader ad k z y_4.1 1) hC hZ pX1_22 (by omega) h_7 rfl rfl rfl (Nat.le_of_ble_eq_true rfl) dX1_need_10 (fun F_10 hF_11 H locs hZ => ?_)
    have h_12 := zeq hF_11
    have hq_13 : F_10 = va_up F k (oReader ad k z (sNeed (sNext f z) g u).1 (sNeed (sNext f z) g u).2) := by rw [sNeed_neg b_8, hF_11, h_6, hy_4, sAcc_neg b_8]; simp only [bx_uu]
    exact zvret hC hZ hr hlocks hq_13 dX1_need_13

theorem mX1_digit : zMd yX1_digit cX1_digit 2 (some .int) 0 := ⟨by decide +kernel, gt_of 329 (by decide +kernel) rfl, gt_of 50 (by decide +kernel) rfl, by decide⟩
theorem dX1_digit_0 : decode cX1_digit 0 = .ok (.aload_n 0, 1) := by decide +kernel
theorem dX1_digit_1 : decode cX1_digit 1 = .ok (.getfield 22, 3) := by decide +kernel
theorem dX1_digit_4 : decode cX1_digit 4 = .ok (.ifCond .ne 10, 3) := by decide +kernel
theorem dX1_digit_14 : decode cX1_digit 14 = .ok (.aload_n 0, 1) := by decide +kernel
theorem dX1_digit_15 : decode cX1_digit 15 = .ok (.iconst 1, 1) := by decide +kernel
theorem dX1_digit_16 : decode cX1_digit 16 = .ok (.putfield 22, 3) := by decide +kernel
theorem dX1_digit_19 : decode cX1_digit 19 = .ok (.iconst 0, 1) := by decide +kernel
theorem dX1_digit_20 : decode cX1_digit 20 = .ok (.ireturn, 1) := by decide +kernel
theorem dX1_digit_7 : decode cX1_digit 7 = .ok (.aload_n 0, 1) := by decide +kernel
theorem dX1_digit_8 : decode cX1_digit 8 = .ok (.invokevirtual 70, 3) := by decide +kernel
theorem kX1_70 : zLk RX1 70 yX1_isAtDigit := Or.inl (gt_of 330 (by decide +kernel) rfl)
theorem vX1_isAtDigit : zMi yX1_isAtDigit := ⟨gt_of 332 (by decide +kernel) rfl, gt_of 8 (by decide +kernel) rfl⟩
theorem dX1_digit_11 : decode cX1_digit 11 = .ok (.ifCond .ne 10, 3) := by decide +kernel
theorem dX1_digit_21 : decode cX1_digit 21 = .ok (.aload_n 0, 1) := by decide +kernel
theorem dX1_digit_22 : decode cX1_digit 22 = .ok (.invokevirtual 67, 3) := by decide +kernel
theorem dX1_digit_25 : decode cX1_digit 25 = .ok (.bipush 48, 2) := by decide +kernel
theorem dX1_digit_27 : decode cX1_digit 27 = .ok (.isub, 1) := by decide +kernel
theorem dX1_digit_28 : decode cX1_digit 28 = .ok (.istore_n 1, 1) := by decide +kernel
theorem dX1_digit_29 : decode cX1_digit 29 = .ok (.aload_n 0, 1) := by decide +kernel
theorem dX1_digit_30 : decode cX1_digit 30 = .ok (.dup, 1) := by decide +kernel
theorem dX1_digit_31 : decode cX1_digit 31 = .ok (.getfield 19, 3) := by decide +kernel
theorem dX1_digit_34 : decode cX1_digit 34 = .ok (.iconst 1, 1) := by decide +kernel
theorem dX1_digit_35 : decode cX1_digit 35 = .ok (.iadd, 1) := by decide +kernel
theorem dX1_digit_36 : decode cX1_digit 36 = .ok (.putfield 19, 3) := by decide +kernel
theorem dX1_digit_39 : decode cX1_digit 39 = .ok (.iload_n 1, 1) := by decide +kernel
theorem dX1_digit_40 : decode cX1_digit 40 = .ok (.ireturn, 1) := by decide +kernel
set_option maxRecDepth 100000 in
theorem c_X1_digit (l : Launch) (D : va_G) (cy : Nat → Nat) (n : Nat) (ad : Nat → Nat) (F : Nat → va_E) (sz : Nat) (k : Nat) (f : Nat → Int32) (z : Int32) (u : Int32 × Int32) (hk : k + 2 ≤ n) (hFk : F k = oReader ad k z u.1 u.2) (hFt : F (k + 1) = oInts cy 100 f) : Met l yX1_digit (zw yX1_digit cX1_digit 2 (some .int)) (rmL 2) (zPc D cy n ad F sz [.ref (ad k)]) (va_Qi (fun r F1 => r = (sDig (sNext f z) u).1 ∧ F1 = va_up F k (oReader ad k z (sDig (sNext f z) u).2.1 (sDig (sNext f z) u).2.2)) (zB D n ad) (zA n ad sz)) 0 0 (zA n ad sz) := by
  refine zmet (by decide +kernel) (Nat.le_of_ble_eq_true rfl) (fun p e s m args below meth c ls hC hsz hZ hA hr hlocks hnm hl => ?_)
  have hC : zC p m c cX1_digit 2 s args RX1 D cy := hC
  have hx := hC.1.1
  have hb := hC.1.2.1
  have hl : lv_has ls 2 [(0, .ref (ad k))] := hl
  refine lv_aload_n hx hb dX1_digit_0 rfl (lv_at hl 0 rfl) ?_
  refine zget hC hZ fX1_22 (by omega) hFk rfl dX1_digit_1 ?_
  refine lv_if_ne (tgt := 14) hx hb dX1_digit_4 (by decide) (fun c_4 => ?_) (fun c_4 => ?_)
  · refine lv_aload_n hx hb dX1_digit_14 rfl (lv_at hl 0 rfl) ?_
    refine lv_iconst (v := 1) hx hb dX1_digit_15 (by decide) ?_
    refine zput (E := oReader ad k z u.1 1) hC hZ pX1_22 (by omega) hFk rfl rfl rfl (Nat.le_of_ble_eq_true rfl) dX1_digit_16 (fun F_1 hF_2 H locs hZ => ?_)
    have h_3 := zeq hF_2
    refine lv_iconst (v := 0) hx hb dX1_digit_19 (by decide) ?_
    have hq_5 : sDig (sNext f z) u = (0, u.1, 1) := sDig_neg (q := u) (fun h => c_4 h.1)
    have hq_4 : F_1 = va_up F k (oReader ad k z (sDig (sNext f z) u).2.1 (sDig (sNext f z) u).2.2) := by rw [hq_5]; exact hF_2
    exact zireti hC hZ hr hlocks ⟨by rw [hq_5], hq_4⟩ dX1_digit_20
  · refine lv_aload_n hx hb dX1_digit_7 rfl (lv_at hl 0 rfl) ?_
    refine zgoi hZ hA (zrunV (As := []) (rest := []) (k := k) hC hZ (c_X1_isAtDigit l D cy n ad F s.heap.size k f z u hk hFk hFt) mX1_isAtDigit vX1_isAtDigit kX1_70 (zRj_of rfl) (by omega) hFk rfl rfl hl.1 rfl (Nat.le_of_ble_eq_true rfl) dX1_digit_8 ⟨Nat.le_refl _, Nat.le_refl _⟩) (fun r_7 F_6 hp_8 H locs hZ => ?_)
    obtain ⟨hp_8, rfl⟩ := hp_8
    by_cases b_9 : bDig (sNext f z) u.1
    · rw [if_pos b_9] at hp_8
      subst hp_8
      refine lv_if_ne (tgt := 21) hx hb dX1_digit_11 (by decide) (fun _ => ?_) (fun h => absurd h (by decide))
      refine lv_aload_n hx hb dX1_digit_21 rfl (lv_at hl 0 rfl) ?_
      refine zgoi hZ hA (zrunV (As := []) (rest := []) (k := k) hC hZ (c_X1_next l D cy n ad F H.size k f z u hk hFk hFt) mX1_next vX1_next kX1_67 (zRj_of rfl) (by omega) hFk rfl rfl hl.1 rfl (Nat.le_of_ble_eq_true rfl) dX1_digit_22 ⟨Nat.le_refl _, Nat.le_refl _⟩) (fun r_11 F_10 hp_12 H locs hZ => ?_)
      obtain ⟨rfl, rfl⟩ := hp_12
      refine lv_bipush (v := 48) hx hb dX1_digit_25 (by decide) ?_
      refine lv_isub hx hb dX1_digit_27 ?_
      refine lv_istore_n (lv' := [(1, .int ((sNext f z u.1) - 48)), (0, .ref (ad k))]) hx hb dX1_digit_28 rfl hl (by decide) rfl (fun ls hl => ?_)
      refine lv_aload_n hx hb dX1_digit_29 rfl (lv_at hl 1 rfl) ?_
      refine lv_dup hx hb dX1_digit_30 rfl ?_
      refine zget hC hZ fX1_19 (by omega) hFk rfl dX1_digit_31 ?_
      refine lv_iconst (v := 1) hx hb dX1_digit_34 (by decide) ?_
      refine lv_iadd hx hb dX1_digit_35 ?_
      refine zput (E := oReader ad k z (u.1 + 1) u.2) hC hZ pX1_19 (by omega) hFk rfl rfl rfl (Nat.le_of_ble_eq_true rfl) dX1_digit_36 (fun F_13 hF_14 H locs hZ => ?_)
      have h_15 := zeq hF_14
      refine lv_iload_n hx hb dX1_digit_39 rfl (lv_at hl 0 rfl) ?_
      have hq_17 : sDig (sNext f z) u = (((sNext f z u.1) - 48), (u.1 + 1), u.2) := sDig_pos c_4 b_9
      have hq_16 : F_13 = va_up F k (oReader ad k z (sDig (sNext f z) u).2.1 (sDig (sNext f z) u).2.2) := by rw [hq_17]; exact hF_14
      exact zireti hC hZ hr hlocks ⟨by rw [hq_17], hq_16⟩ dX1_digit_40
    · rw [if_neg b_9] at hp_8
      subst hp_8
      refine lv_if_ne (tgt := 21) hx hb dX1_digit_11 (by decide) (fun h => absurd (by decide) h) (fun _ => ?_)
      refine lv_aload_n hx hb dX1_digit_14 rfl (lv_at hl 0 rfl) ?_
      refine lv_iconst (v := 1) hx hb dX1_digit_15 (by decide) ?_
      refine zput (E := oReader ad k z u.1 1) hC hZ pX1_22 (by omega) hFk rfl rfl rfl (Nat.le_of_ble_eq_true rfl) dX1_digit_16 (fun F_18 hF_19 H locs hZ => ?_)
      have h_20 := zeq hF_19
      refine lv_iconst (v := 0) hx hb dX1_digit_19 (by decide) ?_
      have hq_22 : sDig (sNext f z) u = (0, u.1, 1) := sDig_neg (q := u) (fun h => b_9 h.2)
      have hq_21 : F_18 = va_up F k (oReader ad k z (sDig (sNext f z) u).2.1 (sDig (sNext f z) u).2.2) := by rw [hq_22]; exact hF_19
      exact zireti hC hZ hr hlocks ⟨by rw [hq_22], hq_21⟩ dX1_digit_20

theorem mX1_number : zMd yX1_number cX1_number 3 (some .int) 0 := ⟨by decide +kernel, gt_of 325 (by decide +kernel) rfl, gt_of 50 (by decide +kernel) rfl, by decide⟩
theorem dX1_number_0 : decode cX1_number 0 = .ok (.aload_n 0, 1) := by decide +kernel
theorem dX1_number_1 : decode cX1_number 1 = .ok (.invokevirtual 58, 3) := by decide +kernel
theorem kX1_58 : zLk RX1 58 yX1_digit := Or.inl (gt_of 326 (by decide +kernel) rfl)
theorem vX1_digit : zMi yX1_digit := ⟨gt_of 328 (by decide +kernel) rfl, gt_of 7 (by decide +kernel) rfl⟩
theorem dX1_number_4 : decode cX1_number 4 = .ok (.istore_n 1, 1) := by decide +kernel
theorem dX1_number_5 : decode cX1_number 5 = .ok (.iconst 1, 1) := by decide +kernel
theorem dX1_number_6 : decode cX1_number 6 = .ok (.istore_n 2, 1) := by decide +kernel
theorem dX1_number_7 : decode cX1_number 7 = .ok (.iload_n 2, 1) := by decide +kernel
theorem dX1_number_8 : decode cX1_number 8 = .ok (.iconst 3, 1) := by decide +kernel
theorem dX1_number_9 : decode cX1_number 9 = .ok (.if_icmp .ge 37, 3) := by decide +kernel
theorem dX1_number_12 : decode cX1_number 12 = .ok (.aload_n 0, 1) := by decide +kernel
theorem dX1_number_13 : decode cX1_number 13 = .ok (.getfield 22, 3) := by decide +kernel
theorem dX1_number_16 : decode cX1_number 16 = .ok (.ifCond .ne 30, 3) := by decide +kernel
theorem dX1_number_46 : decode cX1_number 46 = .ok (.iload_n 1, 1) := by decide +kernel
theorem dX1_number_47 : decode cX1_number 47 = .ok (.ireturn, 1) := by decide +kernel
theorem dX1_number_19 : decode cX1_number 19 = .ok (.iload_n 1, 1) := by decide +kernel
theorem dX1_number_20 : decode cX1_number 20 = .ok (.ifCond .le 26, 3) := by decide +kernel
theorem dX1_number_23 : decode cX1_number 23 = .ok (.aload_n 0, 1) := by decide +kernel
theorem dX1_number_24 : decode cX1_number 24 = .ok (.invokevirtual 70, 3) := by decide +kernel
theorem dX1_number_27 : decode cX1_number 27 = .ok (.ifCond .eq 19, 3) := by decide +kernel
theorem dX1_number_30 : decode cX1_number 30 = .ok (.bipush 10, 2) := by decide +kernel
theorem dX1_number_32 : decode cX1_number 32 = .ok (.iload_n 1, 1) := by decide +kernel
theorem dX1_number_33 : decode cX1_number 33 = .ok (.imul, 1) := by decide +kernel
theorem dX1_number_34 : decode cX1_number 34 = .ok (.aload_n 0, 1) := by decide +kernel
theorem dX1_number_35 : decode cX1_number 35 = .ok (.invokevirtual 58, 3) := by decide +kernel
theorem dX1_number_38 : decode cX1_number 38 = .ok (.iadd, 1) := by decide +kernel
theorem dX1_number_39 : decode cX1_number 39 = .ok (.istore_n 1, 1) := by decide +kernel
theorem dX1_number_40 : decode cX1_number 40 = .ok (.iinc 2 1, 3) := by decide +kernel
theorem dX1_number_43 : decode cX1_number 43 = .ok (.goto (-36), 3) := by decide +kernel
set_option maxRecDepth 100000 in
theorem c_X1_number (l : Launch) (D : va_G) (cy : Nat → Nat) (n : Nat) (ad : Nat → Nat) (F : Nat → va_E) (sz : Nat) (k : Nat) (f : Nat → Int32) (z : Int32) (u : Int32 × Int32) (hk : k + 2 ≤ n) (hFk : F k = oReader ad k z u.1 u.2) (hFt : F (k + 1) = oInts cy 100 f) : Met l yX1_number (zw yX1_number cX1_number 3 (some .int)) (rmL 3) (zPc D cy n ad F sz [.ref (ad k)]) (va_Qi (fun r F1 => r = (sNum (sNext f z) u).1 ∧ F1 = va_up F k (oReader ad k z (sNum (sNext f z) u).2.1 (sNum (sNext f z) u).2.2)) (zB D n ad) (zA n ad sz)) 0 0 (zA n ad sz) := by
  refine zmet (by decide +kernel) (Nat.le_of_ble_eq_true rfl) (fun p e s m args below meth c ls hC hsz hZ hA hr hlocks hnm hl => ?_)
  have hC : zC p m c cX1_number 3 s args RX1 D cy := hC
  have hx := hC.1.1
  have hb := hC.1.2.1
  have hl : lv_has ls 3 [(0, .ref (ad k))] := hl
  refine lv_aload_n hx hb dX1_number_0 rfl (lv_at hl 0 rfl) ?_
  refine zgoi hZ hA (zrunV (As := []) (rest := []) (k := k) hC hZ (c_X1_digit l D cy n ad F s.heap.size k f z u hk hFk hFt) mX1_digit vX1_digit kX1_58 (zRj_of rfl) (by omega) hFk rfl rfl hl.1 rfl (Nat.le_of_ble_eq_true rfl) dX1_number_1 ⟨Nat.le_refl _, Nat.le_refl _⟩) (fun r_2 F_1 hp_3 H locs hZ => ?_)
  obtain ⟨y_4, hy_4⟩ : ∃ y, y = (sDig (sNext f z) u) := ⟨_, rfl⟩
  rw [← hy_4] at hp_3
  obtain ⟨rfl, h_5⟩ := hp_3
  have h_6 := zeq h_5
  refine lv_istore_n (lv' := [(1, .int y_4.1), (0, .ref (ad k))]) hx hb dX1_number_4 rfl hl (by decide) rfl (fun ls hl => ?_)
  refine lv_iconst (v := 1) hx hb dX1_number_5 (by decide) ?_
  refine lv_istore_n (lv' := [(2, .int 1), (1, .int y_4.1), (0, .ref (ad k))]) hx hb dX1_number_6 rfl hl (by decide) rfl (fun ls hl => ?_)
  refine lv_iload_n hx hb dX1_number_7 rfl (lv_at hl 0 rfl) ?_
  refine lv_iconst (v := 3) hx hb dX1_number_8 (by decide) ?_
  refine lv_icmp_ge (tgt := 46) hx hb dX1_number_9 (by decide) (fun h => absurd h (by decide)) (fun _ => ?_)
  refine lv_aload_n hx hb dX1_number_12 rfl (lv_at hl 2 rfl) ?_
  refine zget hC hZ fX1_22 (by omega) h_6 rfl dX1_number_13 ?_
  refine lv_if_ne (tgt := 46) hx hb dX1_number_16 (by decide) (fun c_16 => ?_) (fun c_16 => ?_)
  · refine lv_iload_n hx hb dX1_number_46 rfl (lv_at hl 1 rfl) ?_
    have e0 : sMore (sNext f z) y_4 = y_4 := sMore_neg (fun h => c_16 h.1)
    have e1 : sMore (sNext f z) y_4 = y_4 := sMore_neg (fun h => c_16 h.1)
    have hq_7 : sNum (sNext f z) u = (y_4.1, y_4.2.1, y_4.2.2) := by unfold sNum; rw [← hy_4, e0, e1]
    have hq_8 : F_1 = va_up F k (oReader ad k z (sNum (sNext f z) u).2.1 (sNum (sNext f z) u).2.2) := by rw [hq_7, h_5]
    exact zireti hC hZ hr hlocks ⟨by rw [hq_7], hq_8⟩ dX1_number_47
  · refine lv_iload_n hx hb dX1_number_19 rfl (lv_at hl 1 rfl) ?_
    refine lv_if_le (tgt := 46) hx hb dX1_number_20 (by decide) (fun c_20 => ?_) (fun c_20 => ?_)
    · refine lv_iload_n hx hb dX1_number_46 rfl (lv_at hl 1 rfl) ?_
      have e0 : sMore (sNext f z) y_4 = y_4 := sMore_neg (fun h => absurd c_20 (Int32.not_le.mpr h.2.1))
      have e1 : sMore (sNext f z) y_4 = y_4 := sMore_neg (fun h => absurd c_20 (Int32.not_le.mpr h.2.1))
      have hq_9 : sNum (sNext f z) u = (y_4.1, y_4.2.1, y_4.2.2) := by unfold sNum; rw [← hy_4, e0, e1]
      have hq_10 : F_1 = va_up F k (oReader ad k z (sNum (sNext f z) u).2.1 (sNum (sNext f z) u).2.2) := by rw [hq_9, h_5]
      exact zireti hC hZ hr hlocks ⟨by rw [hq_9], hq_10⟩ dX1_number_47
    · refine lv_aload_n hx hb dX1_number_23 rfl (lv_at hl 2 rfl) ?_
      refine zgoi hZ hA (zrunV (As := []) (rest := []) (k := k) hC hZ (c_X1_isAtDigit l D cy n ad F_1 H.size k f z y_4.2 hk h_6 (zne h_5 (by omega) hFt)) mX1_isAtDigit vX1_isAtDigit kX1_70 (zRj_of rfl) (by omega) h_6 rfl rfl hl.1 rfl (Nat.le_of_ble_eq_true rfl) dX1_number_24 ⟨Nat.le_refl _, Nat.le_refl _⟩) (fun r_12 F_11 hp_13 H locs hZ => ?_)
      obtain ⟨hp_13, rfl⟩ := hp_13
      by_cases b_14 : bDig (sNext f z) y_4.2.1
      · rw [if_pos b_14] at hp_13
        subst hp_13
        refine lv_if_eq (tgt := 46) hx hb dX1_number_27 (by decide) (fun h => absurd h (by decide)) (fun _ => ?_)
        refine lv_bipush (v := 10) hx hb dX1_number_30 (by decide) ?_
        refine lv_iload_n hx hb dX1_number_32 rfl (lv_at hl 1 rfl) ?_
        refine lv_imul hx hb dX1_number_33 ?_
        refine lv_aload_n hx hb dX1_number_34 rfl (lv_at hl 2 rfl) ?_
        refine zgoi hZ hA (zrunV (As := []) (rest := [.int (10 * y_4.1)]) (k := k) hC hZ (c_X1_digit l D cy n ad F_1 H.size k f z y_4.2 hk h_6 (zne h_5 (by omega) hFt)) mX1_digit vX1_digit kX1_58 (zRj_of rfl) (by omega) h_6 rfl rfl hl.1 rfl (Nat.le_of_ble_eq_true rfl) dX1_number_35 ⟨Nat.le_refl _, Nat.le_refl _⟩) (fun r_16 F_15 hp_17 H locs hZ => ?_)
        obtain ⟨y_18, hy_18⟩ : ∃ y, y = (sDig (sNext f z) y_4.2) := ⟨_, rfl⟩
        rw [← hy_18] at hp_17
        obtain ⟨rfl, h_19⟩ := hp_17
        have h_20 := zeq h_19
        refine lv_iadd hx hb dX1_number_38 ?_
        refine lv_istore_n (lv' := [(1, .int ((10 * y_4.1) + y_18.1)), (2, .int 1), (0, .ref (ad k))]) hx hb dX1_number_39 rfl hl (by decide) rfl (fun ls hl => ?_)
        refine lv_iinc (v := 2) (lv' := [(2, .int 2), (1, .int ((10 * y_4.1) + y_18.1)), (0, .ref (ad k))]) hx hb dX1_number_40 hl (k := 1) rfl (by decide) (by decide) rfl (fun ls hl => ?_)
        refine lv_goto (tgt := 7) hx hb dX1_number_43 (by decide) ?_
        refine lv_iload_n hx hb dX1_number_7 rfl (lv_at hl 0 rfl) ?_
        refine lv_iconst (v := 3) hx hb dX1_number_8 (by decide) ?_
        refine lv_icmp_ge (tgt := 46) hx hb dX1_number_9 (by decide) (fun h => absurd h (by decide)) (fun _ => ?_)
        refine lv_aload_n hx hb dX1_number_12 rfl (lv_at hl 2 rfl) ?_
        refine zget hC hZ fX1_22 (by omega) h_20 rfl dX1_number_13 ?_
        refine lv_if_ne (tgt := 46) hx hb dX1_number_16 (by decide) (fun c_16_21 => ?_) (fun c_16_21 => ?_)
        · refine lv_iload_n hx hb dX1_number_46 rfl (lv_at hl 1 rfl) ?_
          have e0 : sMore (sNext f z) y_4 = (10 * y_4.1 + y_18.1, y_18.2) := (sMore_pos (u := y_4) c_16 (Int32.not_le.mp c_20) b_14).trans (by rw [← hy_18])
          have e1 : sMore (sNext f z) (10 * y_4.1 + y_18.1, y_18.2) = (10 * y_4.1 + y_18.1, y_18.2) := sMore_neg (fun h => c_16_21 h.1)
          have hq_22 : sNum (sNext f z) u = (((10 * y_4.1) + y_18.1), y_18.2.1, y_18.2.2) := by unfold sNum; rw [← hy_4, e0, e1]
          have hq_23 : F_15 = va_up F k (oReader ad k z (sNum (sNext f z) u).2.1 (sNum (sNext f z) u).2.2) := by rw [hq_22, h_19, h_5]; simp only [bx_uu]
          exact zireti hC hZ hr hlocks ⟨by rw [hq_22], hq_23⟩ dX1_number_47
        · refine lv_iload_n hx hb dX1_number_19 rfl (lv_at hl 1 rfl) ?_
          refine lv_if_le (tgt := 46) hx hb dX1_number_20 (by decide) (fun c_20_24 => ?_) (fun c_20_24 => ?_)
          · refine lv_iload_n hx hb dX1_number_46 rfl (lv_at hl 1 rfl) ?_
            have e0 : sMore (sNext f z) y_4 = (10 * y_4.1 + y_18.1, y_18.2) := (sMore_pos (u := y_4) c_16 (Int32.not_le.mp c_20) b_14).trans (by rw [← hy_18])
            have e1 : sMore (sNext f z) (10 * y_4.1 + y_18.1, y_18.2) = (10 * y_4.1 + y_18.1, y_18.2) := sMore_neg (fun h => absurd c_20_24 (Int32.not_le.mpr h.2.1))
            have hq_25 : sNum (sNext f z) u = (((10 * y_4.1) + y_18.1), y_18.2.1, y_18.2.2) := by unfold sNum; rw [← hy_4, e0, e1]
            have hq_26 : F_15 = va_up F k (oReader ad k z (sNum (sNext f z) u).2.1 (sNum (sNext f z) u).2.2) := by rw [hq_25, h_19, h_5]; simp only [bx_uu]
            exact zireti hC hZ hr hlocks ⟨by rw [hq_25], hq_26⟩ dX1_number_47
          · refine lv_aload_n hx hb dX1_number_23 rfl (lv_at hl 2 rfl) ?_
            refine zgoi hZ hA (zrunV (As := []) (rest := []) (k := k) hC hZ (c_X1_isAtDigit l D cy n ad F_15 H.size k f z y_18.2 hk h_20 (zne h_19 (by omega) (zne h_5 (by omega) hFt))) mX1_isAtDigit vX1_isAtDigit kX1_70 (zRj_of rfl) (by omega) h_20 rfl rfl hl.1 rfl (Nat.le_of_ble_eq_true rfl) dX1_number_24 ⟨Nat.le_refl _, Nat.le_refl _⟩) (fun r_28 F_27 hp_29 H locs hZ => ?_)
            obtain ⟨hp_29, rfl⟩ := hp_29
            by_cases b_30 : bDig (sNext f z) y_18.2.1
            · rw [if_pos b_30] at hp_29
              subst hp_29
              refine lv_if_eq (tgt := 46) hx hb dX1_number_27 (by decide) (fun h => absurd h (by decide)) (fun _ => ?_)
              refine lv_bipush (v := 10) hx hb dX1_number_30 (by decide) ?_
              refine lv_iload_n hx hb dX1_number_32 rfl (lv_at hl 1 rfl) ?_
              refine lv_imul hx hb dX1_number_33 ?_
              refine lv_aload_n hx hb dX1_number_34 rfl (lv_at hl 2 rfl) ?_
              refine zgoi hZ hA (zrunV (As := []) (rest := [.int (10 * ((10 * y_4.1) + y_18.1))]) (k := k) hC hZ (c_X1_digit l D cy n ad F_15 H.size k f z y_18.2 hk h_20 (zne h_19 (by omega) (zne h_5 (by omega) hFt))) mX1_digit vX1_digit kX1_58 (zRj_of rfl) (by omega) h_20 rfl rfl hl.1 rfl (Nat.le_of_ble_eq_true rfl) dX1_number_35 ⟨Nat.le_refl _, Nat.le_refl _⟩) (fun r_32 F_31 hp_33 H locs hZ => ?_)
              obtain ⟨y_34, hy_34⟩ : ∃ y, y = (sDig (sNext f z) y_18.2) := ⟨_, rfl⟩
              rw [← hy_34] at hp_33
              obtain ⟨rfl, h_35⟩ := hp_33
              have h_36 := zeq h_35
              refine lv_iadd hx hb dX1_number_38 ?_
              refine lv_istore_n (lv' := [(1, .int ((10 * ((10 * y_4.1) + y_18.1)) + y_34.1)), (2, .int 2), (0, .ref (ad k))]) hx hb dX1_number_39 rfl hl (by decide) rfl (fun ls hl => ?_)
              refine lv_iinc (v := 3) (lv' := [(2, .int 3), (1, .int ((10 * ((10 * y_4.1) + y_18.1)) + y_34.1)), (0, .ref (ad k))]) hx hb dX1_number_40 hl (k := 1) rfl (by decide) (by decide) rfl (fun ls hl => ?_)
              refine lv_goto (tgt := 7) hx hb dX1_number_43 (by decide) ?_
              refine lv_iload_n hx hb dX1_number_7 rfl (lv_at hl 0 rfl) ?_
              refine lv_iconst (v := 3) hx hb dX1_number_8 (by decide) ?_
              refine lv_icmp_ge (tgt := 46) hx hb dX1_number_9 (by decide) (fun _ => ?_) (fun h => absurd (by decide) h)
              refine lv_iload_n hx hb dX1_number_46 rfl (lv_at hl 1 rfl) ?_
              have e0 : sMore (sNext f z) y_4 = (10 * y_4.1 + y_18.1, y_18.2) := (sMore_pos (u := y_4) c_16 (Int32.not_le.mp c_20) b_14).trans (by rw [← hy_18])
              have e1 : sMore (sNext f z) (10 * y_4.1 + y_18.1, y_18.2) = (10 * (10 * y_4.1 + y_18.1) + y_34.1, y_34.2) := (sMore_pos (u := (10 * y_4.1 + y_18.1, y_18.2)) c_16_21 (Int32.not_le.mp c_20_24) b_30).trans (by rw [← hy_34])
              have hq_37 : sNum (sNext f z) u = (((10 * ((10 * y_4.1) + y_18.1)) + y_34.1), y_34.2.1, y_34.2.2) := by unfold sNum; rw [← hy_4, e0, e1]
              have hq_38 : F_31 = va_up F k (oReader ad k z (sNum (sNext f z) u).2.1 (sNum (sNext f z) u).2.2) := by rw [hq_37, h_35, h_19, h_5]; simp only [bx_uu]
              exact zireti hC hZ hr hlocks ⟨by rw [hq_37], hq_38⟩ dX1_number_47
            · rw [if_neg b_30] at hp_29
              subst hp_29
              refine lv_if_eq (tgt := 46) hx hb dX1_number_27 (by decide) (fun _ => ?_) (fun h => absurd (by decide) h)
              refine lv_iload_n hx hb dX1_number_46 rfl (lv_at hl 1 rfl) ?_
              have e0 : sMore (sNext f z) y_4 = (10 * y_4.1 + y_18.1, y_18.2) := (sMore_pos (u := y_4) c_16 (Int32.not_le.mp c_20) b_14).trans (by rw [← hy_18])
              have e1 : sMore (sNext f z) (10 * y_4.1 + y_18.1, y_18.2) = (10 * y_4.1 + y_18.1, y_18.2) := sMore_neg (fun h => b_30 h.2.2)
              have hq_39 : sNum (sNext f z) u = (((10 * y_4.1) + y_18.1), y_18.2.1, y_18.2.2) := by unfold sNum; rw [← hy_4, e0, e1]
              have hq_40 : F_15 = va_up F k (oReader ad k z (sNum (sNext f z) u).2.1 (sNum (sNext f z) u).2.2) := by rw [hq_39, h_19, h_5]; simp only [bx_uu]
              exact zireti hC hZ hr hlocks ⟨by rw [hq_39], hq_40⟩ dX1_number_47
      · rw [if_neg b_14] at hp_13
        subst hp_13
        refine lv_if_eq (tgt := 46) hx hb dX1_number_27 (by decide) (fun _ => ?_) (fun h => absurd (by decide) h)
        refine lv_iload_n hx hb dX1_number_46 rfl (lv_at hl 1 rfl) ?_
        have e0 : sMore (sNext f z) y_4 = y_4 := sMore_neg (fun h => b_14 h.2.2)
        have e1 : sMore (sNext f z) y_4 = y_4 := sMore_neg (fun h => b_14 h.2.2)
        have hq_41 : sNum (sNext f z) u = (y_4.1, y_4.2.1, y_4.2.2) := by unfold sNum; rw [← hy_4, e0, e1]
        have hq_42 : F_1 = va_up F k (oReader ad k z (sNum (sNext f z) u).2.1 (sNum (sNext f z) u).2.2) := by rw [hq_41, h_5]
        exact zireti hC hZ hr hlocks ⟨by rw [hq_41], hq_42⟩ dX1_number_47

theorem mX1_readStatement : zMd yX1_readStatement cX1_readStatement 3 none 2 := ⟨by decide +kernel, gt_of 309 (by decide +kernel) rfl, gt_of 50 (by decide +kernel) rfl, by decide⟩
theorem dX1_readStatement_0 : decode cX1_readStatement 0 = .ok (.aload_n 0, 1) := by decide +kernel
theorem dX1_readStatement_1 : decode cX1_readStatement 1 = .ok (.bipush 114, 2) := by decide +kernel
theorem dX1_readStatement_3 : decode cX1_readStatement 3 = .ok (.invokevirtual 38, 3) := by decide +kernel
theorem kX1_38 : zLk RX1 38 yX1_need := Or.inl (gt_of 310 (by decide +kernel) rfl)
theorem vX1_need : zMi yX1_need := ⟨gt_of 312 (by decide +kernel) rfl, gt_of 3 (by decide +kernel) rfl⟩
theorem dX1_readStatement_6 : decode cX1_readStatement 6 = .ok (.aload_n 2, 1) := by decide +kernel
theorem dX1_readStatement_7 : decode cX1_readStatement 7 = .ok (.aload_n 0, 1) := by decide +kernel
theorem dX1_readStatement_8 : decode cX1_readStatement 8 = .ok (.invokevirtual 42, 3) := by decide +kernel
theorem kX1_42 : zLk RX1 42 yX1_number := Or.inl (gt_of 322 (by decide +kernel) rfl)
theorem vX1_number : zMi yX1_number := ⟨gt_of 324 (by decide +kernel) rfl, gt_of 6 (by decide +kernel) rfl⟩
theorem dX1_readStatement_11 : decode cX1_readStatement 11 = .ok (.putfield 46, 3) := by decide +kernel
theorem pX1_46 : zFldP RX1 46 3 0 false .int := ⟨RX3, TX3, 4, tyX3, rfl, inX3, by decide, rfl, Or.inr ⟨rfl, "ChainLeap", List.mem_of_getElem? (i := 82) (by decide +kernel)⟩, tyX3_ok, nmX3, rfl, by decide +kernel, fun h => by cases h⟩
theorem dX1_readStatement_35 : decode cX1_readStatement 35 = .ok (.putfield 55, 3) := by decide +kernel
theorem pX1_55 : zFldP RX1 55 3 1 false .int := ⟨RX3, TX3, 4, tyX3, rfl, inX3, by decide, rfl, Or.inr ⟨rfl, "ChainLeap", List.mem_of_getElem? (i := 86) (by decide +kernel)⟩, tyX3_ok, nmX3, rfl, by decide +kernel, fun h => by cases h⟩
theorem dX1_readStatement_59 : decode cX1_readStatement 59 = .ok (.putfield 61, 3) := by decide +kernel
theorem pX1_61 : zFldP RX1 61 3 2 false .int := ⟨RX3, TX3, 4, tyX3, rfl, inX3, by decide, rfl, Or.inr ⟨rfl, "ChainLeap", List.mem_of_getElem? (i := 89) (by decide +kernel)⟩, tyX3_ok, nmX3, rfl, by decide +kernel, fun h => by cases h⟩
theorem dX1_readStatement_83 : decode cX1_readStatement 83 = .ok (.putfield 64, 3) := by decide +kernel
theorem pX1_64 : zFldP RX1 64 3 3 false .int := ⟨RX3, TX3, 4, tyX3, rfl, inX3, by decide, rfl, Or.inr ⟨rfl, "ChainLeap", List.mem_of_getElem? (i := 93) (by decide +kernel)⟩, tyX3_ok, nmX3, rfl, by decide +kernel, fun h => by cases h⟩
theorem dX1_readStatement_86 : decode cX1_readStatement 86 = .ok (.aload_n 0, 1) := by decide +kernel
theorem dX1_readStatement_87 : decode cX1_readStatement 87 = .ok (.bipush 59, 2) := by decide +kernel
theorem dX1_readStatement_89 : decode cX1_readStatement 89 = .ok (.invokevirtual 38, 3) := by decide +kernel
theorem dX1_readStatement_92 : decode cX1_readStatement 92 = .ok (.return_, 1) := by decide +kernel
theorem dX1_readStatement_62 : decode cX1_readStatement 62 = .ok (.aload_n 2, 1) := by decide +kernel
theorem dX1_readStatement_63 : decode cX1_readStatement 63 = .ok (.aload_n 0, 1) := by decide +kernel
theorem dX1_readStatement_64 : decode cX1_readStatement 64 = .ok (.bipush 100, 2) := by decide +kernel
theorem dX1_readStatement_66 : decode cX1_readStatement 66 = .ok (.invokevirtual 51, 3) := by decide +kernel
theorem dX1_readStatement_69 : decode cX1_readStatement 69 = .ok (.ifCond .eq 10, 3) := by decide +kernel
theorem dX1_readStatement_72 : decode cX1_readStatement 72 = .ok (.aload_n 0, 1) := by decide +kernel
theorem dX1_readStatement_73 : decode cX1_readStatement 73 = .ok (.invokevirtual 42, 3) := by decide +kernel
theorem dX1_readStatement_76 : decode cX1_readStatement 76 = .ok (.goto 7, 3) := by decide +kernel
theorem dX1_readStatement_79 : decode cX1_readStatement 79 = .ok (.aload_n 1, 1) := by decide +kernel
theorem dX1_readStatement_80 : decode cX1_readStatement 80 = .ok (.getfield 64, 3) := by decide +kernel
theorem fX1_64 : zFld RX1 64 3 3 := ⟨RX3, TX3, 4, rfl, inX3, by decide, rfl, Or.inr ⟨"ChainLeap", List.mem_of_getElem? (i := 93) (by decide +kernel)⟩⟩
theorem dX1_readStatement_38 : decode cX1_readStatement 38 = .ok (.aload_n 2, 1) := by decide +kernel
theorem dX1_readStatement_39 : decode cX1_readStatement 39 = .ok (.aload_n 0, 1) := by decide +kernel
theorem dX1_readStatement_40 : decode cX1_readStatement 40 = .ok (.bipush 108, 2) := by decide +kernel
theorem dX1_readStatement_42 : decode cX1_readStatement 42 = .ok (.invokevirtual 51, 3) := by decide +kernel
theorem dX1_readStatement_45 : decode cX1_readStatement 45 = .ok (.ifCond .eq 10, 3) := by decide +kernel
theorem dX1_readStatement_48 : decode cX1_readStatement 48 = .ok (.aload_n 0, 1) := by decide +kernel
theorem dX1_readStatement_49 : decode cX1_readStatement 49 = .ok (.invokevirtual 58, 3) := by decide +kernel
theorem dX1_readStatement_52 : decode cX1_readStatement 52 = .ok (.goto 7, 3) := by decide +kernel
theorem dX1_readStatement_55 : decode cX1_readStatement 55 = .ok (.aload_n 1, 1) := by decide +kernel
theorem dX1_readStatement_56 : decode cX1_readStatement 56 = .ok (.getfield 61, 3) := by decide +kernel
theorem fX1_61 : zFld RX1 61 3 2 := ⟨RX3, TX3, 4, rfl, inX3, by decide, rfl, Or.inr ⟨"ChainLeap", List.mem_of_getElem? (i := 89) (by decide +kernel)⟩⟩
theorem dX1_readStatement_14 : decode cX1_readStatement 14 = .ok (.aload_n 2, 1) := by decide +kernel
theorem dX1_readStatement_15 : decode cX1_readStatement 15 = .ok (.aload_n 0, 1) := by decide +kernel
theorem dX1_readStatement_16 : decode cX1_readStatement 16 = .ok (.bipush 98, 2) := by decide +kernel
theorem dX1_readStatement_18 : decode cX1_readStatement 18 = .ok (.invokevirtual 51, 3) := by decide +kernel
theorem dX1_readStatement_21 : decode cX1_readStatement 21 = .ok (.ifCond .eq 10, 3) := by decide +kernel
theorem dX1_readStatement_24 : decode cX1_readStatement 24 = .ok (.aload_n 0, 1) := by decide +kernel
theorem dX1_readStatement_25 : decode cX1_readStatement 25 = .ok (.invokevirtual 42, 3) := by decide +kernel
theorem dX1_readStatement_28 : decode cX1_readStatement 28 = .ok (.goto 7, 3) := by decide +kernel
theorem dX1_readStatement_31 : decode cX1_readStatement 31 = .ok (.aload_n 1, 1) := by decide +kernel
theorem dX1_readStatement_32 : decode cX1_readStatement 32 = .ok (.getfield 55, 3) := by decide +kernel
theorem fX1_55 : zFld RX1 55 3 1 := ⟨RX3, TX3, 4, rfl, inX3, by decide, rfl, Or.inr ⟨"ChainLeap", List.mem_of_getElem? (i := 86) (by decide +kernel)⟩⟩
set_option maxRecDepth 100000 in
theorem c_X1_readStatement (l : Launch) (D : va_G) (cy : Nat → Nat) (n : Nat) (ad : Nat → Nat) (F : Nat → va_E) (sz : Nat) (k : Nat) (f : Nat → Int32) (z : Int32) (u : Int32 × Int32) (hk : k + 2 ≤ n) (hFk : F k = oReader ad k z u.1 u.2) (hFt : F (k + 1) = oInts cy 100 f) (i : Nat) (t0 : Stg) (hi : i < n) (hFi : F i = oSetting t0) (j : Nat) (t1 : Stg) (hj : j < n) (hFj : F j = oSetting t1) (hkj : j ≠ k) (hkj1 : j ≠ k + 1) (hik : i ≠ k) (hij : i ≠ j) : Met l yX1_readStatement (zw yX1_readStatement cX1_readStatement 3 none) (rmL 4) (zPc D cy n ad F sz [.ref (ad k), .ref (ad i), .ref (ad j)]) (va_Qv (fun F1 => F1 k = oReader ad k z (sStm (sNext f z) t0 u).2.1 (sStm (sNext f z) t0 u).2.2 ∧ F1 j = oSetting (sStm (sNext f z) t0 u).1 ∧ ∀ p, p ≠ k → p ≠ j → F1 p = F p) (zB D n ad) (zA n ad sz)) 0 0 (zA n ad sz) := by
  refine zmet (by decide +kernel) (Nat.le_of_ble_eq_true rfl) (fun p e s m args below meth c ls hC hsz hZ hA hr hlocks hnm hl => ?_)
  have hC : zC p m c cX1_readStatement 3 s args RX1 D cy := hC
  have hx := hC.1.1
  have hb := hC.1.2.1
  have hl : lv_has ls 3 [(0, .ref (ad k)), (1, .ref (ad i)), (2, .ref (ad j))] := hl
  refine lv_aload_n hx hb dX1_readStatement_0 rfl (lv_at hl 0 rfl) ?_
  refine lv_bipush (v := 114) hx hb dX1_readStatement_1 (by decide) ?_
  refine zgov hZ hA (zrunV (As := [.int 114]) (rest := []) (k := k) hC hZ (c_X1_need l D cy n ad F s.heap.size k f z u hk hFk hFt 114) mX1_need vX1_need kX1_38 (zRj_of rfl) (by omega) hFk rfl rfl hl.1 rfl (Nat.le_of_ble_eq_true rfl) dX1_readStatement_3 ⟨Nat.le_refl _, Nat.le_refl _⟩) (fun F_1 hp_3 H locs hZ => ?_)
  obtain ⟨y_4, hy_4⟩ : ∃ y, y = (sNeed (sNext f z) 114 u) := ⟨_, rfl⟩
  rw [← hy_4] at hp_3
  have h_5 := zeq hp_3
  refine lv_aload_n hx hb dX1_readStatement_6 rfl (lv_at hl 2 rfl) ?_
  refine lv_aload_n hx hb dX1_readStatement_7 rfl (lv_at hl 0 rfl) ?_
  refine zgoi hZ hA (zrunV (As := []) (rest := [.ref (ad j)]) (k := k) hC hZ (c_X1_number l D cy n ad F_1 H.size k f z y_4 hk h_5 (zne hp_3 (by omega) hFt)) mX1_number vX1_number kX1_42 (zRj_of rfl) (by omega) h_5 rfl rfl hl.1 rfl (Nat.le_of_ble_eq_true rfl) dX1_readStatement_8 ⟨Nat.le_refl _, Nat.le_refl _⟩) (fun r_7 F_6 hp_8 H locs hZ => ?_)
  obtain ⟨y_9, hy_9⟩ : ∃ y, y = (sNum (sNext f z) y_4) := ⟨_, rfl⟩
  rw [← hy_9] at hp_8
  obtain ⟨rfl, h_10⟩ := hp_8
  have h_11 := zeq h_10
  refine zput (E := oSetting (y_9.1, t1.2.1, t1.2.2.1, t1.2.2.2)) hC hZ pX1_46 hj (zne h_10 hkj (zne hp_3 hkj hFj)) rfl rfl rfl (Nat.le_of_ble_eq_true rfl) dX1_readStatement_11 (fun F_12 hF_13 H locs hZ => ?_)
  have h_14 := zeq hF_13
  refine zjn (D := D) (A := zA n ad sz) (H0 := s.heap) (n := n) (ad := ad) (X := Int32 × Int32 × Int32) 35 (fun x => [.int x.1, .ref (ad j)]) (fun x ls F1 => lv_has ls 3 [(0, .ref (ad k)), (1, .ref (ad i)), (2, .ref (ad j))] ∧ x = sOpt (sNext f z) 98 true t0.2.1 y_9.2 ∧ F1 k = oReader ad k z x.2.1 x.2.2 ∧ F1 j = oSetting (y_9.1, t1.2.1, t1.2.2.1, t1.2.2.2) ∧ ∀ p, p ≠ k → p ≠ j → F1 p = F p) ?_ ?_
  · intro x0 ls F5 H locs hZ hφ
    obtain ⟨hl, hx0, hk0, hj0, hfr0⟩ := hφ
    refine zput (E := oSetting (y_9.1, x0.1, t1.2.2.1, t1.2.2.2)) hC hZ pX1_55 hj hj0 rfl rfl rfl (Nat.le_of_ble_eq_true rfl) dX1_readStatement_35 (fun F_15 hF_16 H locs hZ => ?_)
    have h_17 := zeq hF_16
    refine zjn (D := D) (A := zA n ad sz) (H0 := s.heap) (n := n) (ad := ad) (X := Int32 × Int32 × Int32) 59 (fun x => [.int x.1, .ref (ad j)]) (fun x ls F1 => lv_has ls 3 [(0, .ref (ad k)), (1, .ref (ad i)), (2, .ref (ad j))] ∧ x = sOpt (sNext f z) 108 false t0.2.2.1 x0.2 ∧ F1 k = oReader ad k z x.2.1 x.2.2 ∧ F1 j = oSetting (y_9.1, x0.1, t1.2.2.1, t1.2.2.2) ∧ ∀ p, p ≠ k → p ≠ j → F1 p = F p) ?_ ?_
    · intro x1 ls F6 H locs hZ hφ
      obtain ⟨hl, hx1, hk1, hj1, hfr1⟩ := hφ
      refine zput (E := oSetting (y_9.1, x0.1, x1.1, t1.2.2.2)) hC hZ pX1_61 hj hj1 rfl rfl rfl (Nat.le_of_ble_eq_true rfl) dX1_readStatement_59 (fun F_18 hF_19 H locs hZ => ?_)
      have h_20 := zeq hF_19
      refine zjn (D := D) (A := zA n ad sz) (H0 := s.heap) (n := n) (ad := ad) (X := Int32 × Int32 × Int32) 83 (fun x => [.int x.1, .ref (ad j)]) (fun x ls F1 => lv_has ls 3 [(0, .ref (ad k)), (1, .ref (ad i)), (2, .ref (ad j))] ∧ x = sOpt (sNext f z) 100 true t0.2.2.2 x1.2 ∧ F1 k = oReader ad k z x.2.1 x.2.2 ∧ F1 j = oSetting (y_9.1, x0.1, x1.1, t1.2.2.2) ∧ ∀ p, p ≠ k → p ≠ j → F1 p = F p) ?_ ?_
      · intro x2 ls F7 H locs hZ hφ
        obtain ⟨hl, hx2, hk2, hj2, hfr2⟩ := hφ
        refine zput (E := oSetting (y_9.1, x0.1, x1.1, x2.1)) hC hZ pX1_64 hj hj2 rfl rfl rfl (Nat.le_of_ble_eq_true rfl) dX1_readStatement_83 (fun F_21 hF_22 H locs hZ => ?_)
        have h_23 := zeq hF_22
        refine lv_aload_n hx hb dX1_readStatement_86 rfl (lv_at hl 0 rfl) ?_
        refine lv_bipush (v := 59) hx hb dX1_readStatement_87 (by decide) ?_
        refine zgov hZ hA (zrunV (As := [.int 59]) (rest := []) (k := k) hC hZ (c_X1_need l D cy n ad F_21 H.size k f z x2.2 hk (zne hF_22 (fun h => hkj h.symm) hk2) (zne hF_22 (fun h => hkj1 h.symm) ((hfr2 _ (by omega) (by omega)).trans hFt)) 59) mX1_need vX1_need kX1_38 (zRj_of rfl) (by omega) (zne hF_22 (fun h => hkj h.symm) hk2) rfl rfl hl.1 rfl (Nat.le_of_ble_eq_true rfl) dX1_readStatement_89 ⟨Nat.le_refl _, Nat.le_refl _⟩) (fun F_24 hp_26 H locs hZ => ?_)
        obtain ⟨y_27, hy_27⟩ : ∃ y, y = (sNeed (sNext f z) 59 x2.2) := ⟨_, rfl⟩
        rw [← hy_27] at hp_26
        have h_28 := zeq hp_26
        have hq_29 : sStm (sNext f z) t0 u = ((y_9.1, x0.1, x1.1, x2.1), y_27) := by unfold sStm; dsimp only; rw [← hy_4, ← hy_9, ← hx0, ← hx1, ← hx2, ← hy_27]
        exact zvret hC hZ hr hlocks (by rw [hq_29]; exact ⟨h_28, (zne hp_26 hkj h_23), fun p h1 h2 => (znu hp_26 h1).trans ((znu hF_22 h2).trans (hfr2 p h1 h2))⟩) dX1_readStatement_92
      · intro hjoin
        refine lv_aload_n hx hb dX1_readStatement_62 rfl (lv_at hl 2 rfl) ?_
        refine lv_aload_n hx hb dX1_readStatement_63 rfl (lv_at hl 0 rfl) ?_
        refine lv_bipush (v := 100) hx hb dX1_readStatement_64 (by decide) ?_
        refine zgoi hZ hA (zrunV (As := [.int 100]) (rest := [.ref (ad j)]) (k := k) hC hZ (c_X1_accepts l D cy n ad F_18 H.size k f z x1.2 hk (zne hF_19 (fun h => hkj h.symm) hk1) (zne hF_19 (fun h => hkj1 h.symm) ((hfr1 _ (by omega) (by omega)).trans hFt)) 100) mX1_accepts vX1_accepts kX1_51 (zRj_of rfl) (by omega) (zne hF_19 (fun h => hkj h.symm) hk1) rfl rfl hl.1 rfl (Nat.le_of_ble_eq_true rfl) dX1_readStatement_66 ⟨Nat.le_refl _, Nat.le_refl _⟩) (fun r_31 F_30 hp_32 H locs hZ => ?_)
        obtain ⟨y_33, hy_33⟩ : ∃ y, y = (sAcc (sNext f z) 100 x1.2) := ⟨_, rfl⟩
        rw [← hy_33] at hp_32
        obtain ⟨h_34, h_35⟩ := hp_32
        have h_36 := zeq h_35
        by_cases b_37 : bAcc (sNext f z) 100 x1.2
        · rw [if_pos b_37] at h_34
          subst h_34
          refine lv_if_eq (tgt := 79) hx hb dX1_readStatement_69 (by decide) (fun h => absurd h (by decide)) (fun _ => ?_)
          refine lv_aload_n hx hb dX1_readStatement_72 rfl (lv_at hl 0 rfl) ?_
          refine zgoi hZ hA (zrunV (As := []) (rest := [.ref (ad j)]) (k := k) hC hZ (c_X1_number l D cy n ad F_30 H.size k f z y_33 hk h_36 (zne h_35 (by omega) (zne hF_19 (fun h => hkj1 h.symm) ((hfr1 _ (by omega) (by omega)).trans hFt)))) mX1_number vX1_number kX1_42 (zRj_of rfl) (by omega) h_36 rfl rfl hl.1 rfl (Nat.le_of_ble_eq_true rfl) dX1_readStatement_73 ⟨Nat.le_refl _, Nat.le_refl _⟩) (fun r_39 F_38 hp_40 H locs hZ => ?_)
          obtain ⟨y_41, hy_41⟩ : ∃ y, y = (sNum (sNext f z) y_33) := ⟨_, rfl⟩
          rw [← hy_41] at hp_40
          obtain ⟨rfl, h_42⟩ := hp_40
          have h_43 := zeq h_42
          refine lv_goto (tgt := 83) hx hb dX1_readStatement_76 (by decide) ?_
          exact hjoin (y_41.1, y_41.2.1, y_41.2.2) ls _ H locs hZ ⟨hl, by rw [sOpt_posN b_37, ← hy_33, ← hy_41], h_43, (zne h_42 hkj (zne h_35 hkj h_20)), fun p h1 h2 => (znu h_42 h1).trans ((znu h_35 h1).trans ((znu hF_19 h2).trans (hfr1 p h1 h2)))⟩
        · rw [if_neg b_37] at h_34
          subst h_34
          refine lv_if_eq (tgt := 79) hx hb dX1_readStatement_69 (by decide) (fun _ => ?_) (fun h => absurd (by decide) h)
          refine lv_aload_n hx hb dX1_readStatement_79 rfl (lv_at hl 1 rfl) ?_
          refine zget hC hZ fX1_64 hi (zne h_35 hik (zne hF_19 hij ((hfr1 _ hik hij).trans hFi))) rfl dX1_readStatement_80 ?_
          exact hjoin (t0.2.2.2, y_33.1, y_33.2) ls _ H locs hZ ⟨hl, by rw [sOpt_neg b_37, hy_33, sAcc_neg b_37], h_36, (zne h_35 hkj h_20), fun p h1 h2 => (znu h_35 h1).trans ((znu hF_19 h2).trans (hfr1 p h1 h2))⟩
    · intro hjoin
      refine lv_aload_n hx hb dX1_readStatement_38 rfl (lv_at hl 2 rfl) ?_
      refine lv_aload_n hx hb dX1_readStatement_39 rfl (lv_at hl 0 rfl) ?_
      refine lv_bipush (v := 108) hx hb dX1_readStatement_40 (by decide) ?_
      refine zgoi hZ hA (zrunV (As := [.int 108]) (rest := [.ref (ad j)]) (k := k) hC hZ (c_X1_accepts l D cy n ad F_15 H.size k f z x0.2 hk (zne hF_16 (fun h => hkj h.symm) hk0) (zne hF_16 (fun h => hkj1 h.symm) ((hfr0 _ (by omega) (by omega)).trans hFt)) 108) mX1_accepts vX1_accepts kX1_51 (zRj_of rfl) (by omega) (zne hF_16 (fun h => hkj h.symm) hk0) rfl rfl hl.1 rfl (Nat.le_of_ble_eq_true rfl) dX1_readStatement_42 ⟨Nat.le_refl _, Nat.le_refl _⟩) (fun r_45 F_44 hp_46 H locs hZ => ?_)
      obtain ⟨y_47, hy_47⟩ : ∃ y, y = (sAcc (sNext f z) 108 x0.2) := ⟨_, rfl⟩
      rw [← hy_47] at hp_46
      obtain ⟨h_48, h_49⟩ := hp_46
      have h_50 := zeq h_49
      by_cases b_51 : bAcc (sNext f z) 108 x0.2
      · rw [if_pos b_51] at h_48
        subst h_48
        refine lv_if_eq (tgt := 55) hx hb dX1_readStatement_45 (by decide) (fun h => absurd h (by decide)) (fun _ => ?_)
        refine lv_aload_n hx hb dX1_readStatement_48 rfl (lv_at hl 0 rfl) ?_
        refine zgoi hZ hA (zrunV (As := []) (rest := [.ref (ad j)]) (k := k) hC hZ (c_X1_digit l D cy n ad F_44 H.size k f z y_47 hk h_50 (zne h_49 (by omega) (zne hF_16 (fun h => hkj1 h.symm) ((hfr0 _ (by omega) (by omega)).trans hFt)))) mX1_digit vX1_digit kX1_58 (zRj_of rfl) (by omega) h_50 rfl rfl hl.1 rfl (Nat.le_of_ble_eq_true rfl) dX1_readStatement_49 ⟨Nat.le_refl _, Nat.le_refl _⟩) (fun r_53 F_52 hp_54 H locs hZ => ?_)
        obtain ⟨y_55, hy_55⟩ : ∃ y, y = (sDig (sNext f z) y_47) := ⟨_, rfl⟩
        rw [← hy_55] at hp_54
        obtain ⟨rfl, h_56⟩ := hp_54
        have h_57 := zeq h_56
        refine lv_goto (tgt := 59) hx hb dX1_readStatement_52 (by decide) ?_
        exact hjoin (y_55.1, y_55.2.1, y_55.2.2) ls _ H locs hZ ⟨hl, by rw [sOpt_posD b_51, ← hy_47, ← hy_55], h_57, (zne h_56 hkj (zne h_49 hkj h_17)), fun p h1 h2 => (znu h_56 h1).trans ((znu h_49 h1).trans ((znu hF_16 h2).trans (hfr0 p h1 h2)))⟩
      · rw [if_neg b_51] at h_48
        subst h_48
        refine lv_if_eq (tgt := 55) hx hb dX1_readStatement_45 (by decide) (fun _ => ?_) (fun h => absurd (by decide) h)
        refine lv_aload_n hx hb dX1_readStatement_55 rfl (lv_at hl 1 rfl) ?_
        refine zget hC hZ fX1_61 hi (zne h_49 hik (zne hF_16 hij ((hfr0 _ hik hij).trans hFi))) rfl dX1_readStatement_56 ?_
        exact hjoin (t0.2.2.1, y_47.1, y_47.2) ls _ H locs hZ ⟨hl, by rw [sOpt_neg b_51, hy_47, sAcc_neg b_51], h_50, (zne h_49 hkj h_17), fun p h1 h2 => (znu h_49 h1).trans ((znu hF_16 h2).trans (hfr0 p h1 h2))⟩
  · intro hjoin
    refine lv_aload_n hx hb dX1_readStatement_14 rfl (lv_at hl 2 rfl) ?_
    refine lv_aload_n hx hb dX1_readStatement_15 rfl (lv_at hl 0 rfl) ?_
    refine lv_bipush (v := 98) hx hb dX1_readStatement_16 (by decide) ?_
    refine zgoi hZ hA (zrunV (As := [.int 98]) (rest := [.ref (ad j)]) (k := k) hC hZ (c_X1_accepts l D cy n ad F_12 H.size k f z y_9.2 hk (zne hF_13 (fun h => hkj h.symm) h_11) (zne hF_13 (fun h => hkj1 h.symm) (zne h_10 (by omega) (zne hp_3 (by omega) hFt))) 98) mX1_accepts vX1_accepts kX1_51 (zRj_of rfl) (by omega) (zne hF_13 (fun h => hkj h.symm) h_11) rfl rfl hl.1 rfl (Nat.le_of_ble_eq_true rfl) dX1_readStatement_18 ⟨Nat.le_refl _, Nat.le_refl _⟩) (fun r_59 F_58 hp_60 H locs hZ => ?_)
    obtain ⟨y_61, hy_61⟩ : ∃ y, y = (sAcc (sNext f z) 98 y_9.2) := ⟨_, rfl⟩
    rw [← hy_61] at hp_60
    obtain ⟨h_62, h_63⟩ := hp_60
    have h_64 := zeq h_63
    by_cases b_65 : bAcc (sNext f z) 98 y_9.2
    · rw [if_pos b_65] at h_62
      subst h_62
      refine lv_if_eq (tgt := 31) hx hb dX1_readStatement_21 (by decide) (fun h => absurd h (by decide)) (fun _ => ?_)
      refine lv_aload_n hx hb dX1_readStatement_24 rfl (lv_at hl 0 rfl) ?_
      refine zgoi hZ hA (zrunV (As := []) (rest := [.ref (ad j)]) (k := k) hC hZ (c_X1_number l D cy n ad F_58 H.size k f z y_61 hk h_64 (zne h_63 (by omega) (zne hF_13 (fun h => hkj1 h.symm) (zne h_10 (by omega) (zne hp_3 (by omega) hFt))))) mX1_number vX1_number kX1_42 (zRj_of rfl) (by omega) h_64 rfl rfl hl.1 rfl (Nat.le_of_ble_eq_true rfl) dX1_readStatement_25 ⟨Nat.le_refl _, Nat.le_refl _⟩) (fun r_67 F_66 hp_68 H locs hZ => ?_)
      obtain ⟨y_69, hy_69⟩ : ∃ y, y = (sNum (sNext f z) y_61) := ⟨_, rfl⟩
      rw [← hy_69] at hp_68
      obtain ⟨rfl, h_70⟩ := hp_68
      have h_71 := zeq h_70
      refine lv_goto (tgt := 35) hx hb dX1_readStatement_28 (by decide) ?_
      exact hjoin (y_69.1, y_69.2.1, y_69.2.2) ls _ H locs hZ ⟨hl, by rw [sOpt_posN b_65, ← hy_61, ← hy_69], h_71, (zne h_70 hkj (zne h_63 hkj h_14)), fun p h1 h2 => (znu h_70 h1).trans ((znu h_63 h1).trans ((znu hF_13 h2).trans ((znu h_10 h1).trans ((znu hp_3 h1).trans (rfl)))))⟩
    · rw [if_neg b_65] at h_62
      subst h_62
      refine lv_if_eq (tgt := 31) hx hb dX1_readStatement_21 (by decide) (fun _ => ?_) (fun h => absurd (by decide) h)
      refine lv_aload_n hx hb dX1_readStatement_31 rfl (lv_at hl 1 rfl) ?_
      refine zget hC hZ fX1_55 hi (zne h_63 hik (zne hF_13 hij (zne h_10 hik (zne hp_3 hik hFi)))) rfl dX1_readStatement_32 ?_
      exact hjoin (t0.2.1, y_61.1, y_61.2) ls _ H locs hZ ⟨hl, by rw [sOpt_neg b_65, hy_61, sAcc_neg b_65], h_64, (zne h_63 hkj h_14), fun p h1 h2 => (znu h_63 h1).trans ((znu hF_13 h2).trans ((znu h_10 h1).trans ((znu hp_3 h1).trans (rfl))))⟩
end
section
/-! ===== the whole object: 56 cells ===== -/
abbrev oMain (ad : Nat → Nat) (pic : Int32) : va_E := .inr (6, [.ref (ad 1), .ref (ad 13), .int pic, .ref (ad 25), .ref (ad 50), .ref (ad 52), .ref (ad 53), .ref (ad 54), .ref (ad 55)])
abbrev oShelves (ad cy : Nat → Nat) : va_E := oRefs cy 3 8 (fun i => some (ad (26 + 3 * i)))
def RX (ad cy : Nat → Nat) (F : Nat → va_E) (pic : Int32) (sc ps : Scn) (sh : Nat → Shf) (rd : Rdr) (dr : Stg) (fa : Tal) (mi : Crs) : Prop :=
  F 0 = oMain ad pic ∧ RS ad cy 1 F sc ∧ RS ad cy 13 F ps ∧ F 25 = oShelves ad cy ∧ (∀ i, i < 8 → RSh ad cy (26 + 3 * i) F (sh i)) ∧ RRd ad cy 50 F rd ∧ F 52 = oSetting dr ∧ F 53 = oTale fa ∧ F 54 = oTale (0, 0) ∧ F 55 = oCourse mi
def fr56 (F F1 : Nat → va_E) : Prop := ∀ q, 56 ≤ q → F1 q = F q
theorem fr56_rf {F : Nat → va_E} : fr56 F F := fun _ _ => rfl
theorem fr56_up {F F0 F1 : Nat → va_E} {k : Nat} {E : va_E} (h0 : fr56 F0 F) (h : F1 = va_up F k E) (hk : k < 56) : fr56 F0 F1 := fun q hq => (znu h (by omega)).trans (h0 q hq)
theorem fr56_bl {F F0 F1 : Nat → va_E} {b w : Nat} (h0 : fr56 F0 F) (h : ∀ q, ¬ (b ≤ q ∧ q < b + w) → F1 q = F q) (hk : b + w ≤ 56) : fr56 F0 F1 := fun q hq => (h q (by omega)).trans (h0 q hq)
section RXL
variable {ad cy : Nat → Nat} {F F1 : Nat → va_E} {pic : Int32} {sc ps : Scn} {sh : Nat → Shf} {rd : Rdr} {dr : Stg} {fa : Tal} {mi : Crs}
theorem RSh_fr {k : Nat} {sf : Shf} (h : RSh ad cy k F sf) (hF : ∀ q, k ≤ q → q < k + 3 → F1 q = F q) : RSh ad cy k F1 sf :=
  ⟨(hF _ (by omega) (by omega)).trans h.1, (hF _ (by omega) (by omega)).trans h.2.1, (hF _ (by omega) (by omega)).trans h.2.2⟩
theorem RRd_fr {k : Nat} (h : RRd ad cy k F rd) (hF : ∀ q, k ≤ q → q < k + 2 → F1 q = F q) : RRd ad cy k F1 rd :=
  ⟨(hF _ (by omega) (by omega)).trans h.1, (hF _ (by omega) (by omega)).trans h.2⟩
theorem rx_main {p : Int32} (h : RX ad cy F pic sc ps sh rd dr fa mi) (hF : F1 = va_up F 0 (oMain ad p)) : RX ad cy F1 p sc ps sh rd dr fa mi := by
  obtain ⟨h1, h2, h3, h4, h5, h6, h7, h8, h9, h10⟩ := h
  exact ⟨zeq hF, RS_fr h2 (fun q _ _ => znu hF (by omega)), RS_fr h3 (fun q _ _ => znu hF (by omega)), zne hF (by omega) h4, fun i hi => RSh_fr (h5 i hi) (fun q _ _ => znu hF (by omega)), RRd_fr h6 (fun q _ _ => znu hF (by omega)), zne hF (by omega) h7, zne hF (by omega) h8, zne hF (by omega) h9, zne hF (by omega) h10⟩
theorem rx_scene {sc' : Scn} (h : RX ad cy F pic sc ps sh rd dr fa mi) (hS : RS ad cy 1 F1 sc') (hF : ∀ q, ¬ (1 ≤ q ∧ q < 1 + 12) → F1 q = F q) : RX ad cy F1 pic sc' ps sh rd dr fa mi := by
  obtain ⟨h1, h2, h3, h4, h5, h6, h7, h8, h9, h10⟩ := h
  exact ⟨(hF _ (by omega)).trans h1, hS, RS_fr h3 (fun q _ _ => hF q (by omega)), (hF _ (by omega)).trans h4, fun i hi => RSh_fr (h5 i hi) (fun q _ _ => hF q (by omega)), RRd_fr h6 (fun q _ _ => hF q (by omega)), (hF _ (by omega)).trans h7, (hF _ (by omega)).trans h8, (hF _ (by omega)).trans h9, (hF _ (by omega)).trans h10⟩
theorem rx_pict {ps' : Scn} (h : RX ad cy F pic sc ps sh rd dr fa mi) (hS : RS ad cy 13 F1 ps') (hF : ∀ q, ¬ (13 ≤ q ∧ q < 13 + 12) → F1 q = F q) : RX ad cy F1 pic sc ps' sh rd dr fa mi := by
  obtain ⟨h1, h2, h3, h4, h5, h6, h7, h8, h9, h10⟩ := h
  exact ⟨(hF _ (by omega)).trans h1, RS_fr h2 (fun q _ _ => hF q (by omega)), hS, (hF _ (by omega)).trans h4, fun i hi => RSh_fr (h5 i hi) (fun q _ _ => hF q (by omega)), RRd_fr h6 (fun q _ _ => hF q (by omega)), (hF _ (by omega)).trans h7, (hF _ (by omega)).trans h8, (hF _ (by omega)).trans h9, (hF _ (by omega)).trans h10⟩
theorem rx_shelf {sf : Shf} {j : Nat} (hj : j < 8) (h : RX ad cy F pic sc ps sh rd dr fa mi) (hS : RSh ad cy (26 + 3 * j) F1 sf) (hF : ∀ q, ¬ (26 + 3 * j ≤ q ∧ q < 26 + 3 * j + 3) → F1 q = F q) : RX ad cy F1 pic sc ps (va_up sh j sf) rd dr fa mi := by
  obtain ⟨h1, h2, h3, h4, h5, h6, h7, h8, h9, h10⟩ := h
  refine ⟨(hF _ (by omega)).trans h1, RS_fr h2 (fun q _ _ => hF q (by omega)), RS_fr h3 (fun q _ _ => hF q (by omega)), (hF _ (by omega)).trans h4, fun i hi => ?_, RRd_fr h6 (fun q _ _ => hF q (by omega)), (hF _ (by omega)).trans h7, (hF _ (by omega)).trans h8, (hF _ (by omega)).trans h9, (hF _ (by omega)).trans h10⟩
  by_cases e : i = j
  · subst e; rw [va_up_self]; exact hS
  · rw [va_up_ne _ _ e]; exact RSh_fr (h5 i hi) (fun q _ _ => hF q (by omega))
theorem rx_reader {rd' : Rdr} (h : RX ad cy F pic sc ps sh rd dr fa mi) (hS : RRd ad cy 50 F1 rd') (hF : ∀ q, ¬ (50 ≤ q ∧ q < 50 + 2) → F1 q = F q) : RX ad cy F1 pic sc ps sh rd' dr fa mi := by
  obtain ⟨h1, h2, h3, h4, h5, h6, h7, h8, h9, h10⟩ := h
  exact ⟨(hF _ (by omega)).trans h1, RS_fr h2 (fun q _ _ => hF q (by omega)), RS_fr h3 (fun q _ _ => hF q (by omega)), (hF _ (by omega)).trans h4, fun i hi => RSh_fr (h5 i hi) (fun q _ _ => hF q (by omega)), hS, (hF _ (by omega)).trans h7, (hF _ (by omega)).trans h8, (hF _ (by omega)).trans h9, (hF _ (by omega)).trans h10⟩
theorem rx_draft {t : Stg} (h : RX ad cy F pic sc ps sh rd dr fa mi) (hF : F1 = va_up F 52 (oSetting t)) : RX ad cy F1 pic sc ps sh rd t fa mi := by
  obtain ⟨h1, h2, h3, h4, h5, h6, h7, h8, h9, h10⟩ := h
  exact ⟨zne hF (by omega) h1, RS_fr h2 (fun q _ _ => znu hF (by omega)), RS_fr h3 (fun q _ _ => znu hF (by omega)), zne hF (by omega) h4, fun i hi => RSh_fr (h5 i hi) (fun q _ _ => znu hF (by omega)), RRd_fr h6 (fun q _ _ => znu hF (by omega)), zeq hF, zne hF (by omega) h8, zne hF (by omega) h9, zne hF (by omega) h10⟩
theorem rx_fancy {t : Tal} (h : RX ad cy F pic sc ps sh rd dr fa mi) (hF : F1 = va_up F 53 (oTale t)) : RX ad cy F1 pic sc ps sh rd dr t mi := by
  obtain ⟨h1, h2, h3, h4, h5, h6, h7, h8, h9, h10⟩ := h
  exact ⟨zne hF (by omega) h1, RS_fr h2 (fun q _ _ => znu hF (by omega)), RS_fr h3 (fun q _ _ => znu hF (by omega)), zne hF (by omega) h4, fun i hi => RSh_fr (h5 i hi) (fun q _ _ => znu hF (by omega)), RRd_fr h6 (fun q _ _ => znu hF (by omega)), zne hF (by omega) h7, zeq hF, zne hF (by omega) h9, zne hF (by omega) h10⟩
theorem rx_mind {c : Crs} (h : RX ad cy F pic sc ps sh rd dr fa mi) (hF : F1 = va_up F 55 (oCourse c)) : RX ad cy F1 pic sc ps sh rd dr fa c := by
  obtain ⟨h1, h2, h3, h4, h5, h6, h7, h8, h9, h10⟩ := h
  exact ⟨zne hF (by omega) h1, RS_fr h2 (fun q _ _ => znu hF (by omega)), RS_fr h3 (fun q _ _ => znu hF (by omega)), zne hF (by omega) h4, fun i hi => RSh_fr (h5 i hi) (fun q _ _ => znu hF (by omega)), RRd_fr h6 (fun q _ _ => znu hF (by omega)), zne hF (by omega) h7, zne hF (by omega) h8, zne hF (by omega) h9, zeq hF⟩
theorem rx_chain {t : Stg} (h : RX ad cy F pic sc ps sh rd dr fa mi) (hF : F1 = va_up F 2 (oSetting t)) : RX ad cy F1 pic (t, sc.2) ps sh rd dr fa mi := rx_scene h (RS_chain h.2.1 hF) (fr_up hF (by omega) (by omega))
theorem rx_self {ln tc : Int32} (h : RX ad cy F pic sc ps sh rd dr fa mi) (hF : F1 = va_up F 1 (oScene ad 1 ln tc)) : RX ad cy F1 pic (sc.1, ln, sc.2.2.1, tc, sc.2.2.2.2) ps sh rd dr fa mi := rx_scene h (RS_self h.2.1 hF) (fr_up hF (by omega) (by omega))
theorem rx_course {c : Crs} (h : RX ad cy F pic sc ps sh rd dr fa mi) (hF : F1 = va_up F 4 (oCourse c)) : RX ad cy F1 pic (sc.1, sc.2.1, sc.2.2.1, sc.2.2.2.1, c) ps sh rd dr fa mi := rx_scene h (RS_course h.2.1 hF) (fr_up hF (by omega) (by omega))
theorem rx_try {t : Stg} {j : Nat} (hj : j < 8) (h : RX ad cy F pic sc ps sh rd dr fa mi) (hF : F1 = va_up F (1 + 4 + j) (oSetting t)) : RX ad cy F1 pic (sc.1, sc.2.1, va_up sc.2.2.1 j t, sc.2.2.2.1, sc.2.2.2.2) ps sh rd dr fa mi := rx_scene h (RS_try h.2.1 hF) (fr_up hF (by omega) (by omega))
end RXL
/-! ===== what is within bounds ===== -/
def gC (ln : Int32) (c : Crs) : Prop := 0 ≤ c.2.1.toInt ∧ c.2.1.toInt ≤ 3000 ∧ 0 ≤ c.2.2.1.toInt ∧ c.2.2.1.toInt ≤ 36000 ∧ 0 ≤ c.2.2.2.1.toInt ∧ c.2.2.2.1.toInt ≤ ln.toInt
def gScn (s : Scn) : Prop := gS s.1 ∧ 10 ≤ s.2.1.toInt ∧ s.2.1.toInt ≤ 9999 ∧ (∀ i, i < 8 → gS (s.2.2.1 i)) ∧ 0 ≤ s.2.2.2.1.toInt ∧ s.2.2.2.1.toInt ≤ 8 ∧ gC s.2.1 s.2.2.2.2 ∧ 0 ≤ s.2.2.2.2.1.toInt ∧ s.2.2.2.2.1.toInt ≤ 9999
def gShf (s : Shf) : Prop := (s.1 = 1 → gT s.2.1) ∧ 0 ≤ s.2.2.2.1.toInt ∧ s.2.2.2.1.toInt ≤ 100 ∧ 0 ≤ s.2.2.1.toInt ∧ s.2.2.1.toInt ≤ 2 ∧ (s.2.2.1 = 0 → ∀ i, i < 100 → -128 ≤ (s.2.2.2.2 i).toInt ∧ (s.2.2.2.2 i).toInt ≤ 127)
def gX (sc ps : Scn) (sh : Nat → Shf) : Prop := gScn sc ∧ gScn ps ∧ ∀ d, d < 8 → gShf (sh d)
/-! ===== what the calls answer ===== -/
def zr (b : Prop) [Decidable b] (rf v : Int32) : Int32 := if b then (if rf = 0 then v else rf) else -1
theorem zr_no {b : Prop} [Decidable b] {rf v : Int32} (h : ¬ b) : zr b rf v = -1 := if_neg h
theorem zr_rf {b : Prop} [Decidable b] {rf v : Int32} (h : b) (h2 : ¬ rf = 0) : zr b rf v = rf := (if_pos h).trans (if_neg h2)
theorem zr_ok {b : Prop} [Decidable b] {rf v : Int32} (h : b) (h2 : rf = 0) : zr b rf v = v := (if_pos h).trans (if_pos h2)
def sStR (sh : Nat → Shf) (d : Int32) : Int32 := if bSh d then (if (sh (iN d)).1 = 0 then -11 else if (sh (iN d)).1 = 1 then 0 else -12) else -1
def sRowR (sh : Nat → Shf) (d : Int32) : Int32 := if bSh d then (if (sh (iN d)).1 = 0 then -11 else if (sh (iN d)).1 = 2 then 0 else -12) else -1
theorem bSh_i {d : Int32} (h : bSh d) : d = nI (iN d) ∧ iN d < 8 := iN_at (N := 8) h.1 h.2 rfl
theorem sStR_0 {sh : Nat → Shf} {d : Int32} (h : sStR sh d = 0) : (d = nI (iN d) ∧ iN d < 8) ∧ (sh (iN d)).1 = 1 := by
  unfold sStR at h
  by_cases h1 : bSh d
  · rw [if_pos h1] at h
    by_cases h2 : (sh (iN d)).1 = 0
    · rw [if_pos h2] at h; exact absurd h (by decide)
    · rw [if_neg h2] at h
      by_cases h3 : (sh (iN d)).1 = 1
      · exact ⟨bSh_i h1, h3⟩
      · rw [if_neg h3] at h; exact absurd h (by decide)
  · rw [if_neg h1] at h; exact absurd h (by decide)
theorem sRowR_0 {sh : Nat → Shf} {d : Int32} (h : sRowR sh d = 0) : (d = nI (iN d) ∧ iN d < 8) ∧ (sh (iN d)).1 = 2 := by
  unfold sRowR at h
  by_cases h1 : bSh d
  · rw [if_pos h1] at h
    by_cases h2 : (sh (iN d)).1 = 0
    · rw [if_pos h2] at h; exact absurd h (by decide)
    · rw [if_neg h2] at h
      by_cases h3 : (sh (iN d)).1 = 2
      · exact ⟨bSh_i h1, h3⟩
      · rw [if_neg h3] at h; exact absurd h (by decide)
  · rw [if_neg h1] at h; exact absurd h (by decide)
abbrev bMay (what q : Int32) : Prop := ((what = 0 ∨ what = 1) ∧ bIn q 0 100) ∨ (what = 2 ∧ bIn q 0 2) ∨ (what = 3 ∧ bIn q 10 9999) ∨ (what = 4 ∧ bIn q 1 400)
def sCh (sc : Scn) (what : Int32) : Int32 := if what = 0 then sc.1.1 else if what = 1 then sc.1.2.1 else if what = 2 then sc.1.2.2.1 else if what = 3 then sc.2.1 else if what = 4 then sc.1.2.2.2 else -1
def sSetS (sc : Scn) (what q : Int32) : Scn :=
  if what = 0 then ((q, sc.1.2), sc.2) else if what = 1 then ((sc.1.1, q, sc.1.2.2), sc.2) else if what = 2 then ((sc.1.1, sc.1.2.1, q, sc.1.2.2.2), sc.2)
  else if what = 3 then (sc.1, q, sc.2.2) else ((sc.1.1, sc.1.2.1, sc.1.2.2.1, q), sc.2)
abbrev bSetNo (sc : Scn) (what q : Int32) : Prop := what = 3 ∧ q ≤ sc.2.2.2.2.2.2.2.1
def sSet (sc : Scn) (what q : Int32) : Int32 := if bMay what q then (if bSetNo sc what q then -3 else sCh sc what) else -1
def sSetN (sc : Scn) (what q : Int32) : Scn := if bMay what q ∧ ¬ bSetNo sc what q then sSetS sc what q else sc
def sCC : Crs := (0, 0, 0, 0, 0)
def sStory (sc : Scn) (t : Tal) (what : Int32) : Int32 := if what = 0 then sKick t sc.1 else if what = 1 then sDraw t else sHold t
def sIt (f : Crs → Crs) : Nat → Crs → Crs
  | 0, c => c
  | k + 1, c => f (sIt f k c)
abbrev sF (t : Tal) (sc : Scn) : Crs → Crs := sStep (sKick t sc.1) (sLess t sc.1) sc.1.2.2.2 sc.2.1
def zfold {σ : Type} (f : Nat → σ → σ) : Nat → σ → σ
  | 0, s => s
  | k + 1, s => f k (zfold f k s)
def zfind (P : Nat → Bool) : Nat → Nat → Int32
  | 0, _ => -4
  | f + 1, i => if P i then nI i else zfind P f (i + 1)
def sState (sc : Scn) (what : Int32) : Int32 := if what = 0 then sc.2.2.2.2.1 else if what = 1 then sc.2.2.2.2.2.1 else if what = 2 then sc.2.2.2.2.2.2.1 else if what = 3 then sc.2.2.2.2.2.2.2.1 else if what = 4 then sc.2.2.2.2.2.2.2.2 else if what = 5 then (if sc.2.1 ≤ sc.2.2.2.2.2.2.2.1 then 1 else 0) else -1
theorem sSet_no {sc : Scn} {what q : Int32} (h : ¬ bMay what q) : sSet sc what q = -1 ∧ sSetN sc what q = sc := ⟨if_neg h, if_neg (fun h2 => h h2.1)⟩
theorem sSet_now {sc : Scn} {what q : Int32} (h : bMay what q) (h2 : bSetNo sc what q) : sSet sc what q = -3 ∧ sSetN sc what q = sc := ⟨(if_pos h).trans (if_pos h2), if_neg (fun h3 => h3.2 h2)⟩
theorem sSet_ok {sc : Scn} {what q : Int32} (h : bMay what q) (h2 : ¬ bSetNo sc what q) : sSet sc what q = sCh sc what ∧ sSetN sc what q = sSetS sc what q := ⟨(if_pos h).trans (if_neg h2), if_pos ⟨h, h2⟩⟩
end
section
theorem mX6_storyRefusal : zMd yX6_storyRefusal cX6_storyRefusal 2 (some .int) 1 := ⟨by decide +kernel, gt_of 370 (by decide +kernel) rfl, gt_of 44 (by decide +kernel) rfl, by decide⟩
theorem dX6_storyRefusal_0 : decode cX6_storyRefusal 0 = .ok (.iload_n 1, 1) := by decide +kernel
theorem dX6_storyRefusal_1 : decode cX6_storyRefusal 1 = .ok (.invokestatic 61, 3) := by decide +kernel
theorem kX6_61 : zLk RX6 61 yX6_isShelf := Or.inl (gt_of 276 (by decide +kernel) rfl)
theorem sX6_isShelf : Cond.static yX6_isShelf ∈ gtbl := gt_of 277 (by decide +kernel) rfl
theorem dX6_storyRefusal_4 : decode cX6_storyRefusal 4 = .ok (.ifCond .ne 5, 3) := by decide +kernel
theorem dX6_storyRefusal_9 : decode cX6_storyRefusal 9 = .ok (.aload_n 0, 1) := by decide +kernel
theorem dX6_storyRefusal_10 : decode cX6_storyRefusal 10 = .ok (.getfield 25, 3) := by decide +kernel
theorem fX6_25 : zFld RX6 25 6 3 := ⟨RX6, TX6, 9, rfl, inX6, by decide, rfl, Or.inl (gt_of 229 (by decide +kernel) rfl)⟩
theorem dX6_storyRefusal_13 : decode cX6_storyRefusal 13 = .ok (.iload_n 1, 1) := by decide +kernel
theorem dX6_storyRefusal_14 : decode cX6_storyRefusal 14 = .ok (.aaload, 1) := by decide +kernel
theorem dX6_storyRefusal_15 : decode cX6_storyRefusal 15 = .ok (.invokevirtual 65, 3) := by decide +kernel
theorem kX6_65 : zLk RX6 65 yX4_isEmpty := Or.inl (gt_of 279 (by decide +kernel) rfl)
theorem vX4_isEmpty : zMi yX4_isEmpty := ⟨gt_of 280 (by decide +kernel) rfl, gt_of 281 (by decide +kernel) rfl⟩
theorem dX6_storyRefusal_18 : decode cX6_storyRefusal 18 = .ok (.ifCond .eq 6, 3) := by decide +kernel
theorem dX6_storyRefusal_21 : decode cX6_storyRefusal 21 = .ok (.bipush (-11), 2) := by decide +kernel
theorem dX6_storyRefusal_23 : decode cX6_storyRefusal 23 = .ok (.ireturn, 1) := by decide +kernel
theorem dX6_storyRefusal_24 : decode cX6_storyRefusal 24 = .ok (.aload_n 0, 1) := by decide +kernel
theorem dX6_storyRefusal_25 : decode cX6_storyRefusal 25 = .ok (.getfield 25, 3) := by decide +kernel
theorem dX6_storyRefusal_28 : decode cX6_storyRefusal 28 = .ok (.iload_n 1, 1) := by decide +kernel
theorem dX6_storyRefusal_29 : decode cX6_storyRefusal 29 = .ok (.aaload, 1) := by decide +kernel
theorem dX6_storyRefusal_30 : decode cX6_storyRefusal 30 = .ok (.invokevirtual 69, 3) := by decide +kernel
theorem kX6_69 : zLk RX6 69 yX4_holdsStory := Or.inl (gt_of 371 (by decide +kernel) rfl)
theorem vX4_holdsStory : zMi yX4_holdsStory := ⟨gt_of 372 (by decide +kernel) rfl, gt_of 373 (by decide +kernel) rfl⟩
theorem dX6_storyRefusal_33 : decode cX6_storyRefusal 33 = .ok (.ifCond .eq 7, 3) := by decide +kernel
theorem dX6_storyRefusal_36 : decode cX6_storyRefusal 36 = .ok (.iconst 0, 1) := by decide +kernel
theorem dX6_storyRefusal_37 : decode cX6_storyRefusal 37 = .ok (.goto 5, 3) := by decide +kernel
theorem dX6_storyRefusal_42 : decode cX6_storyRefusal 42 = .ok (.ireturn, 1) := by decide +kernel
theorem dX6_storyRefusal_40 : decode cX6_storyRefusal 40 = .ok (.bipush (-12), 2) := by decide +kernel
theorem dX6_storyRefusal_7 : decode cX6_storyRefusal 7 = .ok (.iconst (-1), 1) := by decide +kernel
theorem dX6_storyRefusal_8 : decode cX6_storyRefusal 8 = .ok (.ireturn, 1) := by decide +kernel
set_option maxRecDepth 100000 in
theorem c_X6_storyRefusal (l : Launch) (D : va_G) (cy : Nat → Nat) (n : Nat) (ad : Nat → Nat) (F : Nat → va_E) (sz : Nat) (pic : Int32) (sc ps : Scn) (sh : Nat → Shf) (rd : Rdr) (dr : Stg) (fa : Tal) (mi : Crs) (hn : 56 ≤ n) (hX : RX ad cy F pic sc ps sh rd dr fa mi) (d : Int32) : Met l yX6_storyRefusal (zw yX6_storyRefusal cX6_storyRefusal 2 (some .int)) (rmL 1) (zPc D cy n ad F sz [.ref (ad 0), .int d]) (va_Qi (fun r F1 => r = sStR sh d ∧ F = F1) (zB D n ad) (zA n ad sz)) 0 0 (zA n ad sz) := by
  refine zmet (by decide +kernel) (Nat.le_of_ble_eq_true rfl) (fun p e s m args below meth c ls hC hsz hZ hA hr hlocks hnm hl => ?_)
  have hC : zC p m c cX6_storyRefusal 2 s args RX6 D cy := hC
  have hx := hC.1.1
  have hb := hC.1.2.1
  have hl : lv_has ls 2 [(0, .ref (ad 0)), (1, .int d)] := hl
  refine lv_iload_n hx hb dX6_storyRefusal_0 rfl (lv_at hl 1 rfl) ?_
  refine zgoi hZ hA (zrunS (As := [.int d]) (rest := []) hC hZ (c_X6_isShelf l D cy n ad F s.heap.size d) mX6_isShelf sX6_isShelf kX6_61 (zRj_of rfl) rfl hl.1 rfl (Nat.le_of_ble_eq_true rfl) dX6_storyRefusal_1 ⟨Nat.le_refl _, Nat.le_refl _⟩) (fun r_2 F_1 hp_3 H locs hZ => ?_)
  obtain ⟨hp_3, rfl⟩ := hp_3
  by_cases b_4 : bSh d
  · rw [if_pos b_4] at hp_3
    subst hp_3
    refine lv_if_ne (tgt := 9) hx hb dX6_storyRefusal_4 (by decide) (fun _ => ?_) (fun h => absurd h (by decide))
    refine lv_aload_n hx hb dX6_storyRefusal_9 rfl (lv_at hl 0 rfl) ?_
    refine zget hC hZ fX6_25 (zlt hn rfl) hX.1 rfl dX6_storyRefusal_10 ?_
    refine lv_iload_n hx hb dX6_storyRefusal_13 rfl (lv_at hl 1 rfl) ?_
    have hs_5 := bSh_i b_4
    refine zaald hC hZ (zlt hn rfl) hX.2.2.2.1 (C := RX4) rfl hs_5.1 hs_5.2 (by decide) rfl dX6_storyRefusal_14 ?_
    refine zgoi hZ hA (zrunV (As := []) (rest := []) (k := 26 + 3 * (iN d)) hC hZ (c_X4_isEmpty l D cy n ad F H.size (26 + 3 * (iN d)) (sh (iN d)) (by have := hs_5.2; omega) (hX.2.2.2.2.1 (iN d) hs_5.2)) mX4_isEmpty vX4_isEmpty kX6_65 (zRj_of rfl) (by have := hs_5.2; omega) (hX.2.2.2.2.1 (iN d) hs_5.2).1 rfl rfl hl.1 rfl (Nat.le_of_ble_eq_true rfl) dX6_storyRefusal_15 ⟨Nat.le_refl _, Nat.le_refl _⟩) (fun r_7 F_6 hp_8 H locs hZ => ?_)
    obtain ⟨hp_8, rfl⟩ := hp_8
    by_cases b_9 : (sh (iN d)).1 = 0
    · rw [if_pos b_9] at hp_8
      subst hp_8
      refine lv_if_eq (tgt := 24) hx hb dX6_storyRefusal_18 (by decide) (fun h => absurd h (by decide)) (fun _ => ?_)
      refine lv_bipush (v := (-11)) hx hb dX6_storyRefusal_21 (by decide) ?_
      have hq_10 : (-11 : Int32) = sStR sh d := by unfold sStR; simp [b_4, b_9]
      exact zireti hC hZ hr hlocks ⟨hq_10, rfl⟩ dX6_storyRefusal_23
    · rw [if_neg b_9] at hp_8
      subst hp_8
      refine lv_if_eq (tgt := 24) hx hb dX6_storyRefusal_18 (by decide) (fun _ => ?_) (fun h => absurd (by decide) h)
      refine lv_aload_n hx hb dX6_storyRefusal_24 rfl (lv_at hl 0 rfl) ?_
      refine zget hC hZ fX6_25 (zlt hn rfl) hX.1 rfl dX6_storyRefusal_25 ?_
      refine lv_iload_n hx hb dX6_storyRefusal_28 rfl (lv_at hl 1 rfl) ?_
      refine zaald hC hZ (zlt hn rfl) hX.2.2.2.1 (C := RX4) rfl hs_5.1 hs_5.2 (by decide) rfl dX6_storyRefusal_29 ?_
      refine zgoi hZ hA (zrunV (As := []) (rest := []) (k := 26 + 3 * (iN d)) hC hZ (c_X4_holdsStory l D cy n ad F H.size (26 + 3 * (iN d)) (sh (iN d)) (by have := hs_5.2; omega) (hX.2.2.2.2.1 (iN d) hs_5.2)) mX4_holdsStory vX4_holdsStory kX6_69 (zRj_of rfl) (by have := hs_5.2; omega) (hX.2.2.2.2.1 (iN d) hs_5.2).1 rfl rfl hl.1 rfl (Nat.le_of_ble_eq_true rfl) dX6_storyRefusal_30 ⟨Nat.le_refl _, Nat.le_refl _⟩) (fun r_12 F_11 hp_13 H locs hZ => ?_)
      obtain ⟨hp_13, rfl⟩ := hp_13
      by_cases b_14 : (sh (iN d)).1 = 1
      · rw [if_pos b_14] at hp_13
        subst hp_13
        refine lv_if_eq (tgt := 40) hx hb dX6_storyRefusal_33 (by decide) (fun h => absurd h (by decide)) (fun _ => ?_)
        refine lv_iconst (v := 0) hx hb dX6_storyRefusal_36 (by decide) ?_
        refine lv_goto (tgt := 42) hx hb dX6_storyRefusal_37 (by decide) ?_
        have hq_15 : (0 : Int32) = sStR sh d := by unfold sStR; simp [b_4, b_9, b_14]
        exact zireti hC hZ hr hlocks ⟨hq_15, rfl⟩ dX6_storyRefusal_42
      · rw [if_neg b_14] at hp_13
        subst hp_13
        refine lv_if_eq (tgt := 40) hx hb dX6_storyRefusal_33 (by decide) (fun _ => ?_) (fun h => absurd (by decide) h)
        refine lv_bipush (v := (-12)) hx hb dX6_storyRefusal_40 (by decide) ?_
        have hq_16 : (-12 : Int32) = sStR sh d := by unfold sStR; simp [b_4, b_9, b_14]
        exact zireti hC hZ hr hlocks ⟨hq_16, rfl⟩ dX6_storyRefusal_42
  · rw [if_neg b_4] at hp_3
    subst hp_3
    refine lv_if_ne (tgt := 9) hx hb dX6_storyRefusal_4 (by decide) (fun h => absurd (by decide) h) (fun _ => ?_)
    refine lv_iconst (v := (-1)) hx hb dX6_storyRefusal_7 (by decide) ?_
    have hq_17 : (-1 : Int32) = sStR sh d := by unfold sStR; simp [b_4]
    exact zireti hC hZ hr hlocks ⟨hq_17, rfl⟩ dX6_storyRefusal_8

theorem mX6_rowRefusal : zMd yX6_rowRefusal cX6_rowRefusal 2 (some .int) 1 := ⟨by decide +kernel, gt_of 275 (by decide +kernel) rfl, gt_of 44 (by decide +kernel) rfl, by decide⟩
theorem dX6_rowRefusal_0 : decode cX6_rowRefusal 0 = .ok (.iload_n 1, 1) := by decide +kernel
theorem dX6_rowRefusal_1 : decode cX6_rowRefusal 1 = .ok (.invokestatic 61, 3) := by decide +kernel
theorem dX6_rowRefusal_4 : decode cX6_rowRefusal 4 = .ok (.ifCond .ne 5, 3) := by decide +kernel
theorem dX6_rowRefusal_9 : decode cX6_rowRefusal 9 = .ok (.aload_n 0, 1) := by decide +kernel
theorem dX6_rowRefusal_10 : decode cX6_rowRefusal 10 = .ok (.getfield 25, 3) := by decide +kernel
theorem dX6_rowRefusal_13 : decode cX6_rowRefusal 13 = .ok (.iload_n 1, 1) := by decide +kernel
theorem dX6_rowRefusal_14 : decode cX6_rowRefusal 14 = .ok (.aaload, 1) := by decide +kernel
theorem dX6_rowRefusal_15 : decode cX6_rowRefusal 15 = .ok (.invokevirtual 65, 3) := by decide +kernel
theorem dX6_rowRefusal_18 : decode cX6_rowRefusal 18 = .ok (.ifCond .eq 6, 3) := by decide +kernel
theorem dX6_rowRefusal_21 : decode cX6_rowRefusal 21 = .ok (.bipush (-11), 2) := by decide +kernel
theorem dX6_rowRefusal_23 : decode cX6_rowRefusal 23 = .ok (.ireturn, 1) := by decide +kernel
theorem dX6_rowRefusal_24 : decode cX6_rowRefusal 24 = .ok (.aload_n 0, 1) := by decide +kernel
theorem dX6_rowRefusal_25 : decode cX6_rowRefusal 25 = .ok (.getfield 25, 3) := by decide +kernel
theorem dX6_rowRefusal_28 : decode cX6_rowRefusal 28 = .ok (.iload_n 1, 1) := by decide +kernel
theorem dX6_rowRefusal_29 : decode cX6_rowRefusal 29 = .ok (.aaload, 1) := by decide +kernel
theorem dX6_rowRefusal_30 : decode cX6_rowRefusal 30 = .ok (.invokevirtual 72, 3) := by decide +kernel
theorem kX6_72 : zLk RX6 72 yX4_holdsRow := Or.inl (gt_of 283 (by decide +kernel) rfl)
theorem vX4_holdsRow : zMi yX4_holdsRow := ⟨gt_of 284 (by decide +kernel) rfl, gt_of 285 (by decide +kernel) rfl⟩
theorem dX6_rowRefusal_33 : decode cX6_rowRefusal 33 = .ok (.ifCond .eq 7, 3) := by decide +kernel
theorem dX6_rowRefusal_36 : decode cX6_rowRefusal 36 = .ok (.iconst 0, 1) := by decide +kernel
theorem dX6_rowRefusal_37 : decode cX6_rowRefusal 37 = .ok (.goto 5, 3) := by decide +kernel
theorem dX6_rowRefusal_42 : decode cX6_rowRefusal 42 = .ok (.ireturn, 1) := by decide +kernel
theorem dX6_rowRefusal_40 : decode cX6_rowRefusal 40 = .ok (.bipush (-12), 2) := by decide +kernel
theorem dX6_rowRefusal_7 : decode cX6_rowRefusal 7 = .ok (.iconst (-1), 1) := by decide +kernel
theorem dX6_rowRefusal_8 : decode cX6_rowRefusal 8 = .ok (.ireturn, 1) := by decide +kernel
set_option maxRecDepth 100000 in
theorem c_X6_rowRefusal (l : Launch) (D : va_G) (cy : Nat → Nat) (n : Nat) (ad : Nat → Nat) (F : Nat → va_E) (sz : Nat) (pic : Int32) (sc ps : Scn) (sh : Nat → Shf) (rd : Rdr) (dr : Stg) (fa : Tal) (mi : Crs) (hn : 56 ≤ n) (hX : RX ad cy F pic sc ps sh rd dr fa mi) (d : Int32) : Met l yX6_rowRefusal (zw yX6_rowRefusal cX6_rowRefusal 2 (some .int)) (rmL 1) (zPc D cy n ad F sz [.ref (ad 0), .int d]) (va_Qi (fun r F1 => r = sRowR sh d ∧ F = F1) (zB D n ad) (zA n ad sz)) 0 0 (zA n ad sz) := by
  refine zmet (by decide +kernel) (Nat.le_of_ble_eq_true rfl) (fun p e s m args below meth c ls hC hsz hZ hA hr hlocks hnm hl => ?_)
  have hC : zC p m c cX6_rowRefusal 2 s args RX6 D cy := hC
  have hx := hC.1.1
  have hb := hC.1.2.1
  have hl : lv_has ls 2 [(0, .ref (ad 0)), (1, .int d)] := hl
  refine lv_iload_n hx hb dX6_rowRefusal_0 rfl (lv_at hl 1 rfl) ?_
  refine zgoi hZ hA (zrunS (As := [.int d]) (rest := []) hC hZ (c_X6_isShelf l D cy n ad F s.heap.size d) mX6_isShelf sX6_isShelf kX6_61 (zRj_of rfl) rfl hl.1 rfl (Nat.le_of_ble_eq_true rfl) dX6_rowRefusal_1 ⟨Nat.le_refl _, Nat.le_refl _⟩) (fun r_2 F_1 hp_3 H locs hZ => ?_)
  obtain ⟨hp_3, rfl⟩ := hp_3
  by_cases b_4 : bSh d
  · rw [if_pos b_4] at hp_3
    subst hp_3
    refine lv_if_ne (tgt := 9) hx hb dX6_rowRefusal_4 (by decide) (fun _ => ?_) (fun h => absurd h (by decide))
    refine lv_aload_n hx hb dX6_rowRefusal_9 rfl (lv_at hl 0 rfl) ?_
    refine zget hC hZ fX6_25 (zlt hn rfl) hX.1 rfl dX6_rowRefusal_10 ?_
    refine lv_iload_n hx hb dX6_rowRefusal_13 rfl (lv_at hl 1 rfl) ?_
    have hs_5 := bSh_i b_4
    refine zaald hC hZ (zlt hn rfl) hX.2.2.2.1 (C := RX4) rfl hs_5.1 hs_5.2 (by decide) rfl dX6_rowRefusal_14 ?_
    refine zgoi hZ hA (zrunV (As := []) (rest := []) (k := 26 + 3 * (iN d)) hC hZ (c_X4_isEmpty l D cy n ad F H.size (26 + 3 * (iN d)) (sh (iN d)) (by have := hs_5.2; omega) (hX.2.2.2.2.1 (iN d) hs_5.2)) mX4_isEmpty vX4_isEmpty kX6_65 (zRj_of rfl) (by have := hs_5.2; omega) (hX.2.2.2.2.1 (iN d) hs_5.2).1 rfl rfl hl.1 rfl (Nat.le_of_ble_eq_true rfl) dX6_rowRefusal_15 ⟨Nat.le_refl _, Nat.le_refl _⟩) (fun r_7 F_6 hp_8 H locs hZ => ?_)
    obtain ⟨hp_8, rfl⟩ := hp_8
    by_cases b_9 : (sh (iN d)).1 = 0
    · rw [if_pos b_9] at hp_8
      subst hp_8
      refine lv_if_eq (tgt := 24) hx hb dX6_rowRefusal_18 (by decide) (fun h => absurd h (by decide)) (fun _ => ?_)
      refine lv_bipush (v := (-11)) hx hb dX6_rowRefusal_21 (by decide) ?_
      have hq_10 : (-11 : Int32) = sRowR sh d := by unfold sRowR; simp [b_4, b_9]
      exact zireti hC hZ hr hlocks ⟨hq_10, rfl⟩ dX6_rowRefusal_23
    · rw [if_neg b_9] at hp_8
      subst hp_8
      refine lv_if_eq (tgt := 24) hx hb dX6_rowRefusal_18 (by decide) (fun _ => ?_) (fun h => absurd (by decide) h)
      refine lv_aload_n hx hb dX6_rowRefusal_24 rfl (lv_at hl 0 rfl) ?_
      refine zget hC hZ fX6_25 (zlt hn rfl) hX.1 rfl dX6_rowRefusal_25 ?_
      refine lv_iload_n hx hb dX6_rowRefusal_28 rfl (lv_at hl 1 rfl) ?_
      refine zaald hC hZ (zlt hn rfl) hX.2.2.2.1 (C := RX4) rfl hs_5.1 hs_5.2 (by decide) rfl dX6_rowRefusal_29 ?_
      refine zgoi hZ hA (zrunV (As := []) (rest := []) (k := 26 + 3 * (iN d)) hC hZ (c_X4_holdsRow l D cy n ad F H.size (26 + 3 * (iN d)) (sh (iN d)) (by have := hs_5.2; omega) (hX.2.2.2.2.1 (iN d) hs_5.2)) mX4_holdsRow vX4_holdsRow kX6_72 (zRj_of rfl) (by have := hs_5.2; omega) (hX.2.2.2.2.1 (iN d) hs_5.2).1 rfl rfl hl.1 rfl (Nat.le_of_ble_eq_true rfl) dX6_rowRefusal_30 ⟨Nat.le_refl _, Nat.le_refl _⟩) (fun r_12 F_11 hp_13 H locs hZ => ?_)
      obtain ⟨hp_13, rfl⟩ := hp_13
      by_cases b_14 : (sh (iN d)).1 = 2
      · rw [if_pos b_14] at hp_13
        subst hp_13
        refine lv_if_eq (tgt := 40) hx hb dX6_rowRefusal_33 (by decide) (fun h => absurd h (by decide)) (fun _ => ?_)
        refine lv_iconst (v := 0) hx hb dX6_rowRefusal_36 (by decide) ?_
        refine lv_goto (tgt := 42) hx hb dX6_rowRefusal_37 (by decide) ?_
        have hq_15 : (0 : Int32) = sRowR sh d := by unfold sRowR; simp [b_4, b_9, b_14]
        exact zireti hC hZ hr hlocks ⟨hq_15, rfl⟩ dX6_rowRefusal_42
      · rw [if_neg b_14] at hp_13
        subst hp_13
        refine lv_if_eq (tgt := 40) hx hb dX6_rowRefusal_33 (by decide) (fun _ => ?_) (fun h => absurd (by decide) h)
        refine lv_bipush (v := (-12)) hx hb dX6_rowRefusal_40 (by decide) ?_
        have hq_16 : (-12 : Int32) = sRowR sh d := by unfold sRowR; simp [b_4, b_9, b_14]
        exact zireti hC hZ hr hlocks ⟨hq_16, rfl⟩ dX6_rowRefusal_42
  · rw [if_neg b_4] at hp_3
    subst hp_3
    refine lv_if_ne (tgt := 9) hx hb dX6_rowRefusal_4 (by decide) (fun h => absurd (by decide) h) (fun _ => ?_)
    refine lv_iconst (v := (-1)) hx hb dX6_rowRefusal_7 (by decide) ?_
    have hq_17 : (-1 : Int32) = sRowR sh d := by unfold sRowR; simp [b_4]
    exact zireti hC hZ hr hlocks ⟨hq_17, rfl⟩ dX6_rowRefusal_8

theorem mX6_maySet : zMd yX6_maySet cX6_maySet 2 (some .boolean) 2 := ⟨by decide +kernel, gt_of 260 (by decide +kernel) rfl, gt_of 44 (by decide +kernel) rfl, by decide⟩
theorem dX6_maySet_0 : decode cX6_maySet 0 = .ok (.iload_n 0, 1) := by decide +kernel
theorem dX6_maySet_1 : decode cX6_maySet 1 = .ok (.tableswitch 69 0 4 #[35, 35, 43, 50, 60], 35) := by decide +kernel
theorem dX6_maySet_36 : decode cX6_maySet 36 = .ok (.iload_n 1, 1) := by decide +kernel
theorem dX6_maySet_37 : decode cX6_maySet 37 = .ok (.iconst 0, 1) := by decide +kernel
theorem dX6_maySet_38 : decode cX6_maySet 38 = .ok (.bipush 100, 2) := by decide +kernel
theorem dX6_maySet_40 : decode cX6_maySet 40 = .ok (.invokestatic 115, 3) := by decide +kernel
theorem kX6_115 : zLk RX6 115 yX6_isWithin := Or.inl (gt_of 261 (by decide +kernel) rfl)
theorem dX6_maySet_43 : decode cX6_maySet 43 = .ok (.ireturn, 1) := by decide +kernel
theorem dX6_maySet_44 : decode cX6_maySet 44 = .ok (.iload_n 1, 1) := by decide +kernel
theorem dX6_maySet_45 : decode cX6_maySet 45 = .ok (.iconst 0, 1) := by decide +kernel
theorem dX6_maySet_46 : decode cX6_maySet 46 = .ok (.iconst 2, 1) := by decide +kernel
theorem dX6_maySet_47 : decode cX6_maySet 47 = .ok (.invokestatic 115, 3) := by decide +kernel
theorem dX6_maySet_50 : decode cX6_maySet 50 = .ok (.ireturn, 1) := by decide +kernel
theorem dX6_maySet_51 : decode cX6_maySet 51 = .ok (.iload_n 1, 1) := by decide +kernel
theorem dX6_maySet_52 : decode cX6_maySet 52 = .ok (.bipush 10, 2) := by decide +kernel
theorem dX6_maySet_54 : decode cX6_maySet 54 = .ok (.sipush 9999, 3) := by decide +kernel
theorem dX6_maySet_57 : decode cX6_maySet 57 = .ok (.invokestatic 115, 3) := by decide +kernel
theorem dX6_maySet_60 : decode cX6_maySet 60 = .ok (.ireturn, 1) := by decide +kernel
theorem dX6_maySet_61 : decode cX6_maySet 61 = .ok (.iload_n 1, 1) := by decide +kernel
theorem dX6_maySet_62 : decode cX6_maySet 62 = .ok (.iconst 1, 1) := by decide +kernel
theorem dX6_maySet_63 : decode cX6_maySet 63 = .ok (.sipush 400, 3) := by decide +kernel
theorem dX6_maySet_66 : decode cX6_maySet 66 = .ok (.invokestatic 115, 3) := by decide +kernel
theorem dX6_maySet_69 : decode cX6_maySet 69 = .ok (.ireturn, 1) := by decide +kernel
theorem dX6_maySet_70 : decode cX6_maySet 70 = .ok (.iconst 0, 1) := by decide +kernel
theorem dX6_maySet_71 : decode cX6_maySet 71 = .ok (.ireturn, 1) := by decide +kernel
set_option maxRecDepth 100000 in
theorem c_X6_maySet (l : Launch) (D : va_G) (cy : Nat → Nat) (n : Nat) (ad : Nat → Nat) (F : Nat → va_E) (sz : Nat) (what q : Int32) : Met l yX6_maySet (zw yX6_maySet cX6_maySet 2 (some .boolean)) (rmL 1) (zPc D cy n ad F sz [.int what, .int q]) (va_Qi (fun r F1 => r = (if bMay what q then 1 else 0) ∧ F = F1) (zB D n ad) (zA n ad sz)) 0 0 (zA n ad sz) := by
  refine zmet (by decide +kernel) (Nat.le_of_ble_eq_true rfl) (fun p e s m args below meth c ls hC hsz hZ hA hr hlocks hnm hl => ?_)
  have hC : zC p m c cX6_maySet 2 s args RX6 D cy := hC
  have hx := hC.1.1
  have hb := hC.1.2.1
  have hl : lv_has ls 2 [(0, .int what), (1, .int q)] := hl
  refine lv_iload_n hx hb dX6_maySet_0 rfl (lv_at hl 0 rfl) ?_
  by_cases c_1_0 : what = 0
  · refine lv_tableIn (off := 35) (tgt := 36) hx hb dX6_maySet_1 (by rw [c_1_0]; decide) (by rw [c_1_0]; decide) (by rw [c_1_0]; rfl) (by decide) ?_
    refine lv_iload_n hx hb dX6_maySet_36 rfl (lv_at hl 1 rfl) ?_
    refine lv_iconst (v := 0) hx hb dX6_maySet_37 (by decide) ?_
    refine lv_bipush (v := 100) hx hb dX6_maySet_38 (by decide) ?_
    refine zgoi hZ hA (zrunS (As := [.int q, .int 0, .int 100]) (rest := []) hC hZ (c_X6_isWithin l D cy n ad F s.heap.size q 0 100) mX6_isWithin sX6_isWithin kX6_115 (zRj_of rfl) rfl hl.1 rfl (Nat.le_of_ble_eq_true rfl) dX6_maySet_40 ⟨Nat.le_refl _, Nat.le_refl _⟩) (fun r_2 F_1 hp_3 H locs hZ => ?_)
    obtain ⟨hp_3, rfl⟩ := hp_3
    by_cases b_4 : bIn q 0 100
    · rw [if_pos b_4] at hp_3
      subst hp_3
      have hq_5 : (1 : Int32) = if bMay what q then 1 else 0 := by simp [bMay, c_1_0, b_4]
      exact zbreti hC hZ hr hlocks rfl ⟨hq_5, rfl⟩ dX6_maySet_43
    · rw [if_neg b_4] at hp_3
      subst hp_3
      have hq_6 : (0 : Int32) = if bMay what q then 1 else 0 := by simp [bMay, c_1_0, b_4]
      exact zbreti hC hZ hr hlocks rfl ⟨hq_6, rfl⟩ dX6_maySet_43
  · by_cases c_1_1 : what = 1
    · refine lv_tableIn (off := 35) (tgt := 36) hx hb dX6_maySet_1 (by rw [c_1_1]; decide) (by rw [c_1_1]; decide) (by rw [c_1_1]; rfl) (by decide) ?_
      refine lv_iload_n hx hb dX6_maySet_36 rfl (lv_at hl 1 rfl) ?_
      refine lv_iconst (v := 0) hx hb dX6_maySet_37 (by decide) ?_
      refine lv_bipush (v := 100) hx hb dX6_maySet_38 (by decide) ?_
      refine zgoi hZ hA (zrunS (As := [.int q, .int 0, .int 100]) (rest := []) hC hZ (c_X6_isWithin l D cy n ad F s.heap.size q 0 100) mX6_isWithin sX6_isWithin kX6_115 (zRj_of rfl) rfl hl.1 rfl (Nat.le_of_ble_eq_true rfl) dX6_maySet_40 ⟨Nat.le_refl _, Nat.le_refl _⟩) (fun r_8 F_7 hp_9 H locs hZ => ?_)
      obtain ⟨hp_9, rfl⟩ := hp_9
      by_cases b_10 : bIn q 0 100
      · rw [if_pos b_10] at hp_9
        subst hp_9
        have hq_11 : (1 : Int32) = if bMay what q then 1 else 0 := by simp [bMay, c_1_0, c_1_1, b_10]
        exact zbreti hC hZ hr hlocks rfl ⟨hq_11, rfl⟩ dX6_maySet_43
      · rw [if_neg b_10] at hp_9
        subst hp_9
        have hq_12 : (0 : Int32) = if bMay what q then 1 else 0 := by simp [bMay, c_1_0, c_1_1, b_10]
        exact zbreti hC hZ hr hlocks rfl ⟨hq_12, rfl⟩ dX6_maySet_43
    · by_cases c_1_2 : what = 2
      · refine lv_tableIn (off := 43) (tgt := 44) hx hb dX6_maySet_1 (by rw [c_1_2]; decide) (by rw [c_1_2]; decide) (by rw [c_1_2]; rfl) (by decide) ?_
        refine lv_iload_n hx hb dX6_maySet_44 rfl (lv_at hl 1 rfl) ?_
        refine lv_iconst (v := 0) hx hb dX6_maySet_45 (by decide) ?_
        refine lv_iconst (v := 2) hx hb dX6_maySet_46 (by decide) ?_
        refine zgoi hZ hA (zrunS (As := [.int q, .int 0, .int 2]) (rest := []) hC hZ (c_X6_isWithin l D cy n ad F s.heap.size q 0 2) mX6_isWithin sX6_isWithin kX6_115 (zRj_of rfl) rfl hl.1 rfl (Nat.le_of_ble_eq_true rfl) dX6_maySet_47 ⟨Nat.le_refl _, Nat.le_refl _⟩) (fun r_14 F_13 hp_15 H locs hZ => ?_)
        obtain ⟨hp_15, rfl⟩ := hp_15
        by_cases b_16 : bIn q 0 2
        · rw [if_pos b_16] at hp_15
          subst hp_15
          have hq_17 : (1 : Int32) = if bMay what q then 1 else 0 := by simp [bMay, c_1_0, c_1_1, c_1_2, b_16]
          exact zbreti hC hZ hr hlocks rfl ⟨hq_17, rfl⟩ dX6_maySet_50
        · rw [if_neg b_16] at hp_15
          subst hp_15
          have hq_18 : (0 : Int32) = if bMay what q then 1 else 0 := by simp [bMay, c_1_0, c_1_1, c_1_2, b_16]
          exact zbreti hC hZ hr hlocks rfl ⟨hq_18, rfl⟩ dX6_maySet_50
      · by_cases c_1_3 : what = 3
        · refine lv_tableIn (off := 50) (tgt := 51) hx hb dX6_maySet_1 (by rw [c_1_3]; decide) (by rw [c_1_3]; decide) (by rw [c_1_3]; rfl) (by decide) ?_
          refine lv_iload_n hx hb dX6_maySet_51 rfl (lv_at hl 1 rfl) ?_
          refine lv_bipush (v := 10) hx hb dX6_maySet_52 (by decide) ?_
          refine lv_sipush (v := 9999) hx hb dX6_maySet_54 (by decide) ?_
          refine zgoi hZ hA (zrunS (As := [.int q, .int 10, .int 9999]) (rest := []) hC hZ (c_X6_isWithin l D cy n ad F s.heap.size q 10 9999) mX6_isWithin sX6_isWithin kX6_115 (zRj_of rfl) rfl hl.1 rfl (Nat.le_of_ble_eq_true rfl) dX6_maySet_57 ⟨Nat.le_refl _, Nat.le_refl _⟩) (fun r_20 F_19 hp_21 H locs hZ => ?_)
          obtain ⟨hp_21, rfl⟩ := hp_21
          by_cases b_22 : bIn q 10 9999
          · rw [if_pos b_22] at hp_21
            subst hp_21
            have hq_23 : (1 : Int32) = if bMay what q then 1 else 0 := by simp [bMay, c_1_0, c_1_1, c_1_2, c_1_3, b_22]
            exact zbreti hC hZ hr hlocks rfl ⟨hq_23, rfl⟩ dX6_maySet_60
          · rw [if_neg b_22] at hp_21
            subst hp_21
            have hq_24 : (0 : Int32) = if bMay what q then 1 else 0 := by simp [bMay, c_1_0, c_1_1, c_1_2, c_1_3, b_22]
            exact zbreti hC hZ hr hlocks rfl ⟨hq_24, rfl⟩ dX6_maySet_60
        · by_cases c_1_4 : what = 4
          · refine lv_tableIn (off := 60) (tgt := 61) hx hb dX6_maySet_1 (by rw [c_1_4]; decide) (by rw [c_1_4]; decide) (by rw [c_1_4]; rfl) (by decide) ?_
            refine lv_iload_n hx hb dX6_maySet_61 rfl (lv_at hl 1 rfl) ?_
            refine lv_iconst (v := 1) hx hb dX6_maySet_62 (by decide) ?_
            refine lv_sipush (v := 400) hx hb dX6_maySet_63 (by decide) ?_
            refine zgoi hZ hA (zrunS (As := [.int q, .int 1, .int 400]) (rest := []) hC hZ (c_X6_isWithin l D cy n ad F s.heap.size q 1 400) mX6_isWithin sX6_isWithin kX6_115 (zRj_of rfl) rfl hl.1 rfl (Nat.le_of_ble_eq_true rfl) dX6_maySet_66 ⟨Nat.le_refl _, Nat.le_refl _⟩) (fun r_26 F_25 hp_27 H locs hZ => ?_)
            obtain ⟨hp_27, rfl⟩ := hp_27
            by_cases b_28 : bIn q 1 400
            · rw [if_pos b_28] at hp_27
              subst hp_27
              have hq_29 : (1 : Int32) = if bMay what q then 1 else 0 := by simp [bMay, c_1_0, c_1_1, c_1_2, c_1_3, c_1_4, b_28]
              exact zbreti hC hZ hr hlocks rfl ⟨hq_29, rfl⟩ dX6_maySet_69
            · rw [if_neg b_28] at hp_27
              subst hp_27
              have hq_30 : (0 : Int32) = if bMay what q then 1 else 0 := by simp [bMay, c_1_0, c_1_1, c_1_2, c_1_3, c_1_4, b_28]
              exact zbreti hC hZ hr hlocks rfl ⟨hq_30, rfl⟩ dX6_maySet_69
          · refine lv_tableOut (tgt := 70) hx hb dX6_maySet_1 (by have e0 : ¬ what.toInt = 0 := lv_neT (k := 0) c_1_0 rfl; have e1 : ¬ what.toInt = 1 := lv_neT (k := 1) c_1_1 rfl; have e2 : ¬ what.toInt = 2 := lv_neT (k := 2) c_1_2 rfl; have e3 : ¬ what.toInt = 3 := lv_neT (k := 3) c_1_3 rfl; have e4 : ¬ what.toInt = 4 := lv_neT (k := 4) c_1_4 rfl; omega) (by decide) ?_
            refine lv_iconst (v := 0) hx hb dX6_maySet_70 (by decide) ?_
            have hq_31 : (0 : Int32) = if bMay what q then 1 else 0 := by simp [bMay, c_1_0, c_1_1, c_1_2, c_1_3, c_1_4]
            exact zbreti hC hZ hr hlocks rfl ⟨hq_31, rfl⟩ dX6_maySet_71

theorem mX6_chainNumber : zMd yX6_chainNumber cX6_chainNumber 2 (some .int) 1 := ⟨by decide +kernel, gt_of 267 (by decide +kernel) rfl, gt_of 44 (by decide +kernel) rfl, by decide⟩
theorem dX6_chainNumber_0 : decode cX6_chainNumber 0 = .ok (.iload_n 1, 1) := by decide +kernel
theorem dX6_chainNumber_1 : decode cX6_chainNumber 1 = .ok (.tableswitch 87 0 4 #[35, 46, 57, 68, 76], 35) := by decide +kernel
theorem dX6_chainNumber_36 : decode cX6_chainNumber 36 = .ok (.aload_n 0, 1) := by decide +kernel
theorem dX6_chainNumber_37 : decode cX6_chainNumber 37 = .ok (.getfield 10, 3) := by decide +kernel
theorem fX6_10 : zFld RX6 10 6 0 := ⟨RX6, TX6, 9, rfl, inX6, by decide, rfl, Or.inl (gt_of 226 (by decide +kernel) rfl)⟩
theorem dX6_chainNumber_40 : decode cX6_chainNumber 40 = .ok (.getfield 97, 3) := by decide +kernel
theorem fX6_97 : zFld RX6 97 2 0 := ⟨RX2, TX2, 5, rfl, inX2, by decide, rfl, Or.inr ⟨"ChainLeap", List.mem_of_getElem? (i := 136) (by decide +kernel)⟩⟩
theorem dX6_chainNumber_43 : decode cX6_chainNumber 43 = .ok (.getfield 100, 3) := by decide +kernel
theorem fX6_100 : zFld RX6 100 3 0 := ⟨RX3, TX3, 4, rfl, inX3, by decide, rfl, Or.inr ⟨"ChainLeap", List.mem_of_getElem? (i := 83) (by decide +kernel)⟩⟩
theorem dX6_chainNumber_46 : decode cX6_chainNumber 46 = .ok (.ireturn, 1) := by decide +kernel
theorem dX6_chainNumber_47 : decode cX6_chainNumber 47 = .ok (.aload_n 0, 1) := by decide +kernel
theorem dX6_chainNumber_48 : decode cX6_chainNumber 48 = .ok (.getfield 10, 3) := by decide +kernel
theorem dX6_chainNumber_51 : decode cX6_chainNumber 51 = .ok (.getfield 97, 3) := by decide +kernel
theorem dX6_chainNumber_54 : decode cX6_chainNumber 54 = .ok (.getfield 103, 3) := by decide +kernel
theorem fX6_103 : zFld RX6 103 3 1 := ⟨RX3, TX3, 4, rfl, inX3, by decide, rfl, Or.inr ⟨"ChainLeap", List.mem_of_getElem? (i := 87) (by decide +kernel)⟩⟩
theorem dX6_chainNumber_57 : decode cX6_chainNumber 57 = .ok (.ireturn, 1) := by decide +kernel
theorem dX6_chainNumber_58 : decode cX6_chainNumber 58 = .ok (.aload_n 0, 1) := by decide +kernel
theorem dX6_chainNumber_59 : decode cX6_chainNumber 59 = .ok (.getfield 10, 3) := by decide +kernel
theorem dX6_chainNumber_62 : decode cX6_chainNumber 62 = .ok (.getfield 97, 3) := by decide +kernel
theorem dX6_chainNumber_65 : decode cX6_chainNumber 65 = .ok (.getfield 106, 3) := by decide +kernel
theorem fX6_106 : zFld RX6 106 3 2 := ⟨RX3, TX3, 4, rfl, inX3, by decide, rfl, Or.inr ⟨"ChainLeap", List.mem_of_getElem? (i := 91) (by decide +kernel)⟩⟩
theorem dX6_chainNumber_68 : decode cX6_chainNumber 68 = .ok (.ireturn, 1) := by decide +kernel
theorem dX6_chainNumber_69 : decode cX6_chainNumber 69 = .ok (.aload_n 0, 1) := by decide +kernel
theorem dX6_chainNumber_70 : decode cX6_chainNumber 70 = .ok (.getfield 10, 3) := by decide +kernel
theorem dX6_chainNumber_73 : decode cX6_chainNumber 73 = .ok (.getfield 109, 3) := by decide +kernel
theorem fX6_109 : zFld RX6 109 2 1 := ⟨RX2, TX2, 5, rfl, inX2, by decide, rfl, Or.inr ⟨"ChainLeap", List.mem_of_getElem? (i := 138) (by decide +kernel)⟩⟩
theorem dX6_chainNumber_76 : decode cX6_chainNumber 76 = .ok (.ireturn, 1) := by decide +kernel
theorem dX6_chainNumber_77 : decode cX6_chainNumber 77 = .ok (.aload_n 0, 1) := by decide +kernel
theorem dX6_chainNumber_78 : decode cX6_chainNumber 78 = .ok (.getfield 10, 3) := by decide +kernel
theorem dX6_chainNumber_81 : decode cX6_chainNumber 81 = .ok (.getfield 97, 3) := by decide +kernel
theorem dX6_chainNumber_84 : decode cX6_chainNumber 84 = .ok (.getfield 112, 3) := by decide +kernel
theorem fX6_112 : zFld RX6 112 3 3 := ⟨RX3, TX3, 4, rfl, inX3, by decide, rfl, Or.inr ⟨"ChainLeap", List.mem_of_getElem? (i := 95) (by decide +kernel)⟩⟩
theorem dX6_chainNumber_87 : decode cX6_chainNumber 87 = .ok (.ireturn, 1) := by decide +kernel
theorem dX6_chainNumber_88 : decode cX6_chainNumber 88 = .ok (.iconst (-1), 1) := by decide +kernel
theorem dX6_chainNumber_89 : decode cX6_chainNumber 89 = .ok (.ireturn, 1) := by decide +kernel
set_option maxRecDepth 100000 in
theorem c_X6_chainNumber (l : Launch) (D : va_G) (cy : Nat → Nat) (n : Nat) (ad : Nat → Nat) (F : Nat → va_E) (sz : Nat) (pic : Int32) (sc ps : Scn) (sh : Nat → Shf) (rd : Rdr) (dr : Stg) (fa : Tal) (mi : Crs) (hn : 56 ≤ n) (hX : RX ad cy F pic sc ps sh rd dr fa mi) (what : Int32) : Met l yX6_chainNumber (zw yX6_chainNumber cX6_chainNumber 2 (some .int)) (rmL 0) (zPc D cy n ad F sz [.ref (ad 0), .int what]) (va_Qi (fun r F1 => r = sCh sc what ∧ F = F1) (zB D n ad) (zA n ad sz)) 0 0 (zA n ad sz) := by
  refine zmet (by decide +kernel) (Nat.le_of_ble_eq_true rfl) (fun p e s m args below meth c ls hC hsz hZ hA hr hlocks hnm hl => ?_)
  have hC : zC p m c cX6_chainNumber 2 s args RX6 D cy := hC
  have hx := hC.1.1
  have hb := hC.1.2.1
  have hl : lv_has ls 2 [(0, .ref (ad 0)), (1, .int what)] := hl
  refine lv_iload_n hx hb dX6_chainNumber_0 rfl (lv_at hl 1 rfl) ?_
  by_cases c_1_0 : what = 0
  · refine lv_tableIn (off := 35) (tgt := 36) hx hb dX6_chainNumber_1 (by rw [c_1_0]; decide) (by rw [c_1_0]; decide) (by rw [c_1_0]; rfl) (by decide) ?_
    refine lv_aload_n hx hb dX6_chainNumber_36 rfl (lv_at hl 0 rfl) ?_
    refine zget hC hZ fX6_10 (zlt hn rfl) hX.1 rfl dX6_chainNumber_37 ?_
    refine zget hC hZ fX6_97 (zlt hn rfl) hX.2.1.1 rfl dX6_chainNumber_40 ?_
    refine zget hC hZ fX6_100 (zlt hn rfl) hX.2.1.2.1 rfl dX6_chainNumber_43 ?_
    have hq_1 : sc.1.1 = sCh sc what := by first | rfl | simp [sCh, c_1_0] | (simp only [sCh]; simp [c_1_0])
    exact zireti hC hZ hr hlocks ⟨hq_1, rfl⟩ dX6_chainNumber_46
  · by_cases c_1_1 : what = 1
    · refine lv_tableIn (off := 46) (tgt := 47) hx hb dX6_chainNumber_1 (by rw [c_1_1]; decide) (by rw [c_1_1]; decide) (by rw [c_1_1]; rfl) (by decide) ?_
      refine lv_aload_n hx hb dX6_chainNumber_47 rfl (lv_at hl 0 rfl) ?_
      refine zget hC hZ fX6_10 (zlt hn rfl) hX.1 rfl dX6_chainNumber_48 ?_
      refine zget hC hZ fX6_97 (zlt hn rfl) hX.2.1.1 rfl dX6_chainNumber_51 ?_
      refine zget hC hZ fX6_103 (zlt hn rfl) hX.2.1.2.1 rfl dX6_chainNumber_54 ?_
      have hq_2 : sc.1.2.1 = sCh sc what := by first | rfl | simp [sCh, c_1_0, c_1_1] | (simp only [sCh]; simp [c_1_0, c_1_1])
      exact zireti hC hZ hr hlocks ⟨hq_2, rfl⟩ dX6_chainNumber_57
    · by_cases c_1_2 : what = 2
      · refine lv_tableIn (off := 57) (tgt := 58) hx hb dX6_chainNumber_1 (by rw [c_1_2]; decide) (by rw [c_1_2]; decide) (by rw [c_1_2]; rfl) (by decide) ?_
        refine lv_aload_n hx hb dX6_chainNumber_58 rfl (lv_at hl 0 rfl) ?_
        refine zget hC hZ fX6_10 (zlt hn rfl) hX.1 rfl dX6_chainNumber_59 ?_
        refine zget hC hZ fX6_97 (zlt hn rfl) hX.2.1.1 rfl dX6_chainNumber_62 ?_
        refine zget hC hZ fX6_106 (zlt hn rfl) hX.2.1.2.1 rfl dX6_chainNumber_65 ?_
        have hq_3 : sc.1.2.2.1 = sCh sc what := by first | rfl | simp [sCh, c_1_0, c_1_1, c_1_2] | (simp only [sCh]; simp [c_1_0, c_1_1, c_1_2])
        exact zireti hC hZ hr hlocks ⟨hq_3, rfl⟩ dX6_chainNumber_68
      · by_cases c_1_3 : what = 3
        · refine lv_tableIn (off := 68) (tgt := 69) hx hb dX6_chainNumber_1 (by rw [c_1_3]; decide) (by rw [c_1_3]; decide) (by rw [c_1_3]; rfl) (by decide) ?_
          refine lv_aload_n hx hb dX6_chainNumber_69 rfl (lv_at hl 0 rfl) ?_
          refine zget hC hZ fX6_10 (zlt hn rfl) hX.1 rfl dX6_chainNumber_70 ?_
          refine zget hC hZ fX6_109 (zlt hn rfl) hX.2.1.1 rfl dX6_chainNumber_73 ?_
          have hq_4 : sc.2.1 = sCh sc what := by first | rfl | simp [sCh, c_1_0, c_1_1, c_1_2, c_1_3] | (simp only [sCh]; simp [c_1_0, c_1_1, c_1_2, c_1_3])
          exact zireti hC hZ hr hlocks ⟨hq_4, rfl⟩ dX6_chainNumber_76
        · by_cases c_1_4 : what = 4
          · refine lv_tableIn (off := 76) (tgt := 77) hx hb dX6_chainNumber_1 (by rw [c_1_4]; decide) (by rw [c_1_4]; decide) (by rw [c_1_4]; rfl) (by decide) ?_
            refine lv_aload_n hx hb dX6_chainNumber_77 rfl (lv_at hl 0 rfl) ?_
            refine zget hC hZ fX6_10 (zlt hn rfl) hX.1 rfl dX6_chainNumber_78 ?_
            refine zget hC hZ fX6_97 (zlt hn rfl) hX.2.1.1 rfl dX6_chainNumber_81 ?_
            refine zget hC hZ fX6_112 (zlt hn rfl) hX.2.1.2.1 rfl dX6_chainNumber_84 ?_
            have hq_5 : sc.1.2.2.2 = sCh sc what := by first | rfl | simp [sCh, c_1_0, c_1_1, c_1_2, c_1_3, c_1_4] | (simp only [sCh]; simp [c_1_0, c_1_1, c_1_2, c_1_3, c_1_4])
            exact zireti hC hZ hr hlocks ⟨hq_5, rfl⟩ dX6_chainNumber_87
          · refine lv_tableOut (tgt := 88) hx hb dX6_chainNumber_1 (by have e0 : ¬ what.toInt = 0 := lv_neT (k := 0) c_1_0 rfl; have e1 : ¬ what.toInt = 1 := lv_neT (k := 1) c_1_1 rfl; have e2 : ¬ what.toInt = 2 := lv_neT (k := 2) c_1_2 rfl; have e3 : ¬ what.toInt = 3 := lv_neT (k := 3) c_1_3 rfl; have e4 : ¬ what.toInt = 4 := lv_neT (k := 4) c_1_4 rfl; omega) (by decide) ?_
            refine lv_iconst (v := (-1)) hx hb dX6_chainNumber_88 (by decide) ?_
            have hq_6 : (-1 : Int32) = sCh sc what := by first | rfl | simp [sCh, c_1_0, c_1_1, c_1_2, c_1_3, c_1_4] | (simp only [sCh]; simp [c_1_0, c_1_1, c_1_2, c_1_3, c_1_4])
            exact zireti hC hZ hr hlocks ⟨hq_6, rfl⟩ dX6_chainNumber_89

theorem mX6_set : zMd yX6_set cX6_set 4 (some .int) 2 := ⟨by decide +kernel, gt_of 257 (by decide +kernel) rfl, gt_of 44 (by decide +kernel) rfl, by decide⟩
theorem dX6_set_0 : decode cX6_set 0 = .ok (.iload_n 1, 1) := by decide +kernel
theorem dX6_set_1 : decode cX6_set 1 = .ok (.iload_n 2, 1) := by decide +kernel
theorem dX6_set_2 : decode cX6_set 2 = .ok (.invokestatic 82, 3) := by decide +kernel
theorem kX6_82 : zLk RX6 82 yX6_maySet := Or.inl (gt_of 258 (by decide +kernel) rfl)
theorem sX6_maySet : Cond.static yX6_maySet ∈ gtbl := gt_of 259 (by decide +kernel) rfl
theorem dX6_set_5 : decode cX6_set 5 = .ok (.ifCond .ne 5, 3) := by decide +kernel
theorem dX6_set_10 : decode cX6_set 10 = .ok (.iload_n 1, 1) := by decide +kernel
theorem dX6_set_11 : decode cX6_set 11 = .ok (.iconst 3, 1) := by decide +kernel
theorem dX6_set_12 : decode cX6_set 12 = .ok (.if_icmp .ne 20, 3) := by decide +kernel
theorem dX6_set_32 : decode cX6_set 32 = .ok (.aload_n 0, 1) := by decide +kernel
theorem dX6_set_33 : decode cX6_set 33 = .ok (.iload_n 1, 1) := by decide +kernel
theorem dX6_set_34 : decode cX6_set 34 = .ok (.invokevirtual 93, 3) := by decide +kernel
theorem kX6_93 : zLk RX6 93 yX6_chainNumber := Or.inl (gt_of 264 (by decide +kernel) rfl)
theorem vX6_chainNumber : zMi yX6_chainNumber := ⟨gt_of 266 (by decide +kernel) rfl, gt_of 0 (by decide +kernel) rfl⟩
theorem dX6_set_37 : decode cX6_set 37 = .ok (.istore_n 3, 1) := by decide +kernel
theorem dX6_set_38 : decode cX6_set 38 = .ok (.iload_n 1, 1) := by decide +kernel
theorem dX6_set_39 : decode cX6_set 39 = .ok (.tableswitch 82 0 3 #[29, 43, 57, 71], 29) := by decide +kernel
theorem dX6_set_68 : decode cX6_set 68 = .ok (.aload_n 0, 1) := by decide +kernel
theorem dX6_set_69 : decode cX6_set 69 = .ok (.getfield 10, 3) := by decide +kernel
theorem dX6_set_72 : decode cX6_set 72 = .ok (.getfield 97, 3) := by decide +kernel
theorem dX6_set_75 : decode cX6_set 75 = .ok (.iload_n 2, 1) := by decide +kernel
theorem dX6_set_76 : decode cX6_set 76 = .ok (.putfield 100, 3) := by decide +kernel
theorem pX6_100 : zFldP RX6 100 3 0 false .int := ⟨RX3, TX3, 4, tyX3, rfl, inX3, by decide, rfl, Or.inr ⟨rfl, "ChainLeap", List.mem_of_getElem? (i := 83) (by decide +kernel)⟩, tyX3_ok, nmX3, rfl, by decide +kernel, fun h => by cases h⟩
theorem dX6_set_79 : decode cX6_set 79 = .ok (.goto 53, 3) := by decide +kernel
theorem dX6_set_132 : decode cX6_set 132 = .ok (.iload_n 3, 1) := by decide +kernel
theorem dX6_set_133 : decode cX6_set 133 = .ok (.ireturn, 1) := by decide +kernel
theorem dX6_set_82 : decode cX6_set 82 = .ok (.aload_n 0, 1) := by decide +kernel
theorem dX6_set_83 : decode cX6_set 83 = .ok (.getfield 10, 3) := by decide +kernel
theorem dX6_set_86 : decode cX6_set 86 = .ok (.getfield 97, 3) := by decide +kernel
theorem dX6_set_89 : decode cX6_set 89 = .ok (.iload_n 2, 1) := by decide +kernel
theorem dX6_set_90 : decode cX6_set 90 = .ok (.putfield 103, 3) := by decide +kernel
theorem pX6_103 : zFldP RX6 103 3 1 false .int := ⟨RX3, TX3, 4, tyX3, rfl, inX3, by decide, rfl, Or.inr ⟨rfl, "ChainLeap", List.mem_of_getElem? (i := 87) (by decide +kernel)⟩, tyX3_ok, nmX3, rfl, by decide +kernel, fun h => by cases h⟩
theorem dX6_set_93 : decode cX6_set 93 = .ok (.goto 39, 3) := by decide +kernel
theorem dX6_set_96 : decode cX6_set 96 = .ok (.aload_n 0, 1) := by decide +kernel
theorem dX6_set_97 : decode cX6_set 97 = .ok (.getfield 10, 3) := by decide +kernel
theorem dX6_set_100 : decode cX6_set 100 = .ok (.getfield 97, 3) := by decide +kernel
theorem dX6_set_103 : decode cX6_set 103 = .ok (.iload_n 2, 1) := by decide +kernel
theorem dX6_set_104 : decode cX6_set 104 = .ok (.putfield 106, 3) := by decide +kernel
theorem pX6_106 : zFldP RX6 106 3 2 false .int := ⟨RX3, TX3, 4, tyX3, rfl, inX3, by decide, rfl, Or.inr ⟨rfl, "ChainLeap", List.mem_of_getElem? (i := 91) (by decide +kernel)⟩, tyX3_ok, nmX3, rfl, by decide +kernel, fun h => by cases h⟩
theorem dX6_set_107 : decode cX6_set 107 = .ok (.goto 25, 3) := by decide +kernel
theorem dX6_set_110 : decode cX6_set 110 = .ok (.aload_n 0, 1) := by decide +kernel
theorem dX6_set_111 : decode cX6_set 111 = .ok (.getfield 10, 3) := by decide +kernel
theorem dX6_set_114 : decode cX6_set 114 = .ok (.iload_n 2, 1) := by decide +kernel
theorem dX6_set_115 : decode cX6_set 115 = .ok (.putfield 109, 3) := by decide +kernel
theorem pX6_109 : zFldP RX6 109 2 1 false .int := ⟨RX2, TX2, 5, tyX2, rfl, inX2, by decide, rfl, Or.inr ⟨rfl, "ChainLeap", List.mem_of_getElem? (i := 138) (by decide +kernel)⟩, tyX2_ok, nmX2, rfl, by decide +kernel, fun h => by cases h⟩
theorem dX6_set_118 : decode cX6_set 118 = .ok (.goto 14, 3) := by decide +kernel
theorem dX6_set_121 : decode cX6_set 121 = .ok (.aload_n 0, 1) := by decide +kernel
theorem dX6_set_122 : decode cX6_set 122 = .ok (.getfield 10, 3) := by decide +kernel
theorem dX6_set_125 : decode cX6_set 125 = .ok (.getfield 97, 3) := by decide +kernel
theorem dX6_set_128 : decode cX6_set 128 = .ok (.iload_n 2, 1) := by decide +kernel
theorem dX6_set_129 : decode cX6_set 129 = .ok (.putfield 112, 3) := by decide +kernel
theorem pX6_112 : zFldP RX6 112 3 3 false .int := ⟨RX3, TX3, 4, tyX3, rfl, inX3, by decide, rfl, Or.inr ⟨rfl, "ChainLeap", List.mem_of_getElem? (i := 95) (by decide +kernel)⟩, tyX3_ok, nmX3, rfl, by decide +kernel, fun h => by cases h⟩
theorem dX6_set_15 : decode cX6_set 15 = .ok (.aload_n 0, 1) := by decide +kernel
theorem dX6_set_16 : decode cX6_set 16 = .ok (.getfield 10, 3) := by decide +kernel
theorem dX6_set_19 : decode cX6_set 19 = .ok (.getfield 86, 3) := by decide +kernel
theorem fX6_86 : zFld RX6 86 2 4 := ⟨RX2, TX2, 5, rfl, inX2, by decide, rfl, Or.inr ⟨"ChainLeap", List.mem_of_getElem? (i := 144) (by decide +kernel)⟩⟩
theorem dX6_set_22 : decode cX6_set 22 = .ok (.getfield 89, 3) := by decide +kernel
theorem fX6_89 : zFld RX6 89 0 3 := ⟨RX0, TX0, 5, rfl, inX0, by decide, rfl, Or.inr ⟨"ChainLeap", List.mem_of_getElem? (i := 121) (by decide +kernel)⟩⟩
theorem dX6_set_25 : decode cX6_set 25 = .ok (.iload_n 2, 1) := by decide +kernel
theorem dX6_set_26 : decode cX6_set 26 = .ok (.if_icmp .lt 6, 3) := by decide +kernel
theorem dX6_set_29 : decode cX6_set 29 = .ok (.bipush (-3), 2) := by decide +kernel
theorem dX6_set_31 : decode cX6_set 31 = .ok (.ireturn, 1) := by decide +kernel
theorem dX6_set_8 : decode cX6_set 8 = .ok (.iconst (-1), 1) := by decide +kernel
theorem dX6_set_9 : decode cX6_set 9 = .ok (.ireturn, 1) := by decide +kernel
set_option maxRecDepth 100000 in
theorem c_X6_set (l : Launch) (D : va_G) (cy : Nat → Nat) (n : Nat) (ad : Nat → Nat) (F : Nat → va_E) (sz : Nat) (pic : Int32) (sc ps : Scn) (sh : Nat → Shf) (rd : Rdr) (dr : Stg) (fa : Tal) (mi : Crs) (hn : 56 ≤ n) (hX : RX ad cy F pic sc ps sh rd dr fa mi) (what q : Int32) : Met l yX6_set (zw yX6_set cX6_set 4 (some .int)) (rmL 2) (zPc D cy n ad F sz [.ref (ad 0), .int what, .int q]) (va_Qi (fun r F1 => r = sSet sc what q ∧ RX ad cy F1 pic (sSetN sc what q) ps sh rd dr fa mi ∧ fr56 F F1) (zB D n ad) (zA n ad sz)) 0 0 (zA n ad sz) := by
  refine zmet (by decide +kernel) (Nat.le_of_ble_eq_true rfl) (fun p e s m args below meth c ls hC hsz hZ hA hr hlocks hnm hl => ?_)
  have hC : zC p m c cX6_set 4 s args RX6 D cy := hC
  have hx := hC.1.1
  have hb := hC.1.2.1
  have hl : lv_has ls 4 [(0, .ref (ad 0)), (1, .int what), (2, .int q)] := hl
  refine lv_iload_n hx hb dX6_set_0 rfl (lv_at hl 1 rfl) ?_
  refine lv_iload_n hx hb dX6_set_1 rfl (lv_at hl 2 rfl) ?_
  refine zgoi hZ hA (zrunS (As := [.int what, .int q]) (rest := []) hC hZ (c_X6_maySet l D cy n ad F s.heap.size what q) mX6_maySet sX6_maySet kX6_82 (zRj_of rfl) rfl hl.1 rfl (Nat.le_of_ble_eq_true rfl) dX6_set_2 ⟨Nat.le_refl _, Nat.le_refl _⟩) (fun r_2 F_1 hp_3 H locs hZ => ?_)
  obtain ⟨hp_3, rfl⟩ := hp_3
  by_cases b_4 : bMay what q
  · rw [if_pos b_4] at hp_3
    subst hp_3
    refine lv_if_ne (tgt := 10) hx hb dX6_set_5 (by decide) (fun _ => ?_) (fun h => absurd h (by decide))
    refine lv_iload_n hx hb dX6_set_10 rfl (lv_at hl 1 rfl) ?_
    refine lv_iconst (v := 3) hx hb dX6_set_11 (by decide) ?_
    refine lv_icmp_ne (tgt := 32) hx hb dX6_set_12 (by decide) (fun c_12 => ?_) (fun c_12 => ?_)
    · refine lv_aload_n hx hb dX6_set_32 rfl (lv_at hl 0 rfl) ?_
      refine lv_iload_n hx hb dX6_set_33 rfl (lv_at hl 1 rfl) ?_
      refine zgoi hZ hA (zrunV (As := [.int what]) (rest := []) (k := 0) hC hZ (c_X6_chainNumber l D cy n ad F H.size pic sc ps sh rd dr fa mi hn hX what) mX6_chainNumber vX6_chainNumber kX6_93 (zRj_of rfl) (zlt hn rfl) hX.1 rfl rfl hl.1 rfl (Nat.le_of_ble_eq_true rfl) dX6_set_34 ⟨Nat.le_refl _, Nat.le_refl _⟩) (fun r_6 F_5 hp_7 H locs hZ => ?_)
      obtain ⟨rfl, rfl⟩ := hp_7
      refine lv_istore_n (lv' := [(3, .int (sCh sc what)), (0, .ref (ad 0)), (1, .int what), (2, .int q)]) hx hb dX6_set_37 rfl hl (by decide) rfl (fun ls hl => ?_)
      refine lv_iload_n hx hb dX6_set_38 rfl (lv_at hl 2 rfl) ?_
      by_cases c_39_0 : what = 0
      · refine lv_tableIn (off := 29) (tgt := 68) hx hb dX6_set_39 (by rw [c_39_0]; decide) (by rw [c_39_0]; decide) (by rw [c_39_0]; rfl) (by decide) ?_
        refine lv_aload_n hx hb dX6_set_68 rfl (lv_at hl 1 rfl) ?_
        refine zget hC hZ fX6_10 (zlt hn rfl) hX.1 rfl dX6_set_69 ?_
        refine zget hC hZ fX6_97 (zlt hn rfl) hX.2.1.1 rfl dX6_set_72 ?_
        refine lv_iload_n hx hb dX6_set_75 rfl (lv_at hl 3 rfl) ?_
        refine zput (E := oSetting (q, sc.1.2.1, sc.1.2.2.1, sc.1.2.2.2)) hC hZ pX6_100 (zlt hn rfl) hX.2.1.2.1 rfl rfl rfl (Nat.le_of_ble_eq_true rfl) dX6_set_76 (fun F_8 hF_9 H locs hZ => ?_)
        have hX_10 := rx_chain hX hF_9
        have hf_11 := fr56_up fr56_rf hF_9 (by decide)
        have hX_10 : RX ad cy F_8 pic ((q, sc.1.2.1, sc.1.2.2.1, sc.1.2.2.2), sc.2) ps sh rd dr fa mi := hX_10
        refine lv_goto (tgt := 132) hx hb dX6_set_79 (by decide) ?_
        refine lv_iload_n hx hb dX6_set_132 rfl (lv_at hl 0 rfl) ?_
        have hq := sSet_ok (sc := sc) b_4 (fun h => c_12 h.1)
        have hs : sSetS sc what q = ((q, sc.1.2.1, sc.1.2.2.1, sc.1.2.2.2), sc.2) := by simp [sSetS, c_12, c_39_0]
        rw [hs] at hq
        exact zireti hC hZ hr hlocks ⟨hq.1.symm, by rw [hq.2]; exact hX_10, hf_11⟩ dX6_set_133
      · by_cases c_39_1 : what = 1
        · refine lv_tableIn (off := 43) (tgt := 82) hx hb dX6_set_39 (by rw [c_39_1]; decide) (by rw [c_39_1]; decide) (by rw [c_39_1]; rfl) (by decide) ?_
          refine lv_aload_n hx hb dX6_set_82 rfl (lv_at hl 1 rfl) ?_
          refine zget hC hZ fX6_10 (zlt hn rfl) hX.1 rfl dX6_set_83 ?_
          refine zget hC hZ fX6_97 (zlt hn rfl) hX.2.1.1 rfl dX6_set_86 ?_
          refine lv_iload_n hx hb dX6_set_89 rfl (lv_at hl 3 rfl) ?_
          refine zput (E := oSetting (sc.1.1, q, sc.1.2.2.1, sc.1.2.2.2)) hC hZ pX6_103 (zlt hn rfl) hX.2.1.2.1 rfl rfl rfl (Nat.le_of_ble_eq_true rfl) dX6_set_90 (fun F_12 hF_13 H locs hZ => ?_)
          have hX_14 := rx_chain hX hF_13
          have hf_15 := fr56_up fr56_rf hF_13 (by decide)
          have hX_14 : RX ad cy F_12 pic ((sc.1.1, q, sc.1.2.2.1, sc.1.2.2.2), sc.2) ps sh rd dr fa mi := hX_14
          refine lv_goto (tgt := 132) hx hb dX6_set_93 (by decide) ?_
          refine lv_iload_n hx hb dX6_set_132 rfl (lv_at hl 0 rfl) ?_
          have hq := sSet_ok (sc := sc) b_4 (fun h => c_12 h.1)
          have hs : sSetS sc what q = ((sc.1.1, q, sc.1.2.2.1, sc.1.2.2.2), sc.2) := by simp [sSetS, c_12, c_39_0, c_39_1]
          rw [hs] at hq
          exact zireti hC hZ hr hlocks ⟨hq.1.symm, by rw [hq.2]; exact hX_14, hf_15⟩ dX6_set_133
        · by_cases c_39_2 : what = 2
          · refine lv_tableIn (off := 57) (tgt := 96) hx hb dX6_set_39 (by rw [c_39_2]; decide) (by rw [c_39_2]; decide) (by rw [c_39_2]; rfl) (by decide) ?_
            refine lv_aload_n hx hb dX6_set_96 rfl (lv_at hl 1 rfl) ?_
            refine zget hC hZ fX6_10 (zlt hn rfl) hX.1 rfl dX6_set_97 ?_
            refine zget hC hZ fX6_97 (zlt hn rfl) hX.2.1.1 rfl dX6_set_100 ?_
            refine lv_iload_n hx hb dX6_set_103 rfl (lv_at hl 3 rfl) ?_
            refine zput (E := oSetting (sc.1.1, sc.1.2.1, q, sc.1.2.2.2)) hC hZ pX6_106 (zlt hn rfl) hX.2.1.2.1 rfl rfl rfl (Nat.le_of_ble_eq_true rfl) dX6_set_104 (fun F_16 hF_17 H locs hZ => ?_)
            have hX_18 := rx_chain hX hF_17
            have hf_19 := fr56_up fr56_rf hF_17 (by decide)
            have hX_18 : RX ad cy F_16 pic ((sc.1.1, sc.1.2.1, q, sc.1.2.2.2), sc.2) ps sh rd dr fa mi := hX_18
            refine lv_goto (tgt := 132) hx hb dX6_set_107 (by decide) ?_
            refine lv_iload_n hx hb dX6_set_132 rfl (lv_at hl 0 rfl) ?_
            have hq := sSet_ok (sc := sc) b_4 (fun h => c_12 h.1)
            have hs : sSetS sc what q = ((sc.1.1, sc.1.2.1, q, sc.1.2.2.2), sc.2) := by simp [sSetS, c_12, c_39_0, c_39_1, c_39_2]
            rw [hs] at hq
            exact zireti hC hZ hr hlocks ⟨hq.1.symm, by rw [hq.2]; exact hX_18, hf_19⟩ dX6_set_133
          · by_cases c_39_3 : what = 3
            · refine lv_tableIn (off := 71) (tgt := 110) hx hb dX6_set_39 (by rw [c_39_3]; decide) (by rw [c_39_3]; decide) (by rw [c_39_3]; rfl) (by decide) ?_
              refine lv_aload_n hx hb dX6_set_110 rfl (lv_at hl 1 rfl) ?_
              refine zget hC hZ fX6_10 (zlt hn rfl) hX.1 rfl dX6_set_111 ?_
              refine lv_iload_n hx hb dX6_set_114 rfl (lv_at hl 3 rfl) ?_
              refine zput (E := oScene ad 1 q sc.2.2.2.1) hC hZ pX6_109 (zlt hn rfl) hX.2.1.1 rfl rfl rfl (Nat.le_of_ble_eq_true rfl) dX6_set_115 (fun F_20 hF_21 H locs hZ => ?_)
              have hX_22 := rx_self hX hF_21
              have hf_23 := fr56_up fr56_rf hF_21 (by decide)
              have hX_22 : RX ad cy F_20 pic (sc.1, q, sc.2.2.1, sc.2.2.2.1, sc.2.2.2.2) ps sh rd dr fa mi := hX_22
              refine lv_goto (tgt := 132) hx hb dX6_set_118 (by decide) ?_
              refine lv_iload_n hx hb dX6_set_132 rfl (lv_at hl 0 rfl) ?_
              have hq := sSet_ok (sc := sc) b_4 (fun h => c_12 h.1)
              have hs : sSetS sc what q = (sc.1, q, sc.2.2.1, sc.2.2.2.1, sc.2.2.2.2) := by simp [sSetS, c_12, c_39_0, c_39_1, c_39_2, c_39_3]
              rw [hs] at hq
              exact zireti hC hZ hr hlocks ⟨hq.1.symm, by rw [hq.2]; exact hX_22, hf_23⟩ dX6_set_133
            · refine lv_tableOut (tgt := 121) hx hb dX6_set_39 (by have e0 : ¬ what.toInt = 0 := lv_neT (k := 0) c_39_0 rfl; have e1 : ¬ what.toInt = 1 := lv_neT (k := 1) c_39_1 rfl; have e2 : ¬ what.toInt = 2 := lv_neT (k := 2) c_39_2 rfl; have e3 : ¬ what.toInt = 3 := lv_neT (k := 3) c_39_3 rfl; omega) (by decide) ?_
              refine lv_aload_n hx hb dX6_set_121 rfl (lv_at hl 1 rfl) ?_
              refine zget hC hZ fX6_10 (zlt hn rfl) hX.1 rfl dX6_set_122 ?_
              refine zget hC hZ fX6_97 (zlt hn rfl) hX.2.1.1 rfl dX6_set_125 ?_
              refine lv_iload_n hx hb dX6_set_128 rfl (lv_at hl 3 rfl) ?_
              refine zput (E := oSetting (sc.1.1, sc.1.2.1, sc.1.2.2.1, q)) hC hZ pX6_112 (zlt hn rfl) hX.2.1.2.1 rfl rfl rfl (Nat.le_of_ble_eq_true rfl) dX6_set_129 (fun F_24 hF_25 H locs hZ => ?_)
              have hX_26 := rx_chain hX hF_25
              have hf_27 := fr56_up fr56_rf hF_25 (by decide)
              have hX_26 : RX ad cy F_24 pic ((sc.1.1, sc.1.2.1, sc.1.2.2.1, q), sc.2) ps sh rd dr fa mi := hX_26
              refine lv_iload_n hx hb dX6_set_132 rfl (lv_at hl 0 rfl) ?_
              have hq := sSet_ok (sc := sc) b_4 (fun h => c_12 h.1)
              have hs : sSetS sc what q = ((sc.1.1, sc.1.2.1, sc.1.2.2.1, q), sc.2) := by simp [sSetS, c_12, c_39_0, c_39_1, c_39_2, c_39_3]
              rw [hs] at hq
              exact zireti hC hZ hr hlocks ⟨hq.1.symm, by rw [hq.2]; exact hX_26, hf_27⟩ dX6_set_133
    · refine lv_aload_n hx hb dX6_set_15 rfl (lv_at hl 0 rfl) ?_
      refine zget hC hZ fX6_10 (zlt hn rfl) hX.1 rfl dX6_set_16 ?_
      refine zget hC hZ fX6_86 (zlt hn rfl) hX.2.1.1 rfl dX6_set_19 ?_
      refine zget hC hZ fX6_89 (zlt hn rfl) hX.2.1.2.2.2.1 rfl dX6_set_22 ?_
      refine lv_iload_n hx hb dX6_set_25 rfl (lv_at hl 2 rfl) ?_
      refine lv_icmp_lt (tgt := 32) hx hb dX6_set_26 (by decide) (fun c_26 => ?_) (fun c_26 => ?_)
      · refine lv_aload_n hx hb dX6_set_32 rfl (lv_at hl 0 rfl) ?_
        refine lv_iload_n hx hb dX6_set_33 rfl (lv_at hl 1 rfl) ?_
        refine zgoi hZ hA (zrunV (As := [.int what]) (rest := []) (k := 0) hC hZ (c_X6_chainNumber l D cy n ad F H.size pic sc ps sh rd dr fa mi hn hX what) mX6_chainNumber vX6_chainNumber kX6_93 (zRj_of rfl) (zlt hn rfl) hX.1 rfl rfl hl.1 rfl (Nat.le_of_ble_eq_true rfl) dX6_set_34 ⟨Nat.le_refl _, Nat.le_refl _⟩) (fun r_29 F_28 hp_30 H locs hZ => ?_)
        obtain ⟨rfl, rfl⟩ := hp_30
        refine lv_istore_n (lv' := [(3, .int (sCh sc what)), (0, .ref (ad 0)), (1, .int what), (2, .int q)]) hx hb dX6_set_37 rfl hl (by decide) rfl (fun ls hl => ?_)
        refine lv_iload_n hx hb dX6_set_38 rfl (lv_at hl 2 rfl) ?_
        refine lv_tableIn (off := 71) (tgt := 110) hx hb dX6_set_39 (by rw [c_12]; decide) (by rw [c_12]; decide) (by rw [c_12]; rfl) (by decide) ?_
        refine lv_aload_n hx hb dX6_set_110 rfl (lv_at hl 1 rfl) ?_
        refine zget hC hZ fX6_10 (zlt hn rfl) hX.1 rfl dX6_set_111 ?_
        refine lv_iload_n hx hb dX6_set_114 rfl (lv_at hl 3 rfl) ?_
        refine zput (E := oScene ad 1 q sc.2.2.2.1) hC hZ pX6_109 (zlt hn rfl) hX.2.1.1 rfl rfl rfl (Nat.le_of_ble_eq_true rfl) dX6_set_115 (fun F_31 hF_32 H locs hZ => ?_)
        have hX_33 := rx_self hX hF_32
        have hf_34 := fr56_up fr56_rf hF_32 (by decide)
        have hX_33 : RX ad cy F_31 pic (sc.1, q, sc.2.2.1, sc.2.2.2.1, sc.2.2.2.2) ps sh rd dr fa mi := hX_33
        refine lv_goto (tgt := 132) hx hb dX6_set_118 (by decide) ?_
        refine lv_iload_n hx hb dX6_set_132 rfl (lv_at hl 0 rfl) ?_
        have hq := sSet_ok (sc := sc) b_4 (fun h => absurd h.2 (Int32.not_le.mpr c_26))
        have hs : sSetS sc what q = (sc.1, q, sc.2.2.1, sc.2.2.2.1, sc.2.2.2.2) := by simp [sSetS, c_12]
        rw [hs] at hq
        exact zireti hC hZ hr hlocks ⟨hq.1.symm, by rw [hq.2]; exact hX_33, hf_34⟩ dX6_set_133
      · refine lv_bipush (v := (-3)) hx hb dX6_set_29 (by decide) ?_
        have hq := sSet_now (sc := sc) b_4 ⟨c_12, Int32.not_lt.mp c_26⟩
        exact zireti hC hZ hr hlocks ⟨hq.1.symm, by rw [hq.2]; exact hX, fr56_rf⟩ dX6_set_31
  · rw [if_neg b_4] at hp_3
    subst hp_3
    refine lv_if_ne (tgt := 10) hx hb dX6_set_5 (by decide) (fun h => absurd (by decide) h) (fun _ => ?_)
    refine lv_iconst (v := (-1)) hx hb dX6_set_8 (by decide) ?_
    have hq := sSet_no (sc := sc) b_4
    exact zireti hC hZ hr hlocks ⟨hq.1.symm, by rw [hq.2]; exact hX, fr56_rf⟩ dX6_set_9

theorem mX6_leave : zMd yX6_leave cX6_leave 1 (some .int) 0 := ⟨by decide +kernel, gt_of 362 (by decide +kernel) rfl, gt_of 44 (by decide +kernel) rfl, by decide⟩
theorem dX6_leave_0 : decode cX6_leave 0 = .ok (.aload_n 0, 1) := by decide +kernel
theorem dX6_leave_1 : decode cX6_leave 1 = .ok (.getfield 10, 3) := by decide +kernel
theorem dX6_leave_4 : decode cX6_leave 4 = .ok (.getfield 150, 3) := by decide +kernel
theorem fX6_150 : zFld RX6 150 2 3 := ⟨RX2, TX2, 5, rfl, inX2, by decide, rfl, Or.inr ⟨"ChainLeap", List.mem_of_getElem? (i := 142) (by decide +kernel)⟩⟩
theorem dX6_leave_7 : decode cX6_leave 7 = .ok (.ifCond .gt 6, 3) := by decide +kernel
theorem dX6_leave_13 : decode cX6_leave 13 = .ok (.aload_n 0, 1) := by decide +kernel
theorem dX6_leave_14 : decode cX6_leave 14 = .ok (.getfield 10, 3) := by decide +kernel
theorem dX6_leave_17 : decode cX6_leave 17 = .ok (.dup, 1) := by decide +kernel
theorem dX6_leave_18 : decode cX6_leave 18 = .ok (.getfield 150, 3) := by decide +kernel
theorem dX6_leave_21 : decode cX6_leave 21 = .ok (.iconst 1, 1) := by decide +kernel
theorem dX6_leave_22 : decode cX6_leave 22 = .ok (.isub, 1) := by decide +kernel
theorem dX6_leave_23 : decode cX6_leave 23 = .ok (.putfield 150, 3) := by decide +kernel
theorem pX6_150 : zFldP RX6 150 2 3 false .int := ⟨RX2, TX2, 5, tyX2, rfl, inX2, by decide, rfl, Or.inr ⟨rfl, "ChainLeap", List.mem_of_getElem? (i := 142) (by decide +kernel)⟩, tyX2_ok, nmX2, rfl, by decide +kernel, fun h => by cases h⟩
theorem dX6_leave_26 : decode cX6_leave 26 = .ok (.aload_n 0, 1) := by decide +kernel
theorem dX6_leave_27 : decode cX6_leave 27 = .ok (.getfield 10, 3) := by decide +kernel
theorem dX6_leave_30 : decode cX6_leave 30 = .ok (.getfield 150, 3) := by decide +kernel
theorem dX6_leave_33 : decode cX6_leave 33 = .ok (.ireturn, 1) := by decide +kernel
theorem dX6_leave_10 : decode cX6_leave 10 = .ok (.bipush (-3), 2) := by decide +kernel
theorem dX6_leave_12 : decode cX6_leave 12 = .ok (.ireturn, 1) := by decide +kernel
set_option maxRecDepth 100000 in
theorem c_X6_leave (l : Launch) (D : va_G) (cy : Nat → Nat) (n : Nat) (ad : Nat → Nat) (F : Nat → va_E) (sz : Nat) (pic : Int32) (sc ps : Scn) (sh : Nat → Shf) (rd : Rdr) (dr : Stg) (fa : Tal) (mi : Crs) (hn : 56 ≤ n) (hX : RX ad cy F pic sc ps sh rd dr fa mi) : Met l yX6_leave (zw yX6_leave cX6_leave 1 (some .int)) (rmL 0) (zPc D cy n ad F sz [.ref (ad 0)]) (va_Qi (fun r F1 => r = (if 0 < sc.2.2.2.1 then sc.2.2.2.1 - 1 else -3) ∧ RX ad cy F1 pic (if 0 < sc.2.2.2.1 then (sc.1, sc.2.1, sc.2.2.1, sc.2.2.2.1 - 1, sc.2.2.2.2) else sc) ps sh rd dr fa mi ∧ fr56 F F1) (zB D n ad) (zA n ad sz)) 0 0 (zA n ad sz) := by
  refine zmet (by decide +kernel) (Nat.le_of_ble_eq_true rfl) (fun p e s m args below meth c ls hC hsz hZ hA hr hlocks hnm hl => ?_)
  have hC : zC p m c cX6_leave 1 s args RX6 D cy := hC
  have hx := hC.1.1
  have hb := hC.1.2.1
  have hl : lv_has ls 1 [(0, .ref (ad 0))] := hl
  refine lv_aload_n hx hb dX6_leave_0 rfl (lv_at hl 0 rfl) ?_
  refine zget hC hZ fX6_10 (zlt hn rfl) hX.1 rfl dX6_leave_1 ?_
  refine zget hC hZ fX6_150 (zlt hn rfl) hX.2.1.1 rfl dX6_leave_4 ?_
  refine lv_if_gt (tgt := 13) hx hb dX6_leave_7 (by decide) (fun c_7 => ?_) (fun c_7 => ?_)
  · refine lv_aload_n hx hb dX6_leave_13 rfl (lv_at hl 0 rfl) ?_
    refine zget hC hZ fX6_10 (zlt hn rfl) hX.1 rfl dX6_leave_14 ?_
    refine lv_dup hx hb dX6_leave_17 rfl ?_
    refine zget hC hZ fX6_150 (zlt hn rfl) hX.2.1.1 rfl dX6_leave_18 ?_
    refine lv_iconst (v := 1) hx hb dX6_leave_21 (by decide) ?_
    refine lv_isub hx hb dX6_leave_22 ?_
    refine zput (E := oScene ad 1 sc.2.1 (sc.2.2.2.1 - 1)) hC hZ pX6_150 (zlt hn rfl) hX.2.1.1 rfl rfl rfl (Nat.le_of_ble_eq_true rfl) dX6_leave_23 (fun F_1 hF_2 H locs hZ => ?_)
    have hX_3 := rx_self hX hF_2
    have hf_4 := fr56_up fr56_rf hF_2 (by decide)
    have hX_3 : RX ad cy F_1 pic (sc.1, sc.2.1, sc.2.2.1, (sc.2.2.2.1 - 1), sc.2.2.2.2) ps sh rd dr fa mi := hX_3
    refine lv_aload_n hx hb dX6_leave_26 rfl (lv_at hl 0 rfl) ?_
    refine zget hC hZ fX6_10 (zlt hn rfl) hX_3.1 rfl dX6_leave_27 ?_
    refine zget hC hZ fX6_150 (zlt hn rfl) hX_3.2.1.1 rfl dX6_leave_30 ?_
    have hq0 : (sc.1, sc.2.1, sc.2.2.1, (sc.2.2.2.1 - 1), sc.2.2.2.2).2.2.2.1 = if 0 < sc.2.2.2.1 then sc.2.2.2.1 - 1 else -3 := (if_pos c_7).symm
    have hq1 : (if 0 < sc.2.2.2.1 then (sc.1, sc.2.1, sc.2.2.1, sc.2.2.2.1 - 1, sc.2.2.2.2) else sc) = (sc.1, sc.2.1, sc.2.2.1, (sc.2.2.2.1 - 1), sc.2.2.2.2) := if_pos c_7
    exact zireti hC hZ hr hlocks ⟨hq0, by rw [hq1]; exact hX_3, hf_4⟩ dX6_leave_33
  · refine lv_bipush (v := (-3)) hx hb dX6_leave_10 (by decide) ?_
    have hq0 : (-3 : Int32) = if 0 < sc.2.2.2.1 then sc.2.2.2.1 - 1 else -3 := (if_neg c_7).symm
    have hq1 : (if 0 < sc.2.2.2.1 then (sc.1, sc.2.1, sc.2.2.1, sc.2.2.2.1 - 1, sc.2.2.2.2) else sc) = sc := if_neg c_7
    exact zireti hC hZ hr hlocks ⟨hq0, by rw [hq1]; exact hX, fr56_rf⟩ dX6_leave_12

theorem mX6_anew : zMd yX6_anew cX6_anew 2 (some .int) 0 := ⟨by decide +kernel, gt_of 422 (by decide +kernel) rfl, gt_of 44 (by decide +kernel) rfl, by decide⟩
theorem dX6_anew_0 : decode cX6_anew 0 = .ok (.aload_n 0, 1) := by decide +kernel
theorem dX6_anew_1 : decode cX6_anew 1 = .ok (.getfield 10, 3) := by decide +kernel
theorem dX6_anew_4 : decode cX6_anew 4 = .ok (.getfield 86, 3) := by decide +kernel
theorem dX6_anew_7 : decode cX6_anew 7 = .ok (.getfield 177, 3) := by decide +kernel
theorem fX6_177 : zFld RX6 177 0 0 := ⟨RX0, TX0, 5, rfl, inX0, by decide, rfl, Or.inr ⟨"ChainLeap", List.mem_of_getElem? (i := 114) (by decide +kernel)⟩⟩
theorem dX6_anew_10 : decode cX6_anew 10 = .ok (.istore_n 1, 1) := by decide +kernel
theorem dX6_anew_11 : decode cX6_anew 11 = .ok (.aload_n 0, 1) := by decide +kernel
theorem dX6_anew_12 : decode cX6_anew 12 = .ok (.getfield 10, 3) := by decide +kernel
theorem dX6_anew_15 : decode cX6_anew 15 = .ok (.getfield 86, 3) := by decide +kernel
theorem dX6_anew_18 : decode cX6_anew 18 = .ok (.invokevirtual 184, 3) := by decide +kernel
theorem kX6_184 : zLk RX6 184 yX0_clear := Or.inl (gt_of 423 (by decide +kernel) rfl)
theorem vX0_clear : zMi yX0_clear := ⟨gt_of 424 (by decide +kernel) rfl, gt_of 425 (by decide +kernel) rfl⟩
theorem dX6_anew_21 : decode cX6_anew 21 = .ok (.iload_n 1, 1) := by decide +kernel
theorem dX6_anew_22 : decode cX6_anew 22 = .ok (.ireturn, 1) := by decide +kernel
set_option maxRecDepth 100000 in
theorem c_X6_anew (l : Launch) (D : va_G) (cy : Nat → Nat) (n : Nat) (ad : Nat → Nat) (F : Nat → va_E) (sz : Nat) (pic : Int32) (sc ps : Scn) (sh : Nat → Shf) (rd : Rdr) (dr : Stg) (fa : Tal) (mi : Crs) (hn : 56 ≤ n) (hX : RX ad cy F pic sc ps sh rd dr fa mi) : Met l yX6_anew (zw yX6_anew cX6_anew 2 (some .int)) (rmL 1) (zPc D cy n ad F sz [.ref (ad 0)]) (va_Qi (fun r F1 => r = sc.2.2.2.2.1 ∧ RX ad cy F1 pic (sc.1, sc.2.1, sc.2.2.1, sc.2.2.2.1, sCC) ps sh rd dr fa mi ∧ fr56 F F1) (zB D n ad) (zA n ad sz)) 0 0 (zA n ad sz) := by
  refine zmet (by decide +kernel) (Nat.le_of_ble_eq_true rfl) (fun p e s m args below meth c ls hC hsz hZ hA hr hlocks hnm hl => ?_)
  have hC : zC p m c cX6_anew 2 s args RX6 D cy := hC
  have hx := hC.1.1
  have hb := hC.1.2.1
  have hl : lv_has ls 2 [(0, .ref (ad 0))] := hl
  refine lv_aload_n hx hb dX6_anew_0 rfl (lv_at hl 0 rfl) ?_
  refine zget hC hZ fX6_10 (zlt hn rfl) hX.1 rfl dX6_anew_1 ?_
  refine zget hC hZ fX6_86 (zlt hn rfl) hX.2.1.1 rfl dX6_anew_4 ?_
  refine zget hC hZ fX6_177 (zlt hn rfl) hX.2.1.2.2.2.1 rfl dX6_anew_7 ?_
  refine lv_istore_n (lv' := [(1, .int sc.2.2.2.2.1), (0, .ref (ad 0))]) hx hb dX6_anew_10 rfl hl (by decide) rfl (fun ls hl => ?_)
  refine lv_aload_n hx hb dX6_anew_11 rfl (lv_at hl 1 rfl) ?_
  refine zget hC hZ fX6_10 (zlt hn rfl) hX.1 rfl dX6_anew_12 ?_
  refine zget hC hZ fX6_86 (zlt hn rfl) hX.2.1.1 rfl dX6_anew_15 ?_
  refine zgov hZ hA (zrunV (As := []) (rest := []) (k := 4) hC hZ (c_X0_clear l D cy n ad F s.heap.size 4 sc.2.2.2.2 (zlt hn rfl) hX.2.1.2.2.2.1) mX0_clear vX0_clear kX6_184 (zRj_of rfl) (zlt hn rfl) hX.2.1.2.2.2.1 rfl rfl hl.1 rfl (Nat.le_of_ble_eq_true rfl) dX6_anew_18 ⟨Nat.le_refl _, Nat.le_refl _⟩) (fun F_1 hp_3 H locs hZ => ?_)
  have hX_4 := rx_course hX hp_3
  have hf_5 := fr56_up fr56_rf hp_3 (by decide)
  have hX_4 : RX ad cy F_1 pic (sc.1, sc.2.1, sc.2.2.1, sc.2.2.2.1, (0, 0, 0, 0, 0)) ps sh rd dr fa mi := hX_4
  refine lv_iload_n hx hb dX6_anew_21 rfl (lv_at hl 0 rfl) ?_
  exact zireti hC hZ hr hlocks ⟨rfl, hX_4, hf_5⟩ dX6_anew_22

theorem mX6_state : zMd yX6_state cX6_state 2 (some .int) 1 := ⟨by decide +kernel, gt_of 430 (by decide +kernel) rfl, gt_of 44 (by decide +kernel) rfl, by decide⟩
theorem dX6_state_0 : decode cX6_state 0 = .ok (.iload_n 1, 1) := by decide +kernel
theorem dX6_state_1 : decode cX6_state 1 = .ok (.tableswitch 110 0 5 #[39, 50, 61, 72, 83, 94], 39) := by decide +kernel
theorem dX6_state_40 : decode cX6_state 40 = .ok (.aload_n 0, 1) := by decide +kernel
theorem dX6_state_41 : decode cX6_state 41 = .ok (.getfield 10, 3) := by decide +kernel
theorem dX6_state_44 : decode cX6_state 44 = .ok (.getfield 86, 3) := by decide +kernel
theorem dX6_state_47 : decode cX6_state 47 = .ok (.getfield 177, 3) := by decide +kernel
theorem dX6_state_50 : decode cX6_state 50 = .ok (.ireturn, 1) := by decide +kernel
theorem dX6_state_51 : decode cX6_state 51 = .ok (.aload_n 0, 1) := by decide +kernel
theorem dX6_state_52 : decode cX6_state 52 = .ok (.getfield 10, 3) := by decide +kernel
theorem dX6_state_55 : decode cX6_state 55 = .ok (.getfield 86, 3) := by decide +kernel
theorem dX6_state_58 : decode cX6_state 58 = .ok (.getfield 187, 3) := by decide +kernel
theorem fX6_187 : zFld RX6 187 0 1 := ⟨RX0, TX0, 5, rfl, inX0, by decide, rfl, Or.inr ⟨"ChainLeap", List.mem_of_getElem? (i := 116) (by decide +kernel)⟩⟩
theorem dX6_state_61 : decode cX6_state 61 = .ok (.ireturn, 1) := by decide +kernel
theorem dX6_state_62 : decode cX6_state 62 = .ok (.aload_n 0, 1) := by decide +kernel
theorem dX6_state_63 : decode cX6_state 63 = .ok (.getfield 10, 3) := by decide +kernel
theorem dX6_state_66 : decode cX6_state 66 = .ok (.getfield 86, 3) := by decide +kernel
theorem dX6_state_69 : decode cX6_state 69 = .ok (.getfield 190, 3) := by decide +kernel
theorem fX6_190 : zFld RX6 190 0 2 := ⟨RX0, TX0, 5, rfl, inX0, by decide, rfl, Or.inr ⟨"ChainLeap", List.mem_of_getElem? (i := 118) (by decide +kernel)⟩⟩
theorem dX6_state_72 : decode cX6_state 72 = .ok (.ireturn, 1) := by decide +kernel
theorem dX6_state_73 : decode cX6_state 73 = .ok (.aload_n 0, 1) := by decide +kernel
theorem dX6_state_74 : decode cX6_state 74 = .ok (.getfield 10, 3) := by decide +kernel
theorem dX6_state_77 : decode cX6_state 77 = .ok (.getfield 86, 3) := by decide +kernel
theorem dX6_state_80 : decode cX6_state 80 = .ok (.getfield 89, 3) := by decide +kernel
theorem dX6_state_83 : decode cX6_state 83 = .ok (.ireturn, 1) := by decide +kernel
theorem dX6_state_84 : decode cX6_state 84 = .ok (.aload_n 0, 1) := by decide +kernel
theorem dX6_state_85 : decode cX6_state 85 = .ok (.getfield 10, 3) := by decide +kernel
theorem dX6_state_88 : decode cX6_state 88 = .ok (.getfield 86, 3) := by decide +kernel
theorem dX6_state_91 : decode cX6_state 91 = .ok (.getfield 193, 3) := by decide +kernel
theorem fX6_193 : zFld RX6 193 0 4 := ⟨RX0, TX0, 5, rfl, inX0, by decide, rfl, Or.inr ⟨"ChainLeap", List.mem_of_getElem? (i := 123) (by decide +kernel)⟩⟩
theorem dX6_state_94 : decode cX6_state 94 = .ok (.ireturn, 1) := by decide +kernel
theorem dX6_state_95 : decode cX6_state 95 = .ok (.aload_n 0, 1) := by decide +kernel
theorem dX6_state_96 : decode cX6_state 96 = .ok (.getfield 10, 3) := by decide +kernel
theorem dX6_state_99 : decode cX6_state 99 = .ok (.invokevirtual 196, 3) := by decide +kernel
theorem kX6_196 : zLk RX6 196 yX2_isDone := Or.inl (gt_of 431 (by decide +kernel) rfl)
theorem vX2_isDone : zMi yX2_isDone := ⟨gt_of 432 (by decide +kernel) rfl, gt_of 433 (by decide +kernel) rfl⟩
theorem dX6_state_102 : decode cX6_state 102 = .ok (.ifCond .eq 7, 3) := by decide +kernel
theorem dX6_state_105 : decode cX6_state 105 = .ok (.iconst 1, 1) := by decide +kernel
theorem dX6_state_106 : decode cX6_state 106 = .ok (.goto 4, 3) := by decide +kernel
theorem dX6_state_110 : decode cX6_state 110 = .ok (.ireturn, 1) := by decide +kernel
theorem dX6_state_109 : decode cX6_state 109 = .ok (.iconst 0, 1) := by decide +kernel
theorem dX6_state_111 : decode cX6_state 111 = .ok (.iconst (-1), 1) := by decide +kernel
theorem dX6_state_112 : decode cX6_state 112 = .ok (.ireturn, 1) := by decide +kernel
set_option maxRecDepth 100000 in
theorem c_X6_state (l : Launch) (D : va_G) (cy : Nat → Nat) (n : Nat) (ad : Nat → Nat) (F : Nat → va_E) (sz : Nat) (pic : Int32) (sc ps : Scn) (sh : Nat → Shf) (rd : Rdr) (dr : Stg) (fa : Tal) (mi : Crs) (hn : 56 ≤ n) (hX : RX ad cy F pic sc ps sh rd dr fa mi) (what : Int32) : Met l yX6_state (zw yX6_state cX6_state 2 (some .int)) (rmL 1) (zPc D cy n ad F sz [.ref (ad 0), .int what]) (va_Qi (fun r F1 => r = sState sc what ∧ F = F1) (zB D n ad) (zA n ad sz)) 0 0 (zA n ad sz) := by
  refine zmet (by decide +kernel) (Nat.le_of_ble_eq_true rfl) (fun p e s m args below meth c ls hC hsz hZ hA hr hlocks hnm hl => ?_)
  have hC : zC p m c cX6_state 2 s args RX6 D cy := hC
  have hx := hC.1.1
  have hb := hC.1.2.1
  have hl : lv_has ls 2 [(0, .ref (ad 0)), (1, .int what)] := hl
  refine lv_iload_n hx hb dX6_state_0 rfl (lv_at hl 1 rfl) ?_
  by_cases c_1_0 : what = 0
  · refine lv_tableIn (off := 39) (tgt := 40) hx hb dX6_state_1 (by rw [c_1_0]; decide) (by rw [c_1_0]; decide) (by rw [c_1_0]; rfl) (by decide) ?_
    refine lv_aload_n hx hb dX6_state_40 rfl (lv_at hl 0 rfl) ?_
    refine zget hC hZ fX6_10 (zlt hn rfl) hX.1 rfl dX6_state_41 ?_
    refine zget hC hZ fX6_86 (zlt hn rfl) hX.2.1.1 rfl dX6_state_44 ?_
    refine zget hC hZ fX6_177 (zlt hn rfl) hX.2.1.2.2.2.1 rfl dX6_state_47 ?_
    have hq_1 : sc.2.2.2.2.1 = sState sc what := by first | rfl | simp [sState, c_1_0] | (simp only [sState]; simp [c_1_0])
    exact zireti hC hZ hr hlocks ⟨hq_1, rfl⟩ dX6_state_50
  · by_cases c_1_1 : what = 1
    · refine lv_tableIn (off := 50) (tgt := 51) hx hb dX6_state_1 (by rw [c_1_1]; decide) (by rw [c_1_1]; decide) (by rw [c_1_1]; rfl) (by decide) ?_
      refine lv_aload_n hx hb dX6_state_51 rfl (lv_at hl 0 rfl) ?_
      refine zget hC hZ fX6_10 (zlt hn rfl) hX.1 rfl dX6_state_52 ?_
      refine zget hC hZ fX6_86 (zlt hn rfl) hX.2.1.1 rfl dX6_state_55 ?_
      refine zget hC hZ fX6_187 (zlt hn rfl) hX.2.1.2.2.2.1 rfl dX6_state_58 ?_
      have hq_2 : sc.2.2.2.2.2.1 = sState sc what := by first | rfl | simp [sState, c_1_0, c_1_1] | (simp only [sState]; simp [c_1_0, c_1_1])
      exact zireti hC hZ hr hlocks ⟨hq_2, rfl⟩ dX6_state_61
    · by_cases c_1_2 : what = 2
      · refine lv_tableIn (off := 61) (tgt := 62) hx hb dX6_state_1 (by rw [c_1_2]; decide) (by rw [c_1_2]; decide) (by rw [c_1_2]; rfl) (by decide) ?_
        refine lv_aload_n hx hb dX6_state_62 rfl (lv_at hl 0 rfl) ?_
        refine zget hC hZ fX6_10 (zlt hn rfl) hX.1 rfl dX6_state_63 ?_
        refine zget hC hZ fX6_86 (zlt hn rfl) hX.2.1.1 rfl dX6_state_66 ?_
        refine zget hC hZ fX6_190 (zlt hn rfl) hX.2.1.2.2.2.1 rfl dX6_state_69 ?_
        have hq_3 : sc.2.2.2.2.2.2.1 = sState sc what := by first | rfl | simp [sState, c_1_0, c_1_1, c_1_2] | (simp only [sState]; simp [c_1_0, c_1_1, c_1_2])
        exact zireti hC hZ hr hlocks ⟨hq_3, rfl⟩ dX6_state_72
      · by_cases c_1_3 : what = 3
        · refine lv_tableIn (off := 72) (tgt := 73) hx hb dX6_state_1 (by rw [c_1_3]; decide) (by rw [c_1_3]; decide) (by rw [c_1_3]; rfl) (by decide) ?_
          refine lv_aload_n hx hb dX6_state_73 rfl (lv_at hl 0 rfl) ?_
          refine zget hC hZ fX6_10 (zlt hn rfl) hX.1 rfl dX6_state_74 ?_
          refine zget hC hZ fX6_86 (zlt hn rfl) hX.2.1.1 rfl dX6_state_77 ?_
          refine zget hC hZ fX6_89 (zlt hn rfl) hX.2.1.2.2.2.1 rfl dX6_state_80 ?_
          have hq_4 : sc.2.2.2.2.2.2.2.1 = sState sc what := by first | rfl | simp [sState, c_1_0, c_1_1, c_1_2, c_1_3] | (simp only [sState]; simp [c_1_0, c_1_1, c_1_2, c_1_3])
          exact zireti hC hZ hr hlocks ⟨hq_4, rfl⟩ dX6_state_83
        · by_cases c_1_4 : what = 4
          · refine lv_tableIn (off := 83) (tgt := 84) hx hb dX6_state_1 (by rw [c_1_4]; decide) (by rw [c_1_4]; decide) (by rw [c_1_4]; rfl) (by decide) ?_
            refine lv_aload_n hx hb dX6_state_84 rfl (lv_at hl 0 rfl) ?_
            refine zget hC hZ fX6_10 (zlt hn rfl) hX.1 rfl dX6_state_85 ?_
            refine zget hC hZ fX6_86 (zlt hn rfl) hX.2.1.1 rfl dX6_state_88 ?_
            refine zget hC hZ fX6_193 (zlt hn rfl) hX.2.1.2.2.2.1 rfl dX6_state_91 ?_
            have hq_5 : sc.2.2.2.2.2.2.2.2 = sState sc what := by first | rfl | simp [sState, c_1_0, c_1_1, c_1_2, c_1_3, c_1_4] | (simp only [sState]; simp [c_1_0, c_1_1, c_1_2, c_1_3, c_1_4])
            exact zireti hC hZ hr hlocks ⟨hq_5, rfl⟩ dX6_state_94
          · by_cases c_1_5 : what = 5
            · refine lv_tableIn (off := 94) (tgt := 95) hx hb dX6_state_1 (by rw [c_1_5]; decide) (by rw [c_1_5]; decide) (by rw [c_1_5]; rfl) (by decide) ?_
              refine lv_aload_n hx hb dX6_state_95 rfl (lv_at hl 0 rfl) ?_
              refine zget hC hZ fX6_10 (zlt hn rfl) hX.1 rfl dX6_state_96 ?_
              refine zgoi hZ hA (zrunV (As := []) (rest := []) (k := 1) hC hZ (c_X2_isDone l D cy n ad F s.heap.size 1 sc (by omega) hX.2.1) mX2_isDone vX2_isDone kX6_196 (zRj_of rfl) (zlt hn rfl) hX.2.1.1 rfl rfl hl.1 rfl (Nat.le_of_ble_eq_true rfl) dX6_state_99 ⟨Nat.le_refl _, Nat.le_refl _⟩) (fun r_7 F_6 hp_8 H locs hZ => ?_)
              obtain ⟨hp_8, rfl⟩ := hp_8
              by_cases b_9 : sc.2.1 ≤ sc.2.2.2.2.2.2.2.1
              · rw [if_pos b_9] at hp_8
                subst hp_8
                refine lv_if_eq (tgt := 109) hx hb dX6_state_102 (by decide) (fun h => absurd h (by decide)) (fun _ => ?_)
                refine lv_iconst (v := 1) hx hb dX6_state_105 (by decide) ?_
                refine lv_goto (tgt := 110) hx hb dX6_state_106 (by decide) ?_
                have hq_10 : (1 : Int32) = sState sc what := by first | rfl | simp [sState, c_1_0, c_1_1, c_1_2, c_1_3, c_1_4, c_1_5, b_9] | (simp only [sState]; simp [c_1_0, c_1_1, c_1_2, c_1_3, c_1_4, c_1_5, b_9])
                exact zireti hC hZ hr hlocks ⟨hq_10, rfl⟩ dX6_state_110
              · rw [if_neg b_9] at hp_8
                subst hp_8
                refine lv_if_eq (tgt := 109) hx hb dX6_state_102 (by decide) (fun _ => ?_) (fun h => absurd (by decide) h)
                refine lv_iconst (v := 0) hx hb dX6_state_109 (by decide) ?_
                have hq_11 : (0 : Int32) = sState sc what := by first | rfl | simp [sState, c_1_0, c_1_1, c_1_2, c_1_3, c_1_4, c_1_5, b_9] | (simp only [sState]; simp [c_1_0, c_1_1, c_1_2, c_1_3, c_1_4, c_1_5, b_9])
                exact zireti hC hZ hr hlocks ⟨hq_11, rfl⟩ dX6_state_110
            · refine lv_tableOut (tgt := 111) hx hb dX6_state_1 (by have e0 : ¬ what.toInt = 0 := lv_neT (k := 0) c_1_0 rfl; have e1 : ¬ what.toInt = 1 := lv_neT (k := 1) c_1_1 rfl; have e2 : ¬ what.toInt = 2 := lv_neT (k := 2) c_1_2 rfl; have e3 : ¬ what.toInt = 3 := lv_neT (k := 3) c_1_3 rfl; have e4 : ¬ what.toInt = 4 := lv_neT (k := 4) c_1_4 rfl; have e5 : ¬ what.toInt = 5 := lv_neT (k := 5) c_1_5 rfl; omega) (by decide) ?_
              refine lv_iconst (v := (-1)) hx hb dX6_state_111 (by decide) ?_
              have hq_12 : (-1 : Int32) = sState sc what := by first | rfl | simp [sState, c_1_0, c_1_1, c_1_2, c_1_3, c_1_4, c_1_5] | (simp only [sState]; simp [c_1_0, c_1_1, c_1_2, c_1_3, c_1_4, c_1_5])
              exact zireti hC hZ hr hlocks ⟨hq_12, rfl⟩ dX6_state_112

theorem mX6_count : zMd yX6_count cX6_count 2 (some .int) 1 := ⟨by decide +kernel, gt_of 569 (by decide +kernel) rfl, gt_of 44 (by decide +kernel) rfl, by decide⟩
theorem dX6_count_0 : decode cX6_count 0 = .ok (.iload_n 1, 1) := by decide +kernel
theorem dX6_count_1 : decode cX6_count 1 = .ok (.iconst 0, 1) := by decide +kernel
theorem dX6_count_2 : decode cX6_count 2 = .ok (.iconst 5, 1) := by decide +kernel
theorem dX6_count_3 : decode cX6_count 3 = .ok (.invokestatic 115, 3) := by decide +kernel
theorem dX6_count_6 : decode cX6_count 6 = .ok (.ifCond .ne 5, 3) := by decide +kernel
theorem dX6_count_11 : decode cX6_count 11 = .ok (.iload_n 1, 1) := by decide +kernel
theorem dX6_count_12 : decode cX6_count 12 = .ok (.ifCond .ne 13, 3) := by decide +kernel
theorem dX6_count_25 : decode cX6_count 25 = .ok (.aload_n 0, 1) := by decide +kernel
theorem dX6_count_26 : decode cX6_count 26 = .ok (.iload_n 1, 1) := by decide +kernel
theorem dX6_count_27 : decode cX6_count 27 = .ok (.iconst 1, 1) := by decide +kernel
theorem dX6_count_28 : decode cX6_count 28 = .ok (.isub, 1) := by decide +kernel
theorem dX6_count_29 : decode cX6_count 29 = .ok (.invokevirtual 93, 3) := by decide +kernel
theorem dX6_count_32 : decode cX6_count 32 = .ok (.ireturn, 1) := by decide +kernel
theorem dX6_count_15 : decode cX6_count 15 = .ok (.aload_n 0, 1) := by decide +kernel
theorem dX6_count_16 : decode cX6_count 16 = .ok (.getfield 10, 3) := by decide +kernel
theorem dX6_count_19 : decode cX6_count 19 = .ok (.getfield 150, 3) := by decide +kernel
theorem dX6_count_22 : decode cX6_count 22 = .ok (.goto 10, 3) := by decide +kernel
theorem dX6_count_9 : decode cX6_count 9 = .ok (.iconst (-1), 1) := by decide +kernel
theorem dX6_count_10 : decode cX6_count 10 = .ok (.ireturn, 1) := by decide +kernel
set_option maxRecDepth 100000 in
theorem c_X6_count (l : Launch) (D : va_G) (cy : Nat → Nat) (n : Nat) (ad : Nat → Nat) (F : Nat → va_E) (sz : Nat) (pic : Int32) (sc ps : Scn) (sh : Nat → Shf) (rd : Rdr) (dr : Stg) (fa : Tal) (mi : Crs) (hn : 56 ≤ n) (hX : RX ad cy F pic sc ps sh rd dr fa mi) (what : Int32) : Met l yX6_count (zw yX6_count cX6_count 2 (some .int)) (rmL 1) (zPc D cy n ad F sz [.ref (ad 0), .int what]) (va_Qi (fun r F1 => r = (if bIn what 0 5 then (if what = 0 then sc.2.2.2.1 else sCh sc (what - 1)) else -1) ∧ F = F1) (zB D n ad) (zA n ad sz)) 0 0 (zA n ad sz) := by
  refine zmet (by decide +kernel) (Nat.le_of_ble_eq_true rfl) (fun p e s m args below meth c ls hC hsz hZ hA hr hlocks hnm hl => ?_)
  have hC : zC p m c cX6_count 2 s args RX6 D cy := hC
  have hx := hC.1.1
  have hb := hC.1.2.1
  have hl : lv_has ls 2 [(0, .ref (ad 0)), (1, .int what)] := hl
  refine lv_iload_n hx hb dX6_count_0 rfl (lv_at hl 1 rfl) ?_
  refine lv_iconst (v := 0) hx hb dX6_count_1 (by decide) ?_
  refine lv_iconst (v := 5) hx hb dX6_count_2 (by decide) ?_
  refine zgoi hZ hA (zrunS (As := [.int what, .int 0, .int 5]) (rest := []) hC hZ (c_X6_isWithin l D cy n ad F s.heap.size what 0 5) mX6_isWithin sX6_isWithin kX6_115 (zRj_of rfl) rfl hl.1 rfl (Nat.le_of_ble_eq_true rfl) dX6_count_3 ⟨Nat.le_refl _, Nat.le_refl _⟩) (fun r_2 F_1 hp_3 H locs hZ => ?_)
  obtain ⟨hp_3, rfl⟩ := hp_3
  by_cases b_4 : bIn what 0 5
  · rw [if_pos b_4] at hp_3
    subst hp_3
    refine lv_if_ne (tgt := 11) hx hb dX6_count_6 (by decide) (fun _ => ?_) (fun h => absurd h (by decide))
    refine lv_iload_n hx hb dX6_count_11 rfl (lv_at hl 1 rfl) ?_
    refine lv_if_ne (tgt := 25) hx hb dX6_count_12 (by decide) (fun c_12 => ?_) (fun c_12 => ?_)
    · refine lv_aload_n hx hb dX6_count_25 rfl (lv_at hl 0 rfl) ?_
      refine lv_iload_n hx hb dX6_count_26 rfl (lv_at hl 1 rfl) ?_
      refine lv_iconst (v := 1) hx hb dX6_count_27 (by decide) ?_
      refine lv_isub hx hb dX6_count_28 ?_
      refine zgoi hZ hA (zrunV (As := [.int (what - 1)]) (rest := []) (k := 0) hC hZ (c_X6_chainNumber l D cy n ad F H.size pic sc ps sh rd dr fa mi hn hX (what - 1)) mX6_chainNumber vX6_chainNumber kX6_93 (zRj_of rfl) (zlt hn rfl) hX.1 rfl rfl hl.1 rfl (Nat.le_of_ble_eq_true rfl) dX6_count_29 ⟨Nat.le_refl _, Nat.le_refl _⟩) (fun r_6 F_5 hp_7 H locs hZ => ?_)
      obtain ⟨rfl, rfl⟩ := hp_7
      have hq_8 : (sCh sc (what - 1)) = (if bIn what 0 5 then (if what = 0 then sc.2.2.2.1 else sCh sc (what - 1)) else -1) := by first | rfl | simp [b_4, c_12] | (simp only [id]; simp [b_4, c_12])
      exact zireti hC hZ hr hlocks ⟨hq_8, rfl⟩ dX6_count_32
    · refine lv_aload_n hx hb dX6_count_15 rfl (lv_at hl 0 rfl) ?_
      refine zget hC hZ fX6_10 (zlt hn rfl) hX.1 rfl dX6_count_16 ?_
      refine zget hC hZ fX6_150 (zlt hn rfl) hX.2.1.1 rfl dX6_count_19 ?_
      refine lv_goto (tgt := 32) hx hb dX6_count_22 (by decide) ?_
      have hq_9 : sc.2.2.2.1 = (if bIn what 0 5 then (if what = 0 then sc.2.2.2.1 else sCh sc (what - 1)) else -1) := by first | rfl | simp [b_4, c_12] | (simp only [id]; simp [b_4, c_12])
      exact zireti hC hZ hr hlocks ⟨hq_9, rfl⟩ dX6_count_32
  · rw [if_neg b_4] at hp_3
    subst hp_3
    refine lv_if_ne (tgt := 11) hx hb dX6_count_6 (by decide) (fun h => absurd (by decide) h) (fun _ => ?_)
    refine lv_iconst (v := (-1)) hx hb dX6_count_9 (by decide) ?_
    have hq_10 : (-1 : Int32) = (if bIn what 0 5 then (if what = 0 then sc.2.2.2.1 else sCh sc (what - 1)) else -1) := by first | rfl | simp [b_4] | (simp only [id]; simp [b_4])
    exact zireti hC hZ hr hlocks ⟨hq_10, rfl⟩ dX6_count_10

theorem mX6_tryOf : zMd yX6_tryOf cX6_tryOf 4 (some .int) 2 := ⟨by decide +kernel, gt_of 354 (by decide +kernel) rfl, gt_of 44 (by decide +kernel) rfl, by decide⟩
theorem dX6_tryOf_0 : decode cX6_tryOf 0 = .ok (.aload_n 0, 1) := by decide +kernel
theorem dX6_tryOf_1 : decode cX6_tryOf 1 = .ok (.getfield 10, 3) := by decide +kernel
theorem dX6_tryOf_4 : decode cX6_tryOf 4 = .ok (.iload_n 1, 1) := by decide +kernel
theorem dX6_tryOf_5 : decode cX6_tryOf 5 = .ok (.invokevirtual 153, 3) := by decide +kernel
theorem kX6_153 : zLk RX6 153 yX2_hasTry := Or.inl (gt_of 355 (by decide +kernel) rfl)
theorem vX2_hasTry : zMi yX2_hasTry := ⟨gt_of 356 (by decide +kernel) rfl, gt_of 357 (by decide +kernel) rfl⟩
theorem dX6_tryOf_8 : decode cX6_tryOf 8 = .ok (.ifCond .ne 5, 3) := by decide +kernel
theorem dX6_tryOf_13 : decode cX6_tryOf 13 = .ok (.aload_n 0, 1) := by decide +kernel
theorem dX6_tryOf_14 : decode cX6_tryOf 14 = .ok (.getfield 10, 3) := by decide +kernel
theorem dX6_tryOf_17 : decode cX6_tryOf 17 = .ok (.getfield 156, 3) := by decide +kernel
theorem fX6_156 : zFld RX6 156 2 2 := ⟨RX2, TX2, 5, rfl, inX2, by decide, rfl, Or.inr ⟨"ChainLeap", List.mem_of_getElem? (i := 140) (by decide +kernel)⟩⟩
theorem dX6_tryOf_20 : decode cX6_tryOf 20 = .ok (.iload_n 1, 1) := by decide +kernel
theorem dX6_tryOf_21 : decode cX6_tryOf 21 = .ok (.aaload, 1) := by decide +kernel
theorem dX6_tryOf_22 : decode cX6_tryOf 22 = .ok (.astore_n 3, 1) := by decide +kernel
theorem dX6_tryOf_23 : decode cX6_tryOf 23 = .ok (.iload_n 2, 1) := by decide +kernel
theorem dX6_tryOf_24 : decode cX6_tryOf 24 = .ok (.tableswitch 52 0 3 #[32, 37, 42, 47], 32) := by decide +kernel
theorem dX6_tryOf_56 : decode cX6_tryOf 56 = .ok (.aload_n 3, 1) := by decide +kernel
theorem dX6_tryOf_57 : decode cX6_tryOf 57 = .ok (.getfield 100, 3) := by decide +kernel
theorem dX6_tryOf_60 : decode cX6_tryOf 60 = .ok (.ireturn, 1) := by decide +kernel
theorem dX6_tryOf_61 : decode cX6_tryOf 61 = .ok (.aload_n 3, 1) := by decide +kernel
theorem dX6_tryOf_62 : decode cX6_tryOf 62 = .ok (.getfield 103, 3) := by decide +kernel
theorem dX6_tryOf_65 : decode cX6_tryOf 65 = .ok (.ireturn, 1) := by decide +kernel
theorem dX6_tryOf_66 : decode cX6_tryOf 66 = .ok (.aload_n 3, 1) := by decide +kernel
theorem dX6_tryOf_67 : decode cX6_tryOf 67 = .ok (.getfield 106, 3) := by decide +kernel
theorem dX6_tryOf_70 : decode cX6_tryOf 70 = .ok (.ireturn, 1) := by decide +kernel
theorem dX6_tryOf_71 : decode cX6_tryOf 71 = .ok (.aload_n 3, 1) := by decide +kernel
theorem dX6_tryOf_72 : decode cX6_tryOf 72 = .ok (.getfield 112, 3) := by decide +kernel
theorem dX6_tryOf_75 : decode cX6_tryOf 75 = .ok (.ireturn, 1) := by decide +kernel
theorem dX6_tryOf_76 : decode cX6_tryOf 76 = .ok (.iconst (-1), 1) := by decide +kernel
theorem dX6_tryOf_77 : decode cX6_tryOf 77 = .ok (.ireturn, 1) := by decide +kernel
theorem dX6_tryOf_11 : decode cX6_tryOf 11 = .ok (.iconst (-1), 1) := by decide +kernel
theorem dX6_tryOf_12 : decode cX6_tryOf 12 = .ok (.ireturn, 1) := by decide +kernel
set_option maxRecDepth 100000 in
theorem c_X6_tryOf (l : Launch) (D : va_G) (cy : Nat → Nat) (n : Nat) (ad : Nat → Nat) (F : Nat → va_E) (sz : Nat) (pic : Int32) (sc ps : Scn) (sh : Nat → Shf) (rd : Rdr) (dr : Stg) (fa : Tal) (mi : Crs) (hn : 56 ≤ n) (hX : RX ad cy F pic sc ps sh rd dr fa mi) (i what : Int32) : Met l yX6_tryOf (zw yX6_tryOf cX6_tryOf 4 (some .int)) (rmL 1) (zPc D cy n ad F sz [.ref (ad 0), .int i, .int what]) (va_Qi (fun r F1 => r = (if bTry sc.2.2.2.1 i then (if what = 0 then (sc.2.2.1 (iN i)).1 else if what = 1 then (sc.2.2.1 (iN i)).2.1 else if what = 2 then (sc.2.2.1 (iN i)).2.2.1 else if what = 3 then (sc.2.2.1 (iN i)).2.2.2 else -1) else -1) ∧ F = F1) (zB D n ad) (zA n ad sz)) 0 0 (zA n ad sz) := by
  refine zmet (by decide +kernel) (Nat.le_of_ble_eq_true rfl) (fun p e s m args below meth c ls hC hsz hZ hA hr hlocks hnm hl => ?_)
  have hC : zC p m c cX6_tryOf 4 s args RX6 D cy := hC
  have hx := hC.1.1
  have hb := hC.1.2.1
  have hl : lv_has ls 4 [(0, .ref (ad 0)), (1, .int i), (2, .int what)] := hl
  refine lv_aload_n hx hb dX6_tryOf_0 rfl (lv_at hl 0 rfl) ?_
  refine zget hC hZ fX6_10 (zlt hn rfl) hX.1 rfl dX6_tryOf_1 ?_
  refine lv_iload_n hx hb dX6_tryOf_4 rfl (lv_at hl 1 rfl) ?_
  refine zgoi hZ hA (zrunV (As := [.int i]) (rest := []) (k := 1) hC hZ (c_X2_hasTry l D cy n ad F s.heap.size 1 sc (by omega) hX.2.1 i) mX2_hasTry vX2_hasTry kX6_153 (zRj_of rfl) (zlt hn rfl) hX.2.1.1 rfl rfl hl.1 rfl (Nat.le_of_ble_eq_true rfl) dX6_tryOf_5 ⟨Nat.le_refl _, Nat.le_refl _⟩) (fun r_2 F_1 hp_3 H locs hZ => ?_)
  obtain ⟨hp_3, rfl⟩ := hp_3
  by_cases b_4 : bTry sc.2.2.2.1 i
  · rw [if_pos b_4] at hp_3
    subst hp_3
    refine lv_if_ne (tgt := 13) hx hb dX6_tryOf_8 (by decide) (fun _ => ?_) (fun h => absurd h (by decide))
    refine lv_aload_n hx hb dX6_tryOf_13 rfl (lv_at hl 0 rfl) ?_
    refine zget hC hZ fX6_10 (zlt hn rfl) hX.1 rfl dX6_tryOf_14 ?_
    refine zget hC hZ fX6_156 (zlt hn rfl) hX.2.1.1 rfl dX6_tryOf_17 ?_
    refine lv_iload_n hx hb dX6_tryOf_20 rfl (lv_at hl 1 rfl) ?_
    have ht_5 := iN_at (N := 8) b_4.1 b_4.2.2 rfl
    refine zaald hC hZ (zlt hn rfl) hX.2.1.2.2.1 (C := RX3) rfl ht_5.1 ht_5.2 (by decide) rfl dX6_tryOf_21 ?_
    refine lv_astore_n (lv' := [(3, .ref (ad (5 + (iN i)))), (0, .ref (ad 0)), (1, .int i), (2, .int what)]) hx hb dX6_tryOf_22 rfl hl (by decide) rfl (fun ls hl => ?_)
    refine lv_iload_n hx hb dX6_tryOf_23 rfl (lv_at hl 3 rfl) ?_
    by_cases c_24_0 : what = 0
    · refine lv_tableIn (off := 32) (tgt := 56) hx hb dX6_tryOf_24 (by rw [c_24_0]; decide) (by rw [c_24_0]; decide) (by rw [c_24_0]; rfl) (by decide) ?_
      refine lv_aload_n hx hb dX6_tryOf_56 rfl (lv_at hl 0 rfl) ?_
      refine zget hC hZ fX6_100 (by have := ht_5.2; omega) (hX.2.1.2.2.2.2 (iN i) ht_5.2) rfl dX6_tryOf_57 ?_
      have hq_6 : (sc.2.2.1 (iN i)).1 = (if bTry sc.2.2.2.1 i then (if what = 0 then (sc.2.2.1 (iN i)).1 else if what = 1 then (sc.2.2.1 (iN i)).2.1 else if what = 2 then (sc.2.2.1 (iN i)).2.2.1 else if what = 3 then (sc.2.2.1 (iN i)).2.2.2 else -1) else -1) := by first | rfl | simp [b_4, c_24_0] | (simp only [id]; simp [b_4, c_24_0])
      exact zireti hC hZ hr hlocks ⟨hq_6, rfl⟩ dX6_tryOf_60
    · by_cases c_24_1 : what = 1
      · refine lv_tableIn (off := 37) (tgt := 61) hx hb dX6_tryOf_24 (by rw [c_24_1]; decide) (by rw [c_24_1]; decide) (by rw [c_24_1]; rfl) (by decide) ?_
        refine lv_aload_n hx hb dX6_tryOf_61 rfl (lv_at hl 0 rfl) ?_
        refine zget hC hZ fX6_103 (by have := ht_5.2; omega) (hX.2.1.2.2.2.2 (iN i) ht_5.2) rfl dX6_tryOf_62 ?_
        have hq_7 : (sc.2.2.1 (iN i)).2.1 = (if bTry sc.2.2.2.1 i then (if what = 0 then (sc.2.2.1 (iN i)).1 else if what = 1 then (sc.2.2.1 (iN i)).2.1 else if what = 2 then (sc.2.2.1 (iN i)).2.2.1 else if what = 3 then (sc.2.2.1 (iN i)).2.2.2 else -1) else -1) := by first | rfl | simp [b_4, c_24_0, c_24_1] | (simp only [id]; simp [b_4, c_24_0, c_24_1])
        exact zireti hC hZ hr hlocks ⟨hq_7, rfl⟩ dX6_tryOf_65
      · by_cases c_24_2 : what = 2
        · refine lv_tableIn (off := 42) (tgt := 66) hx hb dX6_tryOf_24 (by rw [c_24_2]; decide) (by rw [c_24_2]; decide) (by rw [c_24_2]; rfl) (by decide) ?_
          refine lv_aload_n hx hb dX6_tryOf_66 rfl (lv_at hl 0 rfl) ?_
          refine zget hC hZ fX6_106 (by have := ht_5.2; omega) (hX.2.1.2.2.2.2 (iN i) ht_5.2) rfl dX6_tryOf_67 ?_
          have hq_8 : (sc.2.2.1 (iN i)).2.2.1 = (if bTry sc.2.2.2.1 i then (if what = 0 then (sc.2.2.1 (iN i)).1 else if what = 1 then (sc.2.2.1 (iN i)).2.1 else if what = 2 then (sc.2.2.1 (iN i)).2.2.1 else if what = 3 then (sc.2.2.1 (iN i)).2.2.2 else -1) else -1) := by first | rfl | simp [b_4, c_24_0, c_24_1, c_24_2] | (simp only [id]; simp [b_4, c_24_0, c_24_1, c_24_2])
          exact zireti hC hZ hr hlocks ⟨hq_8, rfl⟩ dX6_tryOf_70
        · by_cases c_24_3 : what = 3
          · refine lv_tableIn (off := 47) (tgt := 71) hx hb dX6_tryOf_24 (by rw [c_24_3]; decide) (by rw [c_24_3]; decide) (by rw [c_24_3]; rfl) (by decide) ?_
            refine lv_aload_n hx hb dX6_tryOf_71 rfl (lv_at hl 0 rfl) ?_
            refine zget hC hZ fX6_112 (by have := ht_5.2; omega) (hX.2.1.2.2.2.2 (iN i) ht_5.2) rfl dX6_tryOf_72 ?_
            have hq_9 : (sc.2.2.1 (iN i)).2.2.2 = (if bTry sc.2.2.2.1 i then (if what = 0 then (sc.2.2.1 (iN i)).1 else if what = 1 then (sc.2.2.1 (iN i)).2.1 else if what = 2 then (sc.2.2.1 (iN i)).2.2.1 else if what = 3 then (sc.2.2.1 (iN i)).2.2.2 else -1) else -1) := by first | rfl | simp [b_4, c_24_0, c_24_1, c_24_2, c_24_3] | (simp only [id]; simp [b_4, c_24_0, c_24_1, c_24_2, c_24_3])
            exact zireti hC hZ hr hlocks ⟨hq_9, rfl⟩ dX6_tryOf_75
          · refine lv_tableOut (tgt := 76) hx hb dX6_tryOf_24 (by have e0 : ¬ what.toInt = 0 := lv_neT (k := 0) c_24_0 rfl; have e1 : ¬ what.toInt = 1 := lv_neT (k := 1) c_24_1 rfl; have e2 : ¬ what.toInt = 2 := lv_neT (k := 2) c_24_2 rfl; have e3 : ¬ what.toInt = 3 := lv_neT (k := 3) c_24_3 rfl; omega) (by decide) ?_
            refine lv_iconst (v := (-1)) hx hb dX6_tryOf_76 (by decide) ?_
            have hq_10 : (-1 : Int32) = (if bTry sc.2.2.2.1 i then (if what = 0 then (sc.2.2.1 (iN i)).1 else if what = 1 then (sc.2.2.1 (iN i)).2.1 else if what = 2 then (sc.2.2.1 (iN i)).2.2.1 else if what = 3 then (sc.2.2.1 (iN i)).2.2.2 else -1) else -1) := by first | rfl | simp [b_4, c_24_0, c_24_1, c_24_2, c_24_3] | (simp only [id]; simp [b_4, c_24_0, c_24_1, c_24_2, c_24_3])
            exact zireti hC hZ hr hlocks ⟨hq_10, rfl⟩ dX6_tryOf_77
  · rw [if_neg b_4] at hp_3
    subst hp_3
    refine lv_if_ne (tgt := 13) hx hb dX6_tryOf_8 (by decide) (fun h => absurd (by decide) h) (fun _ => ?_)
    refine lv_iconst (v := (-1)) hx hb dX6_tryOf_11 (by decide) ?_
    have hq_11 : (-1 : Int32) = (if bTry sc.2.2.2.1 i then (if what = 0 then (sc.2.2.1 (iN i)).1 else if what = 1 then (sc.2.2.1 (iN i)).2.1 else if what = 2 then (sc.2.2.1 (iN i)).2.2.1 else if what = 3 then (sc.2.2.1 (iN i)).2.2.2 else -1) else -1) := by first | rfl | simp [b_4] | (simp only [id]; simp [b_4])
    exact zireti hC hZ hr hlocks ⟨hq_11, rfl⟩ dX6_tryOf_12

theorem mX6_story : zMd yX6_story cX6_story 5 (some .int) 2 := ⟨by decide +kernel, gt_of 366 (by decide +kernel) rfl, gt_of 44 (by decide +kernel) rfl, by decide⟩
theorem dX6_story_0 : decode cX6_story 0 = .ok (.iload_n 2, 1) := by decide +kernel
theorem dX6_story_1 : decode cX6_story 1 = .ok (.iconst 0, 1) := by decide +kernel
theorem dX6_story_2 : decode cX6_story 2 = .ok (.iconst 2, 1) := by decide +kernel
theorem dX6_story_3 : decode cX6_story 3 = .ok (.invokestatic 115, 3) := by decide +kernel
theorem dX6_story_6 : decode cX6_story 6 = .ok (.ifCond .eq 11, 3) := by decide +kernel
theorem dX6_story_9 : decode cX6_story 9 = .ok (.aload_n 0, 1) := by decide +kernel
theorem dX6_story_10 : decode cX6_story 10 = .ok (.iload_n 1, 1) := by decide +kernel
theorem dX6_story_11 : decode cX6_story 11 = .ok (.invokevirtual 160, 3) := by decide +kernel
theorem kX6_160 : zLk RX6 160 yX6_storyRefusal := Or.inl (gt_of 367 (by decide +kernel) rfl)
theorem vX6_storyRefusal : zMi yX6_storyRefusal := ⟨gt_of 369 (by decide +kernel) rfl, gt_of 9 (by decide +kernel) rfl⟩
theorem dX6_story_14 : decode cX6_story 14 = .ok (.goto 4, 3) := by decide +kernel
theorem dX6_story_18 : decode cX6_story 18 = .ok (.istore_n 3, 1) := by decide +kernel
theorem dX6_story_19 : decode cX6_story 19 = .ok (.iload_n 3, 1) := by decide +kernel
theorem dX6_story_20 : decode cX6_story 20 = .ok (.ifCond .eq 5, 3) := by decide +kernel
theorem dX6_story_25 : decode cX6_story 25 = .ok (.aload_n 0, 1) := by decide +kernel
theorem dX6_story_26 : decode cX6_story 26 = .ok (.getfield 25, 3) := by decide +kernel
theorem dX6_story_29 : decode cX6_story 29 = .ok (.iload_n 1, 1) := by decide +kernel
theorem dX6_story_30 : decode cX6_story 30 = .ok (.aaload, 1) := by decide +kernel
theorem dX6_story_31 : decode cX6_story 31 = .ok (.getfield 163, 3) := by decide +kernel
theorem fX6_163 : zFld RX6 163 4 1 := ⟨RX4, TX4, 5, rfl, inX4, by decide, rfl, Or.inr ⟨"ChainLeap", List.mem_of_getElem? (i := 179) (by decide +kernel)⟩⟩
theorem dX6_story_34 : decode cX6_story 34 = .ok (.astore 4, 2) := by decide +kernel
theorem dX6_story_36 : decode cX6_story 36 = .ok (.iload_n 2, 1) := by decide +kernel
theorem dX6_story_37 : decode cX6_story 37 = .ok (.lookupswitch 46 #[(0, 27), (1, 40)], 27) := by decide +kernel
theorem dX6_story_64 : decode cX6_story 64 = .ok (.aload 4, 2) := by decide +kernel
theorem dX6_story_66 : decode cX6_story 66 = .ok (.aload_n 0, 1) := by decide +kernel
theorem dX6_story_67 : decode cX6_story 67 = .ok (.getfield 10, 3) := by decide +kernel
theorem dX6_story_70 : decode cX6_story 70 = .ok (.getfield 97, 3) := by decide +kernel
theorem dX6_story_73 : decode cX6_story 73 = .ok (.invokevirtual 166, 3) := by decide +kernel
theorem kX6_166 : zLk RX6 166 yX5_kick := Or.inl (gt_of 375 (by decide +kernel) rfl)
theorem dX6_story_76 : decode cX6_story 76 = .ok (.ireturn, 1) := by decide +kernel
theorem dX6_story_77 : decode cX6_story 77 = .ok (.aload 4, 2) := by decide +kernel
theorem dX6_story_79 : decode cX6_story 79 = .ok (.invokevirtual 170, 3) := by decide +kernel
theorem kX6_170 : zLk RX6 170 yX5_draw := Or.inl (gt_of 387 (by decide +kernel) rfl)
theorem dX6_story_82 : decode cX6_story 82 = .ok (.ireturn, 1) := by decide +kernel
theorem dX6_story_83 : decode cX6_story 83 = .ok (.aload 4, 2) := by decide +kernel
theorem dX6_story_85 : decode cX6_story 85 = .ok (.invokevirtual 174, 3) := by decide +kernel
theorem kX6_174 : zLk RX6 174 yX5_hold := Or.inl (gt_of 391 (by decide +kernel) rfl)
theorem dX6_story_88 : decode cX6_story 88 = .ok (.ireturn, 1) := by decide +kernel
theorem dX6_story_23 : decode cX6_story 23 = .ok (.iload_n 3, 1) := by decide +kernel
theorem dX6_story_24 : decode cX6_story 24 = .ok (.ireturn, 1) := by decide +kernel
theorem dX6_story_17 : decode cX6_story 17 = .ok (.iconst (-1), 1) := by decide +kernel
set_option maxRecDepth 100000 in
theorem c_X6_story (l : Launch) (D : va_G) (cy : Nat → Nat) (n : Nat) (ad : Nat → Nat) (F : Nat → va_E) (sz : Nat) (pic : Int32) (sc ps : Scn) (sh : Nat → Shf) (rd : Rdr) (dr : Stg) (fa : Tal) (mi : Crs) (hn : 56 ≤ n) (hX : RX ad cy F pic sc ps sh rd dr fa mi) (d what : Int32) : Met l yX6_story (zw yX6_story cX6_story 5 (some .int)) (rmL 2) (zPc D cy n ad F sz [.ref (ad 0), .int d, .int what]) (va_Qi (fun r F1 => r = zr (bIn what 0 2) (sStR sh d) (sStory sc (sh (iN d)).2.1 what) ∧ F = F1) (zB D n ad) (zA n ad sz)) 0 0 (zA n ad sz) := by
  refine zmet (by decide +kernel) (Nat.le_of_ble_eq_true rfl) (fun p e s m args below meth c ls hC hsz hZ hA hr hlocks hnm hl => ?_)
  have hC : zC p m c cX6_story 5 s args RX6 D cy := hC
  have hx := hC.1.1
  have hb := hC.1.2.1
  have hl : lv_has ls 5 [(0, .ref (ad 0)), (1, .int d), (2, .int what)] := hl
  refine lv_iload_n hx hb dX6_story_0 rfl (lv_at hl 2 rfl) ?_
  refine lv_iconst (v := 0) hx hb dX6_story_1 (by decide) ?_
  refine lv_iconst (v := 2) hx hb dX6_story_2 (by decide) ?_
  refine zgoi hZ hA (zrunS (As := [.int what, .int 0, .int 2]) (rest := []) hC hZ (c_X6_isWithin l D cy n ad F s.heap.size what 0 2) mX6_isWithin sX6_isWithin kX6_115 (zRj_of rfl) rfl hl.1 rfl (Nat.le_of_ble_eq_true rfl) dX6_story_3 ⟨Nat.le_refl _, Nat.le_refl _⟩) (fun r_2 F_1 hp_3 H locs hZ => ?_)
  obtain ⟨hp_3, rfl⟩ := hp_3
  by_cases b_4 : bIn what 0 2
  · rw [if_pos b_4] at hp_3
    subst hp_3
    refine lv_if_eq (tgt := 17) hx hb dX6_story_6 (by decide) (fun h => absurd h (by decide)) (fun _ => ?_)
    refine lv_aload_n hx hb dX6_story_9 rfl (lv_at hl 0 rfl) ?_
    refine lv_iload_n hx hb dX6_story_10 rfl (lv_at hl 1 rfl) ?_
    refine zgoi hZ hA (zrunV (As := [.int d]) (rest := []) (k := 0) hC hZ (c_X6_storyRefusal l D cy n ad F H.size pic sc ps sh rd dr fa mi hn hX d) mX6_storyRefusal vX6_storyRefusal kX6_160 (zRj_of rfl) (zlt hn rfl) hX.1 rfl rfl hl.1 rfl (Nat.le_of_ble_eq_true rfl) dX6_story_11 ⟨Nat.le_refl _, Nat.le_refl _⟩) (fun r_6 F_5 hp_7 H locs hZ => ?_)
    obtain ⟨rfl, rfl⟩ := hp_7
    refine lv_goto (tgt := 18) hx hb dX6_story_14 (by decide) ?_
    refine lv_istore_n (lv' := [(3, .int (sStR sh d)), (0, .ref (ad 0)), (1, .int d), (2, .int what)]) hx hb dX6_story_18 rfl hl (by decide) rfl (fun ls hl => ?_)
    refine lv_iload_n hx hb dX6_story_19 rfl (lv_at hl 0 rfl) ?_
    refine lv_if_eq (tgt := 25) hx hb dX6_story_20 (by decide) (fun c_20 => ?_) (fun c_20 => ?_)
    · refine lv_aload_n hx hb dX6_story_25 rfl (lv_at hl 1 rfl) ?_
      refine zget hC hZ fX6_25 (zlt hn rfl) hX.1 rfl dX6_story_26 ?_
      refine lv_iload_n hx hb dX6_story_29 rfl (lv_at hl 2 rfl) ?_
      have hs_8 := sStR_0 c_20
      refine zaald hC hZ (zlt hn rfl) hX.2.2.2.1 (C := RX4) rfl hs_8.1.1 hs_8.1.2 (by decide) rfl dX6_story_30 ?_
      refine zget hC hZ fX6_163 (by have := hs_8.1.2; omega) (hX.2.2.2.2.1 (iN d) hs_8.1.2).1 rfl dX6_story_31 ?_
      refine lv_astore (lv' := [(4, .ref (ad (26 + 3 * (iN d) + 1))), (3, .int (sStR sh d)), (0, .ref (ad 0)), (1, .int d), (2, .int what)]) hx hb dX6_story_34 hl (by decide) rfl (fun ls hl => ?_)
      refine lv_iload_n hx hb dX6_story_36 rfl (lv_at hl 4 rfl) ?_
      by_cases c_37_0 : what = 0
      · refine lv_lookup (off := 27) (tgt := 64) hx hb dX6_story_37 (by decide) (by rw [c_37_0]; decide) (by decide) ?_
        refine lv_aload hx hb dX6_story_64 (lv_at hl 0 rfl) ?_
        refine lv_aload_n hx hb dX6_story_66 rfl (lv_at hl 2 rfl) ?_
        refine zget hC hZ fX6_10 (zlt hn rfl) hX.1 rfl dX6_story_67 ?_
        refine zget hC hZ fX6_97 (zlt hn rfl) hX.2.1.1 rfl dX6_story_70 ?_
        refine zgoi hZ hA (zrunV (As := [.ref (ad 2)]) (rest := []) (k := 26 + 3 * (iN d) + 1) hC hZ (c_X5_kick l D cy n ad F H.size (26 + 3 * (iN d) + 1) (sh (iN d)).2.1 (by have := hs_8.1.2; omega) (hX.2.2.2.2.1 (iN d) hs_8.1.2).2.1 2 sc.1 (zlt hn rfl) hX.2.1.2.1) mX5_kick vX5_kick kX6_166 (zRj_of rfl) (by have := hs_8.1.2; omega) (hX.2.2.2.2.1 (iN d) hs_8.1.2).2.1 rfl rfl hl.1 rfl (Nat.le_of_ble_eq_true rfl) dX6_story_73 ⟨Nat.le_refl _, Nat.le_refl _⟩) (fun r_10 F_9 hp_11 H locs hZ => ?_)
        obtain ⟨rfl, rfl⟩ := hp_11
        have hv_13 : (sKick (sh (iN d)).2.1 sc.1) = sStory sc (sh (iN d)).2.1 what := by first | rfl | simp [sStory, b_4, c_20, c_37_0]
        have hq_12 : (sKick (sh (iN d)).2.1 sc.1) = zr (bIn what 0 2) (sStR sh d) (sStory sc (sh (iN d)).2.1 what) := hv_13.trans (zr_ok b_4 c_20).symm
        exact zireti hC hZ hr hlocks ⟨hq_12, rfl⟩ dX6_story_76
      · by_cases c_37_1 : what = 1
        · refine lv_lookup (off := 40) (tgt := 77) hx hb dX6_story_37 (by decide) (by rw [c_37_1]; decide) (by decide) ?_
          refine lv_aload hx hb dX6_story_77 (lv_at hl 0 rfl) ?_
          refine zgoi hZ hA (zrunV (As := []) (rest := []) (k := 26 + 3 * (iN d) + 1) hC hZ (c_X5_draw l D cy n ad F H.size (26 + 3 * (iN d) + 1) (sh (iN d)).2.1 (by have := hs_8.1.2; omega) (hX.2.2.2.2.1 (iN d) hs_8.1.2).2.1) mX5_draw vX5_draw kX6_170 (zRj_of rfl) (by have := hs_8.1.2; omega) (hX.2.2.2.2.1 (iN d) hs_8.1.2).2.1 rfl rfl hl.1 rfl (Nat.le_of_ble_eq_true rfl) dX6_story_79 ⟨Nat.le_refl _, Nat.le_refl _⟩) (fun r_15 F_14 hp_16 H locs hZ => ?_)
          obtain ⟨rfl, rfl⟩ := hp_16
          have hv_18 : (sDraw (sh (iN d)).2.1) = sStory sc (sh (iN d)).2.1 what := by first | rfl | simp [sStory, b_4, c_20, c_37_0, c_37_1]
          have hq_17 : (sDraw (sh (iN d)).2.1) = zr (bIn what 0 2) (sStR sh d) (sStory sc (sh (iN d)).2.1 what) := hv_18.trans (zr_ok b_4 c_20).symm
          exact zireti hC hZ hr hlocks ⟨hq_17, rfl⟩ dX6_story_82
        · refine lv_lookup (off := 46) (tgt := 83) hx hb dX6_story_37 (by decide) ((lv_osw (k := 0) c_37_0 rfl).trans ((lv_osw (k := 1) c_37_1 rfl).trans rfl)) (by decide) ?_
          refine lv_aload hx hb dX6_story_83 (lv_at hl 0 rfl) ?_
          refine zgoi hZ hA (zrunV (As := []) (rest := []) (k := 26 + 3 * (iN d) + 1) hC hZ (c_X5_hold l D cy n ad F H.size (26 + 3 * (iN d) + 1) (sh (iN d)).2.1 (by have := hs_8.1.2; omega) (hX.2.2.2.2.1 (iN d) hs_8.1.2).2.1) mX5_hold vX5_hold kX6_174 (zRj_of rfl) (by have := hs_8.1.2; omega) (hX.2.2.2.2.1 (iN d) hs_8.1.2).2.1 rfl rfl hl.1 rfl (Nat.le_of_ble_eq_true rfl) dX6_story_85 ⟨Nat.le_refl _, Nat.le_refl _⟩) (fun r_20 F_19 hp_21 H locs hZ => ?_)
          obtain ⟨rfl, rfl⟩ := hp_21
          have hv_23 : (sHold (sh (iN d)).2.1) = sStory sc (sh (iN d)).2.1 what := by first | rfl | simp [sStory, b_4, c_20, c_37_0, c_37_1]
          have hq_22 : (sHold (sh (iN d)).2.1) = zr (bIn what 0 2) (sStR sh d) (sStory sc (sh (iN d)).2.1 what) := hv_23.trans (zr_ok b_4 c_20).symm
          exact zireti hC hZ hr hlocks ⟨hq_22, rfl⟩ dX6_story_88
    · refine lv_iload_n hx hb dX6_story_23 rfl (lv_at hl 0 rfl) ?_
      have hq_24 : (sStR sh d) = zr (bIn what 0 2) (sStR sh d) (sStory sc (sh (iN d)).2.1 what) := (zr_rf b_4 c_20).symm
      exact zireti hC hZ hr hlocks ⟨hq_24, rfl⟩ dX6_story_24
  · rw [if_neg b_4] at hp_3
    subst hp_3
    refine lv_if_eq (tgt := 17) hx hb dX6_story_6 (by decide) (fun _ => ?_) (fun h => absurd (by decide) h)
    refine lv_iconst (v := (-1)) hx hb dX6_story_17 (by decide) ?_
    refine lv_istore_n (lv' := [(3, .int (-1)), (0, .ref (ad 0)), (1, .int d), (2, .int what)]) hx hb dX6_story_18 rfl hl (by decide) rfl (fun ls hl => ?_)
    refine lv_iload_n hx hb dX6_story_19 rfl (lv_at hl 0 rfl) ?_
    refine lv_if_eq (tgt := 25) hx hb dX6_story_20 (by decide) (fun h => absurd h (by decide)) (fun _ => ?_)
    refine lv_iload_n hx hb dX6_story_23 rfl (lv_at hl 0 rfl) ?_
    have hq_25 : (-1 : Int32) = zr (bIn what 0 2) (sStR sh d) (sStory sc (sh (iN d)).2.1 what) := (zr_no b_4).symm
    exact zireti hC hZ hr hlocks ⟨hq_25, rfl⟩ dX6_story_24

theorem mX6_ahead : zMd yX6_ahead cX6_ahead 4 (some .int) 2 := ⟨by decide +kernel, gt_of 446 (by decide +kernel) rfl, gt_of 44 (by decide +kernel) rfl, by decide⟩
theorem dX6_ahead_0 : decode cX6_ahead 0 = .ok (.aload_n 0, 1) := by decide +kernel
theorem dX6_ahead_1 : decode cX6_ahead 1 = .ok (.getfield 10, 3) := by decide +kernel
theorem dX6_ahead_4 : decode cX6_ahead 4 = .ok (.iload_n 2, 1) := by decide +kernel
theorem dX6_ahead_5 : decode cX6_ahead 5 = .ok (.invokevirtual 153, 3) := by decide +kernel
theorem dX6_ahead_8 : decode cX6_ahead 8 = .ok (.ifCond .eq 11, 3) := by decide +kernel
theorem dX6_ahead_11 : decode cX6_ahead 11 = .ok (.aload_n 0, 1) := by decide +kernel
theorem dX6_ahead_12 : decode cX6_ahead 12 = .ok (.iload_n 1, 1) := by decide +kernel
theorem dX6_ahead_13 : decode cX6_ahead 13 = .ok (.invokevirtual 160, 3) := by decide +kernel
theorem dX6_ahead_16 : decode cX6_ahead 16 = .ok (.goto 4, 3) := by decide +kernel
theorem dX6_ahead_20 : decode cX6_ahead 20 = .ok (.istore_n 3, 1) := by decide +kernel
theorem dX6_ahead_21 : decode cX6_ahead 21 = .ok (.iload_n 3, 1) := by decide +kernel
theorem dX6_ahead_22 : decode cX6_ahead 22 = .ok (.ifCond .eq 5, 3) := by decide +kernel
theorem dX6_ahead_27 : decode cX6_ahead 27 = .ok (.aload_n 0, 1) := by decide +kernel
theorem dX6_ahead_28 : decode cX6_ahead 28 = .ok (.getfield 25, 3) := by decide +kernel
theorem dX6_ahead_31 : decode cX6_ahead 31 = .ok (.iload_n 1, 1) := by decide +kernel
theorem dX6_ahead_32 : decode cX6_ahead 32 = .ok (.aaload, 1) := by decide +kernel
theorem dX6_ahead_33 : decode cX6_ahead 33 = .ok (.getfield 163, 3) := by decide +kernel
theorem dX6_ahead_36 : decode cX6_ahead 36 = .ok (.aload_n 0, 1) := by decide +kernel
theorem dX6_ahead_37 : decode cX6_ahead 37 = .ok (.getfield 10, 3) := by decide +kernel
theorem dX6_ahead_40 : decode cX6_ahead 40 = .ok (.getfield 156, 3) := by decide +kernel
theorem dX6_ahead_43 : decode cX6_ahead 43 = .ok (.iload_n 2, 1) := by decide +kernel
theorem dX6_ahead_44 : decode cX6_ahead 44 = .ok (.aaload, 1) := by decide +kernel
theorem dX6_ahead_45 : decode cX6_ahead 45 = .ok (.invokevirtual 205, 3) := by decide +kernel
theorem kX6_205 : zLk RX6 205 yX5_arch := Or.inl (gt_of 447 (by decide +kernel) rfl)
theorem vX5_arch : zMi yX5_arch := ⟨gt_of 448 (by decide +kernel) rfl, gt_of 449 (by decide +kernel) rfl⟩
theorem dX6_ahead_48 : decode cX6_ahead 48 = .ok (.ireturn, 1) := by decide +kernel
theorem dX6_ahead_25 : decode cX6_ahead 25 = .ok (.iload_n 3, 1) := by decide +kernel
theorem dX6_ahead_26 : decode cX6_ahead 26 = .ok (.ireturn, 1) := by decide +kernel
theorem dX6_ahead_19 : decode cX6_ahead 19 = .ok (.iconst (-1), 1) := by decide +kernel
set_option maxRecDepth 100000 in
theorem c_X6_ahead (l : Launch) (D : va_G) (cy : Nat → Nat) (n : Nat) (ad : Nat → Nat) (F : Nat → va_E) (sz : Nat) (pic : Int32) (sc ps : Scn) (sh : Nat → Shf) (rd : Rdr) (dr : Stg) (fa : Tal) (mi : Crs) (hn : 56 ≤ n) (hX : RX ad cy F pic sc ps sh rd dr fa mi) (hG : gX sc ps sh) (d i : Int32) : Met l yX6_ahead (zw yX6_ahead cX6_ahead 4 (some .int)) (rmL 5) (zPc D cy n ad F sz [.ref (ad 0), .int d, .int i]) (va_Qi (fun r F1 => r = zr (bTry sc.2.2.2.1 i) (sStR sh d) (sArchAt (sh (iN d)).2.1 (sc.2.2.1 (iN i)) 0) ∧ F = F1) (zB D n ad) (zA n ad sz)) 0 0 (zA n ad sz) := by
  refine zmet (by decide +kernel) (Nat.le_of_ble_eq_true rfl) (fun p e s m args below meth c ls hC hsz hZ hA hr hlocks hnm hl => ?_)
  have hC : zC p m c cX6_ahead 4 s args RX6 D cy := hC
  have hx := hC.1.1
  have hb := hC.1.2.1
  have hl : lv_has ls 4 [(0, .ref (ad 0)), (1, .int d), (2, .int i)] := hl
  refine lv_aload_n hx hb dX6_ahead_0 rfl (lv_at hl 0 rfl) ?_
  refine zget hC hZ fX6_10 (zlt hn rfl) hX.1 rfl dX6_ahead_1 ?_
  refine lv_iload_n hx hb dX6_ahead_4 rfl (lv_at hl 2 rfl) ?_
  refine zgoi hZ hA (zrunV (As := [.int i]) (rest := []) (k := 1) hC hZ (c_X2_hasTry l D cy n ad F s.heap.size 1 sc (by omega) hX.2.1 i) mX2_hasTry vX2_hasTry kX6_153 (zRj_of rfl) (zlt hn rfl) hX.2.1.1 rfl rfl hl.1 rfl (Nat.le_of_ble_eq_true rfl) dX6_ahead_5 ⟨Nat.le_refl _, Nat.le_refl _⟩) (fun r_2 F_1 hp_3 H locs hZ => ?_)
  obtain ⟨hp_3, rfl⟩ := hp_3
  by_cases b_4 : bTry sc.2.2.2.1 i
  · rw [if_pos b_4] at hp_3
    subst hp_3
    refine lv_if_eq (tgt := 19) hx hb dX6_ahead_8 (by decide) (fun h => absurd h (by decide)) (fun _ => ?_)
    refine lv_aload_n hx hb dX6_ahead_11 rfl (lv_at hl 0 rfl) ?_
    refine lv_iload_n hx hb dX6_ahead_12 rfl (lv_at hl 1 rfl) ?_
    refine zgoi hZ hA (zrunV (As := [.int d]) (rest := []) (k := 0) hC hZ (c_X6_storyRefusal l D cy n ad F H.size pic sc ps sh rd dr fa mi hn hX d) mX6_storyRefusal vX6_storyRefusal kX6_160 (zRj_of rfl) (zlt hn rfl) hX.1 rfl rfl hl.1 rfl (Nat.le_of_ble_eq_true rfl) dX6_ahead_13 ⟨Nat.le_refl _, Nat.le_refl _⟩) (fun r_6 F_5 hp_7 H locs hZ => ?_)
    obtain ⟨rfl, rfl⟩ := hp_7
    refine lv_goto (tgt := 20) hx hb dX6_ahead_16 (by decide) ?_
    refine lv_istore_n (lv' := [(3, .int (sStR sh d)), (0, .ref (ad 0)), (1, .int d), (2, .int i)]) hx hb dX6_ahead_20 rfl hl (by decide) rfl (fun ls hl => ?_)
    refine lv_iload_n hx hb dX6_ahead_21 rfl (lv_at hl 0 rfl) ?_
    refine lv_if_eq (tgt := 27) hx hb dX6_ahead_22 (by decide) (fun c_22 => ?_) (fun c_22 => ?_)
    · refine lv_aload_n hx hb dX6_ahead_27 rfl (lv_at hl 1 rfl) ?_
      refine zget hC hZ fX6_25 (zlt hn rfl) hX.1 rfl dX6_ahead_28 ?_
      refine lv_iload_n hx hb dX6_ahead_31 rfl (lv_at hl 2 rfl) ?_
      have hs_8 := sStR_0 c_22
      refine zaald hC hZ (zlt hn rfl) hX.2.2.2.1 (C := RX4) rfl hs_8.1.1 hs_8.1.2 (by decide) rfl dX6_ahead_32 ?_
      refine zget hC hZ fX6_163 (by have := hs_8.1.2; omega) (hX.2.2.2.2.1 (iN d) hs_8.1.2).1 rfl dX6_ahead_33 ?_
      refine lv_aload_n hx hb dX6_ahead_36 rfl (lv_at hl 1 rfl) ?_
      refine zget hC hZ fX6_10 (zlt hn rfl) hX.1 rfl dX6_ahead_37 ?_
      refine zget hC hZ fX6_156 (zlt hn rfl) hX.2.1.1 rfl dX6_ahead_40 ?_
      refine lv_iload_n hx hb dX6_ahead_43 rfl (lv_at hl 3 rfl) ?_
      have ht_9 := iN_at (N := 8) b_4.1 b_4.2.2 rfl
      refine zaald hC hZ (zlt hn rfl) hX.2.1.2.2.1 (C := RX3) rfl ht_9.1 ht_9.2 (by decide) rfl dX6_ahead_44 ?_
      refine zgoi hZ hA (zrunV (As := [.ref (ad (5 + (iN i)))]) (rest := []) (k := 26 + 3 * (iN d) + 1) hC hZ (c_X5_arch l D cy n ad F H.size (26 + 3 * (iN d) + 1) (sh (iN d)).2.1 (by have := hs_8.1.2; omega) (hX.2.2.2.2.1 (iN d) hs_8.1.2).2.1 (5 + (iN i)) (sc.2.2.1 (iN i)) (by have := ht_9.2; omega) (hX.2.1.2.2.2.2 (iN i) ht_9.2) ((hG.2.2 _ hs_8.1.2).1 hs_8.2) (hG.1.2.2.2.1 _ ht_9.2)) mX5_arch vX5_arch kX6_205 (zRj_of rfl) (by have := hs_8.1.2; omega) (hX.2.2.2.2.1 (iN d) hs_8.1.2).2.1 rfl rfl hl.1 rfl (Nat.le_of_ble_eq_true rfl) dX6_ahead_45 ⟨Nat.le_refl _, Nat.le_refl _⟩) (fun r_11 F_10 hp_12 H locs hZ => ?_)
      obtain ⟨rfl, rfl⟩ := hp_12
      have hv_14 : (sArchAt (sh (iN d)).2.1 (sc.2.2.1 (iN i)) 0) = sArchAt (sh (iN d)).2.1 (sc.2.2.1 (iN i)) 0 := by first | rfl | simp [b_4, c_22]
      have hq_13 : (sArchAt (sh (iN d)).2.1 (sc.2.2.1 (iN i)) 0) = zr (bTry sc.2.2.2.1 i) (sStR sh d) (sArchAt (sh (iN d)).2.1 (sc.2.2.1 (iN i)) 0) := hv_14.trans (zr_ok b_4 c_22).symm
      exact zireti hC hZ hr hlocks ⟨hq_13, rfl⟩ dX6_ahead_48
    · refine lv_iload_n hx hb dX6_ahead_25 rfl (lv_at hl 0 rfl) ?_
      have hq_15 : (sStR sh d) = zr (bTry sc.2.2.2.1 i) (sStR sh d) (sArchAt (sh (iN d)).2.1 (sc.2.2.1 (iN i)) 0) := (zr_rf b_4 c_22).symm
      exact zireti hC hZ hr hlocks ⟨hq_15, rfl⟩ dX6_ahead_26
  · rw [if_neg b_4] at hp_3
    subst hp_3
    refine lv_if_eq (tgt := 19) hx hb dX6_ahead_8 (by decide) (fun _ => ?_) (fun h => absurd (by decide) h)
    refine lv_iconst (v := (-1)) hx hb dX6_ahead_19 (by decide) ?_
    refine lv_istore_n (lv' := [(3, .int (-1)), (0, .ref (ad 0)), (1, .int d), (2, .int i)]) hx hb dX6_ahead_20 rfl hl (by decide) rfl (fun ls hl => ?_)
    refine lv_iload_n hx hb dX6_ahead_21 rfl (lv_at hl 0 rfl) ?_
    refine lv_if_eq (tgt := 27) hx hb dX6_ahead_22 (by decide) (fun h => absurd h (by decide)) (fun _ => ?_)
    refine lv_iload_n hx hb dX6_ahead_25 rfl (lv_at hl 0 rfl) ?_
    have hq_16 : (-1 : Int32) = zr (bTry sc.2.2.2.1 i) (sStR sh d) (sArchAt (sh (iN d)).2.1 (sc.2.2.1 (iN i)) 0) := (zr_no b_4).symm
    exact zireti hC hZ hr hlocks ⟨hq_16, rfl⟩ dX6_ahead_26

theorem mX6_slant : zMd yX6_slant cX6_slant 4 (some .int) 2 := ⟨by decide +kernel, gt_of 544 (by decide +kernel) rfl, gt_of 44 (by decide +kernel) rfl, by decide⟩
theorem dX6_slant_0 : decode cX6_slant 0 = .ok (.iload_n 2, 1) := by decide +kernel
theorem dX6_slant_1 : decode cX6_slant 1 = .ok (.iconst 0, 1) := by decide +kernel
theorem dX6_slant_2 : decode cX6_slant 2 = .ok (.bipush 100, 2) := by decide +kernel
theorem dX6_slant_4 : decode cX6_slant 4 = .ok (.invokestatic 115, 3) := by decide +kernel
theorem dX6_slant_7 : decode cX6_slant 7 = .ok (.ifCond .eq 11, 3) := by decide +kernel
theorem dX6_slant_10 : decode cX6_slant 10 = .ok (.aload_n 0, 1) := by decide +kernel
theorem dX6_slant_11 : decode cX6_slant 11 = .ok (.iload_n 1, 1) := by decide +kernel
theorem dX6_slant_12 : decode cX6_slant 12 = .ok (.invokevirtual 160, 3) := by decide +kernel
theorem dX6_slant_15 : decode cX6_slant 15 = .ok (.goto 4, 3) := by decide +kernel
theorem dX6_slant_19 : decode cX6_slant 19 = .ok (.istore_n 3, 1) := by decide +kernel
theorem dX6_slant_20 : decode cX6_slant 20 = .ok (.iload_n 3, 1) := by decide +kernel
theorem dX6_slant_21 : decode cX6_slant 21 = .ok (.ifCond .eq 5, 3) := by decide +kernel
theorem dX6_slant_26 : decode cX6_slant 26 = .ok (.aload_n 0, 1) := by decide +kernel
theorem dX6_slant_27 : decode cX6_slant 27 = .ok (.getfield 25, 3) := by decide +kernel
theorem dX6_slant_30 : decode cX6_slant 30 = .ok (.iload_n 1, 1) := by decide +kernel
theorem dX6_slant_31 : decode cX6_slant 31 = .ok (.aaload, 1) := by decide +kernel
theorem dX6_slant_32 : decode cX6_slant 32 = .ok (.getfield 163, 3) := by decide +kernel
theorem dX6_slant_35 : decode cX6_slant 35 = .ok (.aload_n 0, 1) := by decide +kernel
theorem dX6_slant_36 : decode cX6_slant 36 = .ok (.getfield 10, 3) := by decide +kernel
theorem dX6_slant_39 : decode cX6_slant 39 = .ok (.getfield 97, 3) := by decide +kernel
theorem dX6_slant_42 : decode cX6_slant 42 = .ok (.iload_n 2, 1) := by decide +kernel
theorem dX6_slant_43 : decode cX6_slant 43 = .ok (.invokevirtual 256, 3) := by decide +kernel
theorem kX6_256 : zLk RX6 256 yX5_archAt := Or.inl (gt_of 545 (by decide +kernel) rfl)
theorem dX6_slant_46 : decode cX6_slant 46 = .ok (.ireturn, 1) := by decide +kernel
theorem dX6_slant_24 : decode cX6_slant 24 = .ok (.iload_n 3, 1) := by decide +kernel
theorem dX6_slant_25 : decode cX6_slant 25 = .ok (.ireturn, 1) := by decide +kernel
theorem dX6_slant_18 : decode cX6_slant 18 = .ok (.iconst (-1), 1) := by decide +kernel
set_option maxRecDepth 100000 in
theorem c_X6_slant (l : Launch) (D : va_G) (cy : Nat → Nat) (n : Nat) (ad : Nat → Nat) (F : Nat → va_E) (sz : Nat) (pic : Int32) (sc ps : Scn) (sh : Nat → Shf) (rd : Rdr) (dr : Stg) (fa : Tal) (mi : Crs) (hn : 56 ≤ n) (hX : RX ad cy F pic sc ps sh rd dr fa mi) (hG : gX sc ps sh) (d q : Int32) : Met l yX6_slant (zw yX6_slant cX6_slant 4 (some .int)) (rmL 4) (zPc D cy n ad F sz [.ref (ad 0), .int d, .int q]) (va_Qi (fun r F1 => r = zr (bIn q 0 100) (sStR sh d) (sArchAt (sh (iN d)).2.1 sc.1 q) ∧ F = F1) (zB D n ad) (zA n ad sz)) 0 0 (zA n ad sz) := by
  refine zmet (by decide +kernel) (Nat.le_of_ble_eq_true rfl) (fun p e s m args below meth c ls hC hsz hZ hA hr hlocks hnm hl => ?_)
  have hC : zC p m c cX6_slant 4 s args RX6 D cy := hC
  have hx := hC.1.1
  have hb := hC.1.2.1
  have hl : lv_has ls 4 [(0, .ref (ad 0)), (1, .int d), (2, .int q)] := hl
  refine lv_iload_n hx hb dX6_slant_0 rfl (lv_at hl 2 rfl) ?_
  refine lv_iconst (v := 0) hx hb dX6_slant_1 (by decide) ?_
  refine lv_bipush (v := 100) hx hb dX6_slant_2 (by decide) ?_
  refine zgoi hZ hA (zrunS (As := [.int q, .int 0, .int 100]) (rest := []) hC hZ (c_X6_isWithin l D cy n ad F s.heap.size q 0 100) mX6_isWithin sX6_isWithin kX6_115 (zRj_of rfl) rfl hl.1 rfl (Nat.le_of_ble_eq_true rfl) dX6_slant_4 ⟨Nat.le_refl _, Nat.le_refl _⟩) (fun r_2 F_1 hp_3 H locs hZ => ?_)
  obtain ⟨hp_3, rfl⟩ := hp_3
  by_cases b_4 : bIn q 0 100
  · rw [if_pos b_4] at hp_3
    subst hp_3
    refine lv_if_eq (tgt := 18) hx hb dX6_slant_7 (by decide) (fun h => absurd h (by decide)) (fun _ => ?_)
    refine lv_aload_n hx hb dX6_slant_10 rfl (lv_at hl 0 rfl) ?_
    refine lv_iload_n hx hb dX6_slant_11 rfl (lv_at hl 1 rfl) ?_
    refine zgoi hZ hA (zrunV (As := [.int d]) (rest := []) (k := 0) hC hZ (c_X6_storyRefusal l D cy n ad F H.size pic sc ps sh rd dr fa mi hn hX d) mX6_storyRefusal vX6_storyRefusal kX6_160 (zRj_of rfl) (zlt hn rfl) hX.1 rfl rfl hl.1 rfl (Nat.le_of_ble_eq_true rfl) dX6_slant_12 ⟨Nat.le_refl _, Nat.le_refl _⟩) (fun r_6 F_5 hp_7 H locs hZ => ?_)
    obtain ⟨rfl, rfl⟩ := hp_7
    refine lv_goto (tgt := 19) hx hb dX6_slant_15 (by decide) ?_
    refine lv_istore_n (lv' := [(3, .int (sStR sh d)), (0, .ref (ad 0)), (1, .int d), (2, .int q)]) hx hb dX6_slant_19 rfl hl (by decide) rfl (fun ls hl => ?_)
    refine lv_iload_n hx hb dX6_slant_20 rfl (lv_at hl 0 rfl) ?_
    refine lv_if_eq (tgt := 26) hx hb dX6_slant_21 (by decide) (fun c_21 => ?_) (fun c_21 => ?_)
    · refine lv_aload_n hx hb dX6_slant_26 rfl (lv_at hl 1 rfl) ?_
      refine zget hC hZ fX6_25 (zlt hn rfl) hX.1 rfl dX6_slant_27 ?_
      refine lv_iload_n hx hb dX6_slant_30 rfl (lv_at hl 2 rfl) ?_
      have hs_8 := sStR_0 c_21
      refine zaald hC hZ (zlt hn rfl) hX.2.2.2.1 (C := RX4) rfl hs_8.1.1 hs_8.1.2 (by decide) rfl dX6_slant_31 ?_
      refine zget hC hZ fX6_163 (by have := hs_8.1.2; omega) (hX.2.2.2.2.1 (iN d) hs_8.1.2).1 rfl dX6_slant_32 ?_
      refine lv_aload_n hx hb dX6_slant_35 rfl (lv_at hl 1 rfl) ?_
      refine zget hC hZ fX6_10 (zlt hn rfl) hX.1 rfl dX6_slant_36 ?_
      refine zget hC hZ fX6_97 (zlt hn rfl) hX.2.1.1 rfl dX6_slant_39 ?_
      refine lv_iload_n hx hb dX6_slant_42 rfl (lv_at hl 3 rfl) ?_
      refine zgoi hZ hA (zrunV (As := [.ref (ad 2), .int q]) (rest := []) (k := 26 + 3 * (iN d) + 1) hC hZ (c_X5_archAt l D cy n ad F H.size (26 + 3 * (iN d) + 1) (sh (iN d)).2.1 (by have := hs_8.1.2; omega) (hX.2.2.2.2.1 (iN d) hs_8.1.2).2.1 2 sc.1 (zlt hn rfl) hX.2.1.2.1 q ((hG.2.2 _ hs_8.1.2).1 hs_8.2) hG.1.1) mX5_archAt vX5_archAt kX6_256 (zRj_of rfl) (by have := hs_8.1.2; omega) (hX.2.2.2.2.1 (iN d) hs_8.1.2).2.1 rfl rfl hl.1 rfl (Nat.le_of_ble_eq_true rfl) dX6_slant_43 ⟨Nat.le_refl _, Nat.le_refl _⟩) (fun r_10 F_9 hp_11 H locs hZ => ?_)
      obtain ⟨rfl, rfl⟩ := hp_11
      have hv_13 : (sArchAt (sh (iN d)).2.1 sc.1 q) = sArchAt (sh (iN d)).2.1 sc.1 q := by first | rfl | simp [b_4, c_21]
      have hq_12 : (sArchAt (sh (iN d)).2.1 sc.1 q) = zr (bIn q 0 100) (sStR sh d) (sArchAt (sh (iN d)).2.1 sc.1 q) := hv_13.trans (zr_ok b_4 c_21).symm
      exact zireti hC hZ hr hlocks ⟨hq_12, rfl⟩ dX6_slant_46
    · refine lv_iload_n hx hb dX6_slant_24 rfl (lv_at hl 0 rfl) ?_
      have hq_14 : (sStR sh d) = zr (bIn q 0 100) (sStR sh d) (sArchAt (sh (iN d)).2.1 sc.1 q) := (zr_rf b_4 c_21).symm
      exact zireti hC hZ hr hlocks ⟨hq_14, rfl⟩ dX6_slant_25
  · rw [if_neg b_4] at hp_3
    subst hp_3
    refine lv_if_eq (tgt := 18) hx hb dX6_slant_7 (by decide) (fun _ => ?_) (fun h => absurd (by decide) h)
    refine lv_iconst (v := (-1)) hx hb dX6_slant_18 (by decide) ?_
    refine lv_istore_n (lv' := [(3, .int (-1)), (0, .ref (ad 0)), (1, .int d), (2, .int q)]) hx hb dX6_slant_19 rfl hl (by decide) rfl (fun ls hl => ?_)
    refine lv_iload_n hx hb dX6_slant_20 rfl (lv_at hl 0 rfl) ?_
    refine lv_if_eq (tgt := 26) hx hb dX6_slant_21 (by decide) (fun h => absurd h (by decide)) (fun _ => ?_)
    refine lv_iload_n hx hb dX6_slant_24 rfl (lv_at hl 0 rfl) ?_
    have hq_15 : (-1 : Int32) = zr (bIn q 0 100) (sStR sh d) (sArchAt (sh (iN d)).2.1 sc.1 q) := (zr_no b_4).symm
    exact zireti hC hZ hr hlocks ⟨hq_15, rfl⟩ dX6_slant_25

theorem mX6_waits : zMd yX6_waits cX6_waits 3 (some .int) 1 := ⟨by decide +kernel, gt_of 614 (by decide +kernel) rfl, gt_of 44 (by decide +kernel) rfl, by decide⟩
theorem dX6_waits_0 : decode cX6_waits 0 = .ok (.aload_n 0, 1) := by decide +kernel
theorem dX6_waits_1 : decode cX6_waits 1 = .ok (.iload_n 1, 1) := by decide +kernel
theorem dX6_waits_2 : decode cX6_waits 2 = .ok (.invokevirtual 160, 3) := by decide +kernel
theorem dX6_waits_5 : decode cX6_waits 5 = .ok (.istore_n 2, 1) := by decide +kernel
theorem dX6_waits_6 : decode cX6_waits 6 = .ok (.iload_n 2, 1) := by decide +kernel
theorem dX6_waits_7 : decode cX6_waits 7 = .ok (.ifCond .eq 8, 3) := by decide +kernel
theorem dX6_waits_15 : decode cX6_waits 15 = .ok (.aload_n 0, 1) := by decide +kernel
theorem dX6_waits_16 : decode cX6_waits 16 = .ok (.getfield 25, 3) := by decide +kernel
theorem dX6_waits_19 : decode cX6_waits 19 = .ok (.iload_n 1, 1) := by decide +kernel
theorem dX6_waits_20 : decode cX6_waits 20 = .ok (.aaload, 1) := by decide +kernel
theorem dX6_waits_21 : decode cX6_waits 21 = .ok (.getfield 163, 3) := by decide +kernel
theorem dX6_waits_24 : decode cX6_waits 24 = .ok (.invokevirtual 301, 3) := by decide +kernel
theorem kX6_301 : zLk RX6 301 yX5_waiting := Or.inl (gt_of 615 (by decide +kernel) rfl)
theorem vX5_waiting : zMi yX5_waiting := ⟨gt_of 616 (by decide +kernel) rfl, gt_of 617 (by decide +kernel) rfl⟩
theorem dX6_waits_27 : decode cX6_waits 27 = .ok (.ireturn, 1) := by decide +kernel
theorem dX6_waits_10 : decode cX6_waits 10 = .ok (.iload_n 2, 1) := by decide +kernel
theorem dX6_waits_11 : decode cX6_waits 11 = .ok (.invokestatic 246, 3) := by decide +kernel
theorem kX6_246 : zLk RX6 246 yX6_putApart := Or.inl (gt_of 516 (by decide +kernel) rfl)
theorem sX6_putApart : Cond.static yX6_putApart ∈ gtbl := gt_of 517 (by decide +kernel) rfl
theorem dX6_waits_14 : decode cX6_waits 14 = .ok (.ireturn, 1) := by decide +kernel
set_option maxRecDepth 100000 in
theorem c_X6_waits (l : Launch) (D : va_G) (cy : Nat → Nat) (n : Nat) (ad : Nat → Nat) (F : Nat → va_E) (sz : Nat) (pic : Int32) (sc ps : Scn) (sh : Nat → Shf) (rd : Rdr) (dr : Stg) (fa : Tal) (mi : Crs) (hn : 56 ≤ n) (hX : RX ad cy F pic sc ps sh rd dr fa mi) (d : Int32) : Met l yX6_waits (zw yX6_waits cX6_waits 3 (some .int)) (rmL 2) (zPc D cy n ad F sz [.ref (ad 0), .int d]) (va_Qi (fun r F1 => r = (if sStR sh d = 0 then sWait (sh (iN d)).2.1 else -1000000000 + sStR sh d) ∧ F = F1) (zB D n ad) (zA n ad sz)) 0 0 (zA n ad sz) := by
  refine zmet (by decide +kernel) (Nat.le_of_ble_eq_true rfl) (fun p e s m args below meth c ls hC hsz hZ hA hr hlocks hnm hl => ?_)
  have hC : zC p m c cX6_waits 3 s args RX6 D cy := hC
  have hx := hC.1.1
  have hb := hC.1.2.1
  have hl : lv_has ls 3 [(0, .ref (ad 0)), (1, .int d)] := hl
  refine lv_aload_n hx hb dX6_waits_0 rfl (lv_at hl 0 rfl) ?_
  refine lv_iload_n hx hb dX6_waits_1 rfl (lv_at hl 1 rfl) ?_
  refine zgoi hZ hA (zrunV (As := [.int d]) (rest := []) (k := 0) hC hZ (c_X6_storyRefusal l D cy n ad F s.heap.size pic sc ps sh rd dr fa mi hn hX d) mX6_storyRefusal vX6_storyRefusal kX6_160 (zRj_of rfl) (zlt hn rfl) hX.1 rfl rfl hl.1 rfl (Nat.le_of_ble_eq_true rfl) dX6_waits_2 ⟨Nat.le_refl _, Nat.le_refl _⟩) (fun r_2 F_1 hp_3 H locs hZ => ?_)
  obtain ⟨rfl, rfl⟩ := hp_3
  refine lv_istore_n (lv' := [(2, .int (sStR sh d)), (0, .ref (ad 0)), (1, .int d)]) hx hb dX6_waits_5 rfl hl (by decide) rfl (fun ls hl => ?_)
  refine lv_iload_n hx hb dX6_waits_6 rfl (lv_at hl 0 rfl) ?_
  refine lv_if_eq (tgt := 15) hx hb dX6_waits_7 (by decide) (fun c_7 => ?_) (fun c_7 => ?_)
  · refine lv_aload_n hx hb dX6_waits_15 rfl (lv_at hl 1 rfl) ?_
    refine zget hC hZ fX6_25 (zlt hn rfl) hX.1 rfl dX6_waits_16 ?_
    refine lv_iload_n hx hb dX6_waits_19 rfl (lv_at hl 2 rfl) ?_
    have hs_4 := sStR_0 c_7
    refine zaald hC hZ (zlt hn rfl) hX.2.2.2.1 (C := RX4) rfl hs_4.1.1 hs_4.1.2 (by decide) rfl dX6_waits_20 ?_
    refine zget hC hZ fX6_163 (by have := hs_4.1.2; omega) (hX.2.2.2.2.1 (iN d) hs_4.1.2).1 rfl dX6_waits_21 ?_
    refine zgoi hZ hA (zrunV (As := []) (rest := []) (k := 26 + 3 * (iN d) + 1) hC hZ (c_X5_waiting l D cy n ad F H.size (26 + 3 * (iN d) + 1) (sh (iN d)).2.1 (by have := hs_4.1.2; omega) (hX.2.2.2.2.1 (iN d) hs_4.1.2).2.1) mX5_waiting vX5_waiting kX6_301 (zRj_of rfl) (by have := hs_4.1.2; omega) (hX.2.2.2.2.1 (iN d) hs_4.1.2).2.1 rfl rfl hl.1 rfl (Nat.le_of_ble_eq_true rfl) dX6_waits_24 ⟨Nat.le_refl _, Nat.le_refl _⟩) (fun r_6 F_5 hp_7 H locs hZ => ?_)
    obtain ⟨rfl, rfl⟩ := hp_7
    have hq0 : (sWait (sh (iN d)).2.1) = if sStR sh d = 0 then sWait (sh (iN d)).2.1 else -1000000000 + sStR sh d := (if_pos c_7).symm
    exact zireti hC hZ hr hlocks ⟨hq0, rfl⟩ dX6_waits_27
  · refine lv_iload_n hx hb dX6_waits_10 rfl (lv_at hl 0 rfl) ?_
    refine zgoi hZ hA (zrunS (As := [.int (sStR sh d)]) (rest := []) hC hZ (c_X6_putApart l D cy n ad F H.size (sStR sh d)) mX6_putApart sX6_putApart kX6_246 (zRj_of rfl) rfl hl.1 rfl (Nat.le_of_ble_eq_true rfl) dX6_waits_11 ⟨Nat.le_refl _, Nat.le_refl _⟩) (fun r_9 F_8 hp_10 H locs hZ => ?_)
    obtain ⟨rfl, rfl⟩ := hp_10
    have hq0 : (-1000000000 + (sStR sh d)) = if sStR sh d = 0 then sWait (sh (iN d)).2.1 else -1000000000 + sStR sh d := (if_neg c_7).symm
    exact zireti hC hZ hr hlocks ⟨hq0, rfl⟩ dX6_waits_14
end
section
section SHL
variable {ad cy : Nat → Nat} {k : Nat} {F F1 : Nat → va_E} {sf : Shf}
theorem RSh_clear (h : RSh ad cy k F sf) (hp : F1 = va_up F k (oShelf ad k 0 sf.2.2.1 sf.2.2.2.1)) : RSh ad cy k F1 (0, sf.2) ∧ ∀ q, ¬ (k ≤ q ∧ q < k + 3) → F1 q = F q :=
  ⟨⟨zeq hp, zne hp (by omega) h.2.1, zne hp (by omega) h.2.2⟩, fr_up hp (by omega) (by omega)⟩
theorem RSh_story {kd fg : Int32} (h : RSh ad cy k F sf) (hp : F1 = va_up (va_up F k (oShelf ad k 1 sf.2.2.1 sf.2.2.2.1)) (k + 1) (oTale (kd, fg))) : RSh ad cy k F1 (1, (kd, fg), sf.2.2) ∧ ∀ q, ¬ (k ≤ q ∧ q < k + 3) → F1 q = F q := by
  obtain ⟨Fm, hm⟩ : ∃ z, z = va_up F k (oShelf ad k 1 sf.2.2.1 sf.2.2.2.1) := ⟨_, rfl⟩
  rw [← hm] at hp
  exact ⟨⟨zne hp (by omega) (zeq hm), zeq hp, zne hp (by omega) (zne hm (by omega) h.2.2)⟩, fr_tr (fr_up hm (by omega) (by omega)) (fr_up hp (by omega) (by omega))⟩
theorem RSh_row {so z : Int32} (h : RSh ad cy k F sf) (hp : F1 = va_up (va_up F k (oShelf ad k 2 so z)) (k + 2) (oInts cy 100 (zfill sf.2.2.2.2 100))) : RSh ad cy k F1 (2, sf.2.1, so, z, zfill sf.2.2.2.2 100) ∧ ∀ q, ¬ (k ≤ q ∧ q < k + 3) → F1 q = F q := by
  obtain ⟨Fm, hm⟩ : ∃ z', z' = va_up F k (oShelf ad k 2 so z) := ⟨_, rfl⟩
  rw [← hm] at hp
  exact ⟨⟨zne hp (by omega) (zeq hm), zne hp (by omega) (zne hm (by omega) h.2.1), zeq hp⟩, fr_tr (fr_up hm (by omega) (by omega)) (fr_up hp (by omega) (by omega))⟩
theorem RSh_elem {el : Nat → Int32} (h : RSh ad cy k F sf) (hp : F1 = va_up F (k + 2) (oInts cy 100 el)) : RSh ad cy k F1 (sf.1, sf.2.1, sf.2.2.1, sf.2.2.2.1, el) ∧ ∀ q, ¬ (k ≤ q ∧ q < k + 3) → F1 q = F q :=
  ⟨⟨zne hp (by omega) h.1, zne hp (by omega) h.2.1, zeq hp⟩, fr_up hp (by omega) (by omega)⟩
end SHL
theorem iN_b {x : Int32} {N : Nat} (h0 : 0 ≤ x.toInt) (h1 : x.toInt ≤ (N : Int)) : x = nI (iN x) ∧ iN x ≤ N := by
  have := iN_e h0
  exact ⟨this.1, by omega⟩
/-- the greatest number that goes into both, tried from m downwards -/
def sGS (a b : Int32) : Nat → Int32
  | 0 => 1
  | m + 1 => if 1 ≤ m ∧ a - a / nI (m + 1) * nI (m + 1) = 0 ∧ b - b / nI (m + 1) * nI (m + 1) = 0 then nI (m + 1) else sGS a b m
theorem sGS_1 (a b : Int32) {x : Nat} (h : x ≤ 1) : sGS a b x = 1 := by
  rcases (show x = 0 ∨ x = 1 by omega) with rfl | rfl
  · rfl
  · rfl
theorem sGS_hit {a b : Int32} {x m : Nat} (hm : x = m + 1) (h : 2 ≤ x) (h1 : a - a / nI x * nI x = 0) (h2 : b - b / nI x * nI x = 0) : nI x = sGS a b x := by
  subst hm
  exact (if_pos ⟨by omega, h1, h2⟩).symm
theorem sGS_next {a b : Int32} {x m : Nat} (hm : x = m + 1) (h : ¬ (a - a / nI x * nI x = 0 ∧ b - b / nI x * nI x = 0)) : sGS a b m = sGS a b x := by
  subst hm
  exact (if_neg (fun q => h q.2)).symm
theorem nI_2le {x : Nat} (hx : x < 2 ^ 31) (h : ¬ nI x ≤ 1) : 2 ≤ x := by
  rcases Nat.lt_or_ge x 2 with q | q
  · exact absurd (nI_le (a := x) (b := 1) (by omega) (by omega)) h
  · exact q
theorem nI_le1 {x : Nat} (hx : x < 2 ^ 31) (h : nI x ≤ 1) : x ≤ 1 := by
  rcases Nat.lt_or_ge 1 x with q | q
  · exact absurd h (nI_ge (a := 1) (b := x) q hx)
  · exact q
def sRests (t : Tal) (b : Stg) (part : Int32) : Int32 :=
  if 0 < sLess t b then (if sKick t b = 0 then part else if 0 < sGS (sKick t b) (sLess t b) (iN (sKick t b)) then (if part = 0 then sKick t b / sGS (sKick t b) (sLess t b) (iN (sKick t b)) else sLess t b / sGS (sKick t b) (sLess t b) (iN (sKick t b))) else -4) else -4
theorem gKick {t : Tal} {b : Stg} (ht : gT t) (hb : gS b) : sKick t b = nI (iN (sKick t b)) ∧ iN (sKick t b) ≤ 40 := iN_b (sKick_b ht hb).1 (sKick_b ht hb).2
abbrev bKeep (d what k f : Int32) : Prop := (bSh d ∧ bIn what 0 1) ∧ (what = 0 ∨ (bIn k 0 7 ∧ bIn f 0 40))
def sKeepS (sh : Nat → Shf) (d what k f : Int32) : Nat → Shf := if bKeep d what k f then va_up sh (iN d) (if what = 0 then (0, (sh (iN d)).2) else (1, (k, f), (sh (iN d)).2.2)) else sh
abbrev bRow (d so q : Int32) : Prop := bSh d ∧ bIn so 0 2 ∧ q ≤ 100
def sRow (d so q : Int32) : Int32 := if bRow d so q then (if q < 0 then -14 else 0) else -1
def sRowS (sh : Nat → Shf) (d so q : Int32) : Nat → Shf := if bRow d so q ∧ ¬ q < 0 then va_up sh (iN d) (2, (sh (iN d)).2.1, so, q, zfill (sh (iN d)).2.2.2.2 100) else sh
def sPut (sh : Nat → Shf) (d i : Int32) : Int32 := if sRowR sh d = 0 then (if bPlace (sh (iN d)).2.2.2.1 i then 0 else -13) else sRowR sh d
def sPutS (sh : Nat → Shf) (d i v : Int32) : Nat → Shf := if sRowR sh d = 0 ∧ bPlace (sh (iN d)).2.2.2.1 i then va_up sh (iN d) ((sh (iN d)).1, (sh (iN d)).2.1, (sh (iN d)).2.2.1, (sh (iN d)).2.2.2.1, upd (sh (iN d)).2.2.2.2 (iN i) (sNar (sh (iN d)).2.2.1 v)) else sh
theorem sRowR_le (sh : Nat → Shf) (d : Int32) : sRowR sh d = 0 ∨ sRowR sh d = -1 ∨ sRowR sh d = -11 ∨ sRowR sh d = -12 := by
  unfold sRowR
  split
  · split
    · simp
    · split <;> simp
  · simp
theorem sStR_le (sh : Nat → Shf) (d : Int32) : sStR sh d = 0 ∨ sStR sh d = -1 ∨ sStR sh d = -11 ∨ sStR sh d = -12 := by
  unfold sStR
  split
  · split
    · simp
    · split <;> simp
  · simp
theorem sFirst_0 {x y : Int32} (hx : x = 0 ∨ x = -1 ∨ x = -11 ∨ x = -12) (hy : y = 0 ∨ y = -1 ∨ y = -11 ∨ y = -12) (h : sFirst x y = 0) : x = 0 ∧ y = 0 := by
  rcases hx with rfl | rfl | rfl | rfl <;> rcases hy with rfl | rfl | rfl | rfl <;> first | exact ⟨rfl, rfl⟩ | exact absurd h (by decide)
abbrev bCopy (sh : Nat → Shf) (d i e j q : Int32) : Prop := bStretch (sh (iN d)).2.2.2.1 i q ∧ bStretch (sh (iN e)).2.2.2.1 j q
def sCopy (sh : Nat → Shf) (d i e j q : Int32) : Int32 :=
  if sFirst (sRowR sh d) (sRowR sh e) = 0 then (if (sh (iN d)).2.2.1 = (sh (iN e)).2.2.1 then (if bCopy sh d i e j q then q else -13) else -12) else sFirst (sRowR sh d) (sRowR sh e)
def sCopyS (sh : Nat → Shf) (d i e j q : Int32) : Nat → Shf :=
  if sFirst (sRowR sh d) (sRowR sh e) = 0 ∧ (sh (iN d)).2.2.1 = (sh (iN e)).2.2.1 ∧ bCopy sh d i e j q then
    va_up sh (iN e) ((sh (iN e)).1, (sh (iN e)).2.1, (sh (iN e)).2.2.1, (sh (iN e)).2.2.2.1, va_cpy (sh (iN d)).2.2.2.2 (sh (iN e)).2.2.2.2 (iN i) (iN j) (iN q)) else sh
theorem bStretch_in {z i q : Int32} (h : bStretch z i q) (hz0 : 0 ≤ z.toInt) (hz : z.toInt ≤ 100) : ¬ i < 0 ∧ ¬ q < 0 ∧ i.toNatClampNeg + q.toNatClampNeg ≤ 100 := by
  obtain ⟨h1, h2, h3, h4⟩ := h
  have a1 := i32le.mp h1
  have a2 := i32le.mp h2
  have a3 := i32le.mp h3
  have a4 := i32le.mp h4
  have e0 : (0 : Int32).toInt = 0 := rfl
  have e1 : (z - q).toInt = z.toInt - q.toInt := zsub (by omega) (by omega)
  have e2 := (iN_e (i := i) (by omega)).2
  have e3 := (iN_e (i := q) (by omega)).2
  refine ⟨Int32.not_lt.mpr h3, Int32.not_lt.mpr h1, ?_⟩
  show iN i + iN q ≤ 100
  omega
section ZCP
variable {p : Program} {l : Launch} {e : Env} {R : Room} {s : State} {m : MethodId} {args : Array Value} {below : List Frame} {meth : Method} {c : Code} {H : Heap} {locs : List Loc} {cells slots : Nat} {Q : State → Prop}
variable {cc : ByteArray} {nL pc : Nat} {ls : Array Slot} {rest : List Value} {D : va_G} {cy : Nat → Nat} {A : Nat → Prop} {H0 : Heap} {own : String} {n : Nat} {ad : Nat → Nat} {F : Nat → va_E}
theorem zcopy (hC : zC p m c cc nL s args own D cy) (hZ : zH D A H0 n ad F H locs) {index : Nat} (hl1 : Cond.methodLink own index arraycopyName ∈ gtbl) (hl2 : Cond.native arraycopyName ∈ gtbl) (hl3 : Cond.static arraycopyName ∈ gtbl) (hl4 : Cond.initialized "java/lang/System" ∈ gtbl) (hsize : ls.size = nL)
    {k0 k1 : Nat} (hk0 : k0 < n) (hk1 : k1 < n) {f g : Nat → Int32} (hF0 : F k0 = oInts cy 100 f) (hF1 : F k1 = oInts cy 100 g) {sp dp q : Int32} (h1 : ¬ sp < 0) (h2 : ¬ dp < 0) (h3 : ¬ q < 0) (h4 : sp.toNatClampNeg + q.toNatClampNeg ≤ 100) (h5 : dp.toNatClampNeg + q.toNatClampNeg ≤ 100)
    (hR : zRj R 0) (hR2 : (rest.map fun v => v.category).sum + (nativeFrameWords "java/lang/System" "arraycopy" 5 + 11) ≤ R.locals) (hd : decode cc pc = .ok (.invokestatic index, 3))
    (kk : ∀ (F1 : Nat → va_E), F1 = va_up F k1 (oInts cy 100 (va_cpy f g (iN sp) (iN dp) (iN q))) → ∀ (H1 : Heap) (locs1 : List Loc), zH D A H0 n ad F1 H1 locs1 → W p l e R s m args below meth c H1 locs1 cells slots Q (F0 m (pc + 3) ls rest)) : W p l e R s m args below meth c H locs cells slots Q (F0 m pc ls (.int q :: .int dp :: .ref (ad k1) :: .int sp :: .ref (ad k0) :: rest)) := by
  obtain ⟨⟨hx0, hb, hml, hown, hts⟩, hK, hNN⟩ := hC
  have he0 : (zW n ad F)[k0]? = some (ad k0, oInts cy 100 f) := by rw [zW_get hk0, hF0]
  have he1 : (zW n ad F)[k1]? = some (ad k1, oInts cy 100 g) := by rw [zW_get hk1, hF1]
  refine va_copyi hx0 hb (by rw [hml, hsize]) hown (hts _ hl1) (hts _ hl2) (hts _ hl3) (hts _ hl4) hK hZ.1 hZ.2.1 hZ.2.2 k0 k1 0 0 he0 he1 rfl rfl rfl h1 h2 h3 h4 h5 (fun _ _ => rfl) hR.1 hR2 hd (fun H1 locs1 a1 a2 a3 => ?_)
  rw [zW_set hk1] at a1 a2
  exact kk _ rfl H1 locs1 ⟨a1, a2, a3⟩
end ZCP
end
section
theorem mX6_greatestShared : zMd yX6_greatestShared cX6_greatestShared 3 (some .int) 2 := ⟨by decide +kernel, gt_of 442 (by decide +kernel) rfl, gt_of 44 (by decide +kernel) rfl, by decide⟩
theorem dX6_greatestShared_0 : decode cX6_greatestShared 0 = .ok (.iload_n 0, 1) := by decide +kernel
theorem dX6_greatestShared_1 : decode cX6_greatestShared 1 = .ok (.istore_n 2, 1) := by decide +kernel
theorem dX6_greatestShared_2 : decode cX6_greatestShared 2 = .ok (.iload_n 2, 1) := by decide +kernel
theorem dX6_greatestShared_3 : decode cX6_greatestShared 3 = .ok (.iconst 1, 1) := by decide +kernel
theorem dX6_greatestShared_4 : decode cX6_greatestShared 4 = .ok (.if_icmp .le 23, 3) := by decide +kernel
theorem dX6_greatestShared_27 : decode cX6_greatestShared 27 = .ok (.iconst 1, 1) := by decide +kernel
theorem dX6_greatestShared_28 : decode cX6_greatestShared 28 = .ok (.ireturn, 1) := by decide +kernel
theorem dX6_greatestShared_7 : decode cX6_greatestShared 7 = .ok (.iload_n 0, 1) := by decide +kernel
theorem dX6_greatestShared_8 : decode cX6_greatestShared 8 = .ok (.iload_n 2, 1) := by decide +kernel
theorem dX6_greatestShared_9 : decode cX6_greatestShared 9 = .ok (.irem, 1) := by decide +kernel
theorem dX6_greatestShared_10 : decode cX6_greatestShared 10 = .ok (.ifCond .ne 11, 3) := by decide +kernel
theorem dX6_greatestShared_21 : decode cX6_greatestShared 21 = .ok (.iinc 2 (-1), 3) := by decide +kernel
theorem dX6_greatestShared_24 : decode cX6_greatestShared 24 = .ok (.goto (-22), 3) := by decide +kernel
theorem dX6_greatestShared_13 : decode cX6_greatestShared 13 = .ok (.iload_n 1, 1) := by decide +kernel
theorem dX6_greatestShared_14 : decode cX6_greatestShared 14 = .ok (.iload_n 2, 1) := by decide +kernel
theorem dX6_greatestShared_15 : decode cX6_greatestShared 15 = .ok (.irem, 1) := by decide +kernel
theorem dX6_greatestShared_16 : decode cX6_greatestShared 16 = .ok (.ifCond .ne 5, 3) := by decide +kernel
theorem dX6_greatestShared_19 : decode cX6_greatestShared 19 = .ok (.iload_n 2, 1) := by decide +kernel
theorem dX6_greatestShared_20 : decode cX6_greatestShared 20 = .ok (.ireturn, 1) := by decide +kernel
set_option maxRecDepth 100000 in
theorem c_X6_greatestShared (l : Launch) (D : va_G) (cy : Nat → Nat) (n : Nat) (ad : Nat → Nat) (F : Nat → va_E) (sz : Nat) (ka : Nat) (hka : ka ≤ 1000) (b : Int32) : Met l yX6_greatestShared (zw yX6_greatestShared cX6_greatestShared 3 (some .int)) (rmL 0) (zPc D cy n ad F sz [.int (nI ka), .int b]) (va_Qi (fun r F1 => r = sGS (nI ka) b ka ∧ F = F1) (zB D n ad) (zA n ad sz)) 0 0 (zA n ad sz) := by
  refine zmet (by decide +kernel) (Nat.le_of_ble_eq_true rfl) (fun p e s m args below meth c ls hC hsz hZ hA hr hlocks hnm hl => ?_)
  have hC : zC p m c cX6_greatestShared 3 s args RX6 D cy := hC
  have hx := hC.1.1
  have hb := hC.1.2.1
  have hl : lv_has ls 3 [(0, .int (nI ka)), (1, .int b)] := hl
  refine lv_iload_n hx hb dX6_greatestShared_0 rfl (lv_at hl 0 rfl) ?_
  refine lv_istore_n (lv' := [(2, .int (nI ka)), (0, .int (nI ka)), (1, .int b)]) hx hb dX6_greatestShared_1 rfl hl (by decide) rfl (fun ls hl => ?_)
  refine zlp (X := Nat) 2 (fun _ => []) (fun x ls F1 => x ≤ ka ∧ lv_has ls 3 [(2, .int (nI x)), (0, .int (nI ka)), (1, .int b)] ∧ sGS (nI ka) b x = sGS (nI ka) b ka ∧ F = F1) (fun x => x) ?_ ka hZ ⟨by omega, hl, rfl, rfl⟩
  intro x ih ls F3 H locs hZ hφ
  obtain ⟨hxk, hl, hG, rfl⟩ := hφ
  refine lv_iload_n hx hb dX6_greatestShared_2 rfl (lv_at hl 0 rfl) ?_
  refine lv_iconst (v := 1) hx hb dX6_greatestShared_3 (by decide) ?_
  refine lv_icmp_le (tgt := 27) hx hb dX6_greatestShared_4 (by decide) (fun c_4 => ?_) (fun c_4 => ?_)
  · refine lv_iconst (v := 1) hx hb dX6_greatestShared_27 (by decide) ?_
    have hq : (1 : Int32) = sGS (nI ka) b ka := by rw [← hG, sGS_1 _ _ (nI_le1 (by omega) c_4)]
    exact zireti hC hZ hr hlocks ⟨hq, rfl⟩ dX6_greatestShared_28
  · have hx2 := nI_2le (by omega) c_4
    obtain ⟨mm, hmm⟩ : ∃ mm, x = mm + 1 := ⟨x - 1, by omega⟩
    refine lv_iload_n hx hb dX6_greatestShared_7 rfl (lv_at hl 1 rfl) ?_
    refine lv_iload_n hx hb dX6_greatestShared_8 rfl (lv_at hl 0 rfl) ?_
    refine lv_irem hx hb dX6_greatestShared_9 (nI_ne0 (by omega) (by omega)) ?_
    refine lv_if_ne (tgt := 21) hx hb dX6_greatestShared_10 (by decide) (fun c_10 => ?_) (fun c_10 => ?_)
    · refine lv_iinc (v := nI mm) (lv' := [(2, .int (nI mm)), (0, .int (nI ka)), (1, .int b)]) hx hb dX6_greatestShared_21 hl (k := 0) rfl (by rw [hmm]; exact pk_m1 mm) (by decide) rfl (fun ls hl => ?_)
      refine lv_goto (tgt := 2) hx hb dX6_greatestShared_24 (by decide) ?_
      exact ih mm ls _ H locs (by omega) hZ ⟨by omega, hl, (sGS_next hmm (fun h => c_10 h.1)).trans hG, rfl⟩
    · refine lv_iload_n hx hb dX6_greatestShared_13 rfl (lv_at hl 2 rfl) ?_
      refine lv_iload_n hx hb dX6_greatestShared_14 rfl (lv_at hl 0 rfl) ?_
      refine lv_irem hx hb dX6_greatestShared_15 (nI_ne0 (by omega) (by omega)) ?_
      refine lv_if_ne (tgt := 21) hx hb dX6_greatestShared_16 (by decide) (fun c_16 => ?_) (fun c_16 => ?_)
      · refine lv_iinc (v := nI mm) (lv' := [(2, .int (nI mm)), (0, .int (nI ka)), (1, .int b)]) hx hb dX6_greatestShared_21 hl (k := 0) rfl (by rw [hmm]; exact pk_m1 mm) (by decide) rfl (fun ls hl => ?_)
        refine lv_goto (tgt := 2) hx hb dX6_greatestShared_24 (by decide) ?_
        exact ih mm ls _ H locs (by omega) hZ ⟨by omega, hl, (sGS_next hmm (fun h => c_16 h.2)).trans hG, rfl⟩
      · refine lv_iload_n hx hb dX6_greatestShared_19 rfl (lv_at hl 0 rfl) ?_
        have hq : nI x = sGS (nI ka) b ka := (sGS_hit hmm hx2 c_10 c_16).trans hG
        exact zireti hC hZ hr hlocks ⟨hq, rfl⟩ dX6_greatestShared_20

theorem mX6_rests : zMd yX6_rests cX6_rests 7 (some .int) 2 := ⟨by decide +kernel, gt_of 438 (by decide +kernel) rfl, gt_of 44 (by decide +kernel) rfl, by decide⟩
theorem dX6_rests_0 : decode cX6_rests 0 = .ok (.iload_n 2, 1) := by decide +kernel
theorem dX6_rests_1 : decode cX6_rests 1 = .ok (.iconst 0, 1) := by decide +kernel
theorem dX6_rests_2 : decode cX6_rests 2 = .ok (.iconst 1, 1) := by decide +kernel
theorem dX6_rests_3 : decode cX6_rests 3 = .ok (.invokestatic 115, 3) := by decide +kernel
theorem dX6_rests_6 : decode cX6_rests 6 = .ok (.ifCond .eq 11, 3) := by decide +kernel
theorem dX6_rests_9 : decode cX6_rests 9 = .ok (.aload_n 0, 1) := by decide +kernel
theorem dX6_rests_10 : decode cX6_rests 10 = .ok (.iload_n 1, 1) := by decide +kernel
theorem dX6_rests_11 : decode cX6_rests 11 = .ok (.invokevirtual 160, 3) := by decide +kernel
theorem dX6_rests_14 : decode cX6_rests 14 = .ok (.goto 4, 3) := by decide +kernel
theorem dX6_rests_18 : decode cX6_rests 18 = .ok (.istore_n 3, 1) := by decide +kernel
theorem dX6_rests_19 : decode cX6_rests 19 = .ok (.iload_n 3, 1) := by decide +kernel
theorem dX6_rests_20 : decode cX6_rests 20 = .ok (.ifCond .eq 5, 3) := by decide +kernel
theorem dX6_rests_25 : decode cX6_rests 25 = .ok (.aload_n 0, 1) := by decide +kernel
theorem dX6_rests_26 : decode cX6_rests 26 = .ok (.getfield 25, 3) := by decide +kernel
theorem dX6_rests_29 : decode cX6_rests 29 = .ok (.iload_n 1, 1) := by decide +kernel
theorem dX6_rests_30 : decode cX6_rests 30 = .ok (.aaload, 1) := by decide +kernel
theorem dX6_rests_31 : decode cX6_rests 31 = .ok (.getfield 163, 3) := by decide +kernel
theorem dX6_rests_34 : decode cX6_rests 34 = .ok (.aload_n 0, 1) := by decide +kernel
theorem dX6_rests_35 : decode cX6_rests 35 = .ok (.getfield 10, 3) := by decide +kernel
theorem dX6_rests_38 : decode cX6_rests 38 = .ok (.getfield 97, 3) := by decide +kernel
theorem dX6_rests_41 : decode cX6_rests 41 = .ok (.invokevirtual 166, 3) := by decide +kernel
theorem dX6_rests_44 : decode cX6_rests 44 = .ok (.istore 4, 2) := by decide +kernel
theorem dX6_rests_46 : decode cX6_rests 46 = .ok (.aload_n 0, 1) := by decide +kernel
theorem dX6_rests_47 : decode cX6_rests 47 = .ok (.getfield 25, 3) := by decide +kernel
theorem dX6_rests_50 : decode cX6_rests 50 = .ok (.iload_n 1, 1) := by decide +kernel
theorem dX6_rests_51 : decode cX6_rests 51 = .ok (.aaload, 1) := by decide +kernel
theorem dX6_rests_52 : decode cX6_rests 52 = .ok (.getfield 163, 3) := by decide +kernel
theorem dX6_rests_55 : decode cX6_rests 55 = .ok (.aload_n 0, 1) := by decide +kernel
theorem dX6_rests_56 : decode cX6_rests 56 = .ok (.getfield 10, 3) := by decide +kernel
theorem dX6_rests_59 : decode cX6_rests 59 = .ok (.getfield 97, 3) := by decide +kernel
theorem dX6_rests_62 : decode cX6_rests 62 = .ok (.invokevirtual 199, 3) := by decide +kernel
theorem kX6_199 : zLk RX6 199 yX5_less := Or.inl (gt_of 439 (by decide +kernel) rfl)
theorem dX6_rests_65 : decode cX6_rests 65 = .ok (.istore 5, 2) := by decide +kernel
theorem dX6_rests_67 : decode cX6_rests 67 = .ok (.iload 5, 2) := by decide +kernel
theorem dX6_rests_69 : decode cX6_rests 69 = .ok (.ifCond .gt 6, 3) := by decide +kernel
theorem dX6_rests_75 : decode cX6_rests 75 = .ok (.iload 4, 2) := by decide +kernel
theorem dX6_rests_77 : decode cX6_rests 77 = .ok (.ifCond .ne 5, 3) := by decide +kernel
theorem dX6_rests_82 : decode cX6_rests 82 = .ok (.iload 4, 2) := by decide +kernel
theorem dX6_rests_84 : decode cX6_rests 84 = .ok (.iload 5, 2) := by decide +kernel
theorem dX6_rests_86 : decode cX6_rests 86 = .ok (.invokestatic 202, 3) := by decide +kernel
theorem kX6_202 : zLk RX6 202 yX6_greatestShared := Or.inl (gt_of 440 (by decide +kernel) rfl)
theorem sX6_greatestShared : Cond.static yX6_greatestShared ∈ gtbl := gt_of 441 (by decide +kernel) rfl
theorem dX6_rests_89 : decode cX6_rests 89 = .ok (.istore 6, 2) := by decide +kernel
theorem dX6_rests_91 : decode cX6_rests 91 = .ok (.iload 6, 2) := by decide +kernel
theorem dX6_rests_93 : decode cX6_rests 93 = .ok (.ifCond .gt 6, 3) := by decide +kernel
theorem dX6_rests_99 : decode cX6_rests 99 = .ok (.iload_n 2, 1) := by decide +kernel
theorem dX6_rests_100 : decode cX6_rests 100 = .ok (.ifCond .ne 8, 3) := by decide +kernel
theorem dX6_rests_108 : decode cX6_rests 108 = .ok (.iload 5, 2) := by decide +kernel
theorem dX6_rests_110 : decode cX6_rests 110 = .ok (.iload 6, 2) := by decide +kernel
theorem dX6_rests_112 : decode cX6_rests 112 = .ok (.idiv, 1) := by decide +kernel
theorem dX6_rests_113 : decode cX6_rests 113 = .ok (.ireturn, 1) := by decide +kernel
theorem dX6_rests_103 : decode cX6_rests 103 = .ok (.iload 4, 2) := by decide +kernel
theorem dX6_rests_105 : decode cX6_rests 105 = .ok (.goto 5, 3) := by decide +kernel
theorem dX6_rests_96 : decode cX6_rests 96 = .ok (.bipush (-4), 2) := by decide +kernel
theorem dX6_rests_98 : decode cX6_rests 98 = .ok (.ireturn, 1) := by decide +kernel
theorem dX6_rests_80 : decode cX6_rests 80 = .ok (.iload_n 2, 1) := by decide +kernel
theorem dX6_rests_81 : decode cX6_rests 81 = .ok (.ireturn, 1) := by decide +kernel
theorem dX6_rests_72 : decode cX6_rests 72 = .ok (.bipush (-4), 2) := by decide +kernel
theorem dX6_rests_74 : decode cX6_rests 74 = .ok (.ireturn, 1) := by decide +kernel
theorem dX6_rests_23 : decode cX6_rests 23 = .ok (.iload_n 3, 1) := by decide +kernel
theorem dX6_rests_24 : decode cX6_rests 24 = .ok (.ireturn, 1) := by decide +kernel
theorem dX6_rests_17 : decode cX6_rests 17 = .ok (.iconst (-1), 1) := by decide +kernel
set_option maxRecDepth 100000 in
theorem c_X6_rests (l : Launch) (D : va_G) (cy : Nat → Nat) (n : Nat) (ad : Nat → Nat) (F : Nat → va_E) (sz : Nat) (pic : Int32) (sc ps : Scn) (sh : Nat → Shf) (rd : Rdr) (dr : Stg) (fa : Tal) (mi : Crs) (hn : 56 ≤ n) (hX : RX ad cy F pic sc ps sh rd dr fa mi) (hG : gX sc ps sh) (d part : Int32) : Met l yX6_rests (zw yX6_rests cX6_rests 7 (some .int)) (rmL 3) (zPc D cy n ad F sz [.ref (ad 0), .int d, .int part]) (va_Qi (fun r F1 => r = zr (bIn part 0 1) (sStR sh d) (sRests (sh (iN d)).2.1 sc.1 part) ∧ F = F1) (zB D n ad) (zA n ad sz)) 0 0 (zA n ad sz) := by
  refine zmet (by decide +kernel) (Nat.le_of_ble_eq_true rfl) (fun p e s m args below meth c ls hC hsz hZ hA hr hlocks hnm hl => ?_)
  have hC : zC p m c cX6_rests 7 s args RX6 D cy := hC
  have hx := hC.1.1
  have hb := hC.1.2.1
  have hl : lv_has ls 7 [(0, .ref (ad 0)), (1, .int d), (2, .int part)] := hl
  refine lv_iload_n hx hb dX6_rests_0 rfl (lv_at hl 2 rfl) ?_
  refine lv_iconst (v := 0) hx hb dX6_rests_1 (by decide) ?_
  refine lv_iconst (v := 1) hx hb dX6_rests_2 (by decide) ?_
  refine zgoi hZ hA (zrunS (As := [.int part, .int 0, .int 1]) (rest := []) hC hZ (c_X6_isWithin l D cy n ad F s.heap.size part 0 1) mX6_isWithin sX6_isWithin kX6_115 (zRj_of rfl) rfl hl.1 rfl (Nat.le_of_ble_eq_true rfl) dX6_rests_3 ⟨Nat.le_refl _, Nat.le_refl _⟩) (fun r_2 F_1 hp_3 H locs hZ => ?_)
  obtain ⟨hp_3, rfl⟩ := hp_3
  by_cases b_4 : bIn part 0 1
  · rw [if_pos b_4] at hp_3
    subst hp_3
    refine lv_if_eq (tgt := 17) hx hb dX6_rests_6 (by decide) (fun h => absurd h (by decide)) (fun _ => ?_)
    refine lv_aload_n hx hb dX6_rests_9 rfl (lv_at hl 0 rfl) ?_
    refine lv_iload_n hx hb dX6_rests_10 rfl (lv_at hl 1 rfl) ?_
    refine zgoi hZ hA (zrunV (As := [.int d]) (rest := []) (k := 0) hC hZ (c_X6_storyRefusal l D cy n ad F H.size pic sc ps sh rd dr fa mi hn hX d) mX6_storyRefusal vX6_storyRefusal kX6_160 (zRj_of rfl) (zlt hn rfl) hX.1 rfl rfl hl.1 rfl (Nat.le_of_ble_eq_true rfl) dX6_rests_11 ⟨Nat.le_refl _, Nat.le_refl _⟩) (fun r_6 F_5 hp_7 H locs hZ => ?_)
    obtain ⟨rfl, rfl⟩ := hp_7
    refine lv_goto (tgt := 18) hx hb dX6_rests_14 (by decide) ?_
    refine lv_istore_n (lv' := [(3, .int (sStR sh d)), (0, .ref (ad 0)), (1, .int d), (2, .int part)]) hx hb dX6_rests_18 rfl hl (by decide) rfl (fun ls hl => ?_)
    refine lv_iload_n hx hb dX6_rests_19 rfl (lv_at hl 0 rfl) ?_
    refine lv_if_eq (tgt := 25) hx hb dX6_rests_20 (by decide) (fun c_20 => ?_) (fun c_20 => ?_)
    · refine lv_aload_n hx hb dX6_rests_25 rfl (lv_at hl 1 rfl) ?_
      refine zget hC hZ fX6_25 (zlt hn rfl) hX.1 rfl dX6_rests_26 ?_
      refine lv_iload_n hx hb dX6_rests_29 rfl (lv_at hl 2 rfl) ?_
      have hs_8 := sStR_0 c_20
      refine zaald hC hZ (zlt hn rfl) hX.2.2.2.1 (C := RX4) rfl hs_8.1.1 hs_8.1.2 (by decide) rfl dX6_rests_30 ?_
      refine zget hC hZ fX6_163 (by have := hs_8.1.2; omega) (hX.2.2.2.2.1 (iN d) hs_8.1.2).1 rfl dX6_rests_31 ?_
      refine lv_aload_n hx hb dX6_rests_34 rfl (lv_at hl 1 rfl) ?_
      refine zget hC hZ fX6_10 (zlt hn rfl) hX.1 rfl dX6_rests_35 ?_
      refine zget hC hZ fX6_97 (zlt hn rfl) hX.2.1.1 rfl dX6_rests_38 ?_
      refine zgoi hZ hA (zrunV (As := [.ref (ad 2)]) (rest := []) (k := 26 + 3 * (iN d) + 1) hC hZ (c_X5_kick l D cy n ad F H.size (26 + 3 * (iN d) + 1) (sh (iN d)).2.1 (by have := hs_8.1.2; omega) (hX.2.2.2.2.1 (iN d) hs_8.1.2).2.1 2 sc.1 (zlt hn rfl) hX.2.1.2.1) mX5_kick vX5_kick kX6_166 (zRj_of rfl) (by have := hs_8.1.2; omega) (hX.2.2.2.2.1 (iN d) hs_8.1.2).2.1 rfl rfl hl.1 rfl (Nat.le_of_ble_eq_true rfl) dX6_rests_41 ⟨Nat.le_refl _, Nat.le_refl _⟩) (fun r_10 F_9 hp_11 H locs hZ => ?_)
      obtain ⟨rfl, rfl⟩ := hp_11
      refine lv_istore (lv' := [(4, .int (sKick (sh (iN d)).2.1 sc.1)), (3, .int (sStR sh d)), (0, .ref (ad 0)), (1, .int d), (2, .int part)]) hx hb dX6_rests_44 hl (by decide) rfl (fun ls hl => ?_)
      refine lv_aload_n hx hb dX6_rests_46 rfl (lv_at hl 2 rfl) ?_
      refine zget hC hZ fX6_25 (zlt hn rfl) hX.1 rfl dX6_rests_47 ?_
      refine lv_iload_n hx hb dX6_rests_50 rfl (lv_at hl 3 rfl) ?_
      refine zaald hC hZ (zlt hn rfl) hX.2.2.2.1 (C := RX4) rfl hs_8.1.1 hs_8.1.2 (by decide) rfl dX6_rests_51 ?_
      refine zget hC hZ fX6_163 (by have := hs_8.1.2; omega) (hX.2.2.2.2.1 (iN d) hs_8.1.2).1 rfl dX6_rests_52 ?_
      refine lv_aload_n hx hb dX6_rests_55 rfl (lv_at hl 2 rfl) ?_
      refine zget hC hZ fX6_10 (zlt hn rfl) hX.1 rfl dX6_rests_56 ?_
      refine zget hC hZ fX6_97 (zlt hn rfl) hX.2.1.1 rfl dX6_rests_59 ?_
      refine zgoi hZ hA (zrunV (As := [.ref (ad 2)]) (rest := []) (k := 26 + 3 * (iN d) + 1) hC hZ (c_X5_less l D cy n ad F H.size (26 + 3 * (iN d) + 1) (sh (iN d)).2.1 (by have := hs_8.1.2; omega) (hX.2.2.2.2.1 (iN d) hs_8.1.2).2.1 2 sc.1 (zlt hn rfl) hX.2.1.2.1) mX5_less vX5_less kX6_199 (zRj_of rfl) (by have := hs_8.1.2; omega) (hX.2.2.2.2.1 (iN d) hs_8.1.2).2.1 rfl rfl hl.1 rfl (Nat.le_of_ble_eq_true rfl) dX6_rests_62 ⟨Nat.le_refl _, Nat.le_refl _⟩) (fun r_13 F_12 hp_14 H locs hZ => ?_)
      obtain ⟨rfl, rfl⟩ := hp_14
      refine lv_istore (lv' := [(5, .int (sLess (sh (iN d)).2.1 sc.1)), (4, .int (sKick (sh (iN d)).2.1 sc.1)), (3, .int (sStR sh d)), (0, .ref (ad 0)), (1, .int d), (2, .int part)]) hx hb dX6_rests_65 hl (by decide) rfl (fun ls hl => ?_)
      refine lv_iload hx hb dX6_rests_67 (lv_at hl 0 rfl) ?_
      refine lv_if_gt (tgt := 75) hx hb dX6_rests_69 (by decide) (fun c_69 => ?_) (fun c_69 => ?_)
      · refine lv_iload hx hb dX6_rests_75 (lv_at hl 1 rfl) ?_
        refine lv_if_ne (tgt := 82) hx hb dX6_rests_77 (by decide) (fun c_77 => ?_) (fun c_77 => ?_)
        · have hgk := gKick ((hG.2.2 _ hs_8.1.2).1 hs_8.2) hG.1.1
          refine lv_iload hx hb dX6_rests_82 (lv_at hl 1 rfl) ?_
          refine lv_iload hx hb dX6_rests_84 (lv_at hl 0 rfl) ?_
          refine W.eq (g2 := F0 m 86 ls [.int (sLess (sh (iN d)).2.1 sc.1), .int (nI (iN (sKick (sh (iN d)).2.1 sc.1)))]) (by rw [← hgk.1]) ?_
          refine zgoi hZ hA (zrunS (As := [.int (nI (iN (sKick (sh (iN d)).2.1 sc.1))), .int (sLess (sh (iN d)).2.1 sc.1)]) (rest := []) hC hZ (c_X6_greatestShared l D cy n ad F H.size (iN (sKick (sh (iN d)).2.1 sc.1)) (Nat.le_trans hgk.2 (by decide)) (sLess (sh (iN d)).2.1 sc.1)) mX6_greatestShared sX6_greatestShared kX6_202 (zRj_of rfl) rfl hl.1 rfl (Nat.le_of_ble_eq_true rfl) dX6_rests_86 ⟨Nat.le_refl _, Nat.le_refl _⟩) (fun r_16 F_15 hp_17 H locs hZ => ?_)
          rw [← hgk.1] at hp_17
          obtain ⟨rfl, rfl⟩ := hp_17
          refine lv_istore (lv' := [(6, .int (sGS (sKick (sh (iN d)).2.1 sc.1) (sLess (sh (iN d)).2.1 sc.1) (iN (sKick (sh (iN d)).2.1 sc.1)))), (5, .int (sLess (sh (iN d)).2.1 sc.1)), (4, .int (sKick (sh (iN d)).2.1 sc.1)), (3, .int (sStR sh d)), (0, .ref (ad 0)), (1, .int d), (2, .int part)]) hx hb dX6_rests_89 hl (by decide) rfl (fun ls hl => ?_)
          refine lv_iload hx hb dX6_rests_91 (lv_at hl 0 rfl) ?_
          refine lv_if_gt (tgt := 99) hx hb dX6_rests_93 (by decide) (fun c_93 => ?_) (fun c_93 => ?_)
          · refine lv_iload_n hx hb dX6_rests_99 rfl (lv_at hl 6 rfl) ?_
            refine lv_if_ne (tgt := 108) hx hb dX6_rests_100 (by decide) (fun c_100 => ?_) (fun c_100 => ?_)
            · refine lv_iload hx hb dX6_rests_108 (lv_at hl 1 rfl) ?_
              refine lv_iload hx hb dX6_rests_110 (lv_at hl 0 rfl) ?_
              refine lv_idiv hx hb dX6_rests_112 (fun h => absurd c_93 (by rw [h]; decide)) ?_
              have hv_19 : ((sLess (sh (iN d)).2.1 sc.1) / (sGS (sKick (sh (iN d)).2.1 sc.1) (sLess (sh (iN d)).2.1 sc.1) (iN (sKick (sh (iN d)).2.1 sc.1)))) = sRests (sh (iN d)).2.1 sc.1 part := by simp [sRests, b_4, c_20, c_69, Int32.not_le.mpr c_69, c_77, c_93, Int32.not_le.mpr c_93, c_100]
              have hq_18 : ((sLess (sh (iN d)).2.1 sc.1) / (sGS (sKick (sh (iN d)).2.1 sc.1) (sLess (sh (iN d)).2.1 sc.1) (iN (sKick (sh (iN d)).2.1 sc.1)))) = zr (bIn part 0 1) (sStR sh d) (sRests (sh (iN d)).2.1 sc.1 part) := hv_19.trans (zr_ok b_4 c_20).symm
              exact zireti hC hZ hr hlocks ⟨hq_18, rfl⟩ dX6_rests_113
            · refine lv_iload hx hb dX6_rests_103 (lv_at hl 2 rfl) ?_
              refine lv_goto (tgt := 110) hx hb dX6_rests_105 (by decide) ?_
              refine lv_iload hx hb dX6_rests_110 (lv_at hl 0 rfl) ?_
              refine lv_idiv hx hb dX6_rests_112 (fun h => absurd c_93 (by rw [h]; decide)) ?_
              have hv_21 : ((sKick (sh (iN d)).2.1 sc.1) / (sGS (sKick (sh (iN d)).2.1 sc.1) (sLess (sh (iN d)).2.1 sc.1) (iN (sKick (sh (iN d)).2.1 sc.1)))) = sRests (sh (iN d)).2.1 sc.1 part := by simp [sRests, b_4, c_20, c_69, Int32.not_le.mpr c_69, c_77, c_93, Int32.not_le.mpr c_93, c_100]
              have hq_20 : ((sKick (sh (iN d)).2.1 sc.1) / (sGS (sKick (sh (iN d)).2.1 sc.1) (sLess (sh (iN d)).2.1 sc.1) (iN (sKick (sh (iN d)).2.1 sc.1)))) = zr (bIn part 0 1) (sStR sh d) (sRests (sh (iN d)).2.1 sc.1 part) := hv_21.trans (zr_ok b_4 c_20).symm
              exact zireti hC hZ hr hlocks ⟨hq_20, rfl⟩ dX6_rests_113
          · refine lv_bipush (v := (-4)) hx hb dX6_rests_96 (by decide) ?_
            have hv_23 : (-4 : Int32) = sRests (sh (iN d)).2.1 sc.1 part := by simp [sRests, b_4, c_20, c_69, Int32.not_le.mpr c_69, c_77, c_93, Int32.not_lt.mp c_93]
            have hq_22 : (-4 : Int32) = zr (bIn part 0 1) (sStR sh d) (sRests (sh (iN d)).2.1 sc.1 part) := hv_23.trans (zr_ok b_4 c_20).symm
            exact zireti hC hZ hr hlocks ⟨hq_22, rfl⟩ dX6_rests_98
        · refine lv_iload_n hx hb dX6_rests_80 rfl (lv_at hl 5 rfl) ?_
          have hv_25 : part = sRests (sh (iN d)).2.1 sc.1 part := by simp [sRests, b_4, c_20, c_69, Int32.not_le.mpr c_69, c_77]
          have hq_24 : part = zr (bIn part 0 1) (sStR sh d) (sRests (sh (iN d)).2.1 sc.1 part) := hv_25.trans (zr_ok b_4 c_20).symm
          exact zireti hC hZ hr hlocks ⟨hq_24, rfl⟩ dX6_rests_81
      · refine lv_bipush (v := (-4)) hx hb dX6_rests_72 (by decide) ?_
        have hv_27 : (-4 : Int32) = sRests (sh (iN d)).2.1 sc.1 part := by simp [sRests, b_4, c_20, c_69, Int32.not_lt.mp c_69]
        have hq_26 : (-4 : Int32) = zr (bIn part 0 1) (sStR sh d) (sRests (sh (iN d)).2.1 sc.1 part) := hv_27.trans (zr_ok b_4 c_20).symm
        exact zireti hC hZ hr hlocks ⟨hq_26, rfl⟩ dX6_rests_74
    · refine lv_iload_n hx hb dX6_rests_23 rfl (lv_at hl 0 rfl) ?_
      have hq_28 : (sStR sh d) = zr (bIn part 0 1) (sStR sh d) (sRests (sh (iN d)).2.1 sc.1 part) := (zr_rf b_4 c_20).symm
      exact zireti hC hZ hr hlocks ⟨hq_28, rfl⟩ dX6_rests_24
  · rw [if_neg b_4] at hp_3
    subst hp_3
    refine lv_if_eq (tgt := 17) hx hb dX6_rests_6 (by decide) (fun _ => ?_) (fun h => absurd (by decide) h)
    refine lv_iconst (v := (-1)) hx hb dX6_rests_17 (by decide) ?_
    refine lv_istore_n (lv' := [(3, .int (-1)), (0, .ref (ad 0)), (1, .int d), (2, .int part)]) hx hb dX6_rests_18 rfl hl (by decide) rfl (fun ls hl => ?_)
    refine lv_iload_n hx hb dX6_rests_19 rfl (lv_at hl 0 rfl) ?_
    refine lv_if_eq (tgt := 25) hx hb dX6_rests_20 (by decide) (fun h => absurd h (by decide)) (fun _ => ?_)
    refine lv_iload_n hx hb dX6_rests_23 rfl (lv_at hl 0 rfl) ?_
    have hq_29 : (-1 : Int32) = zr (bIn part 0 1) (sStR sh d) (sRests (sh (iN d)).2.1 sc.1 part) := (zr_no b_4).symm
    exact zireti hC hZ hr hlocks ⟨hq_29, rfl⟩ dX6_rests_24

theorem mX6_image : zMd yX6_image cX6_image 1 (some .int) 0 := ⟨by decide +kernel, gt_of 553 (by decide +kernel) rfl, gt_of 44 (by decide +kernel) rfl, by decide⟩
theorem dX6_image_0 : decode cX6_image 0 = .ok (.aload_n 0, 1) := by decide +kernel
theorem dX6_image_1 : decode cX6_image 1 = .ok (.getfield 16, 3) := by decide +kernel
theorem fX6_16 : zFld RX6 16 6 1 := ⟨RX6, TX6, 9, rfl, inX6, by decide, rfl, Or.inl (gt_of 227 (by decide +kernel) rfl)⟩
theorem dX6_image_4 : decode cX6_image 4 = .ok (.aload_n 0, 1) := by decide +kernel
theorem dX6_image_5 : decode cX6_image 5 = .ok (.getfield 10, 3) := by decide +kernel
theorem dX6_image_8 : decode cX6_image 8 = .ok (.invokevirtual 260, 3) := by decide +kernel
theorem kX6_260 : zLk RX6 260 yX2_take := Or.inl (gt_of 554 (by decide +kernel) rfl)
theorem vX2_take : zMi yX2_take := ⟨gt_of 555 (by decide +kernel) rfl, gt_of 556 (by decide +kernel) rfl⟩
theorem dX6_image_11 : decode cX6_image 11 = .ok (.aload_n 0, 1) := by decide +kernel
theorem dX6_image_12 : decode cX6_image 12 = .ok (.iconst 1, 1) := by decide +kernel
theorem dX6_image_13 : decode cX6_image 13 = .ok (.putfield 19, 3) := by decide +kernel
theorem pX6_19 : zFldP RX6 19 6 2 false .boolean := ⟨RX6, TX6, 9, tyX6, rfl, inX6, by decide, rfl, Or.inl (gt_of 228 (by decide +kernel) rfl), tyX6_ok, nmX6, rfl, by decide +kernel, fun h => by cases h⟩
theorem dX6_image_16 : decode cX6_image 16 = .ok (.aload_n 0, 1) := by decide +kernel
theorem dX6_image_17 : decode cX6_image 17 = .ok (.getfield 10, 3) := by decide +kernel
theorem dX6_image_20 : decode cX6_image 20 = .ok (.getfield 86, 3) := by decide +kernel
theorem dX6_image_23 : decode cX6_image 23 = .ok (.getfield 177, 3) := by decide +kernel
theorem dX6_image_26 : decode cX6_image 26 = .ok (.ireturn, 1) := by decide +kernel
set_option maxRecDepth 100000 in
theorem c_X6_image (l : Launch) (D : va_G) (cy : Nat → Nat) (n : Nat) (ad : Nat → Nat) (F : Nat → va_E) (sz : Nat) (pic : Int32) (sc ps : Scn) (sh : Nat → Shf) (rd : Rdr) (dr : Stg) (fa : Tal) (mi : Crs) (hn : 56 ≤ n) (hX : RX ad cy F pic sc ps sh rd dr fa mi) : Met l yX6_image (zw yX6_image cX6_image 1 (some .int)) (rmL 2) (zPc D cy n ad F sz [.ref (ad 0)]) (va_Qi (fun r F1 => r = sc.2.2.2.2.1 ∧ RX ad cy F1 1 sc sc sh rd dr fa mi ∧ fr56 F F1) (zB D n ad) (zA n ad sz)) 0 0 (zA n ad sz) := by
  refine zmet (by decide +kernel) (Nat.le_of_ble_eq_true rfl) (fun p e s m args below meth c ls hC hsz hZ hA hr hlocks hnm hl => ?_)
  have hC : zC p m c cX6_image 1 s args RX6 D cy := hC
  have hx := hC.1.1
  have hb := hC.1.2.1
  have hl : lv_has ls 1 [(0, .ref (ad 0))] := hl
  refine lv_aload_n hx hb dX6_image_0 rfl (lv_at hl 0 rfl) ?_
  refine zget hC hZ fX6_16 (zlt hn rfl) hX.1 rfl dX6_image_1 ?_
  refine lv_aload_n hx hb dX6_image_4 rfl (lv_at hl 0 rfl) ?_
  refine zget hC hZ fX6_10 (zlt hn rfl) hX.1 rfl dX6_image_5 ?_
  refine zgov hZ hA (zrunV (As := [.ref (ad 1)]) (rest := []) (k := 13) hC hZ (c_X2_take l D cy n ad F s.heap.size 13 ps (by omega) hX.2.2.1 1 sc (by omega) hX.2.1 (by decide)) mX2_take vX2_take kX6_260 (zRj_of rfl) (zlt hn rfl) hX.2.2.1.1 rfl rfl hl.1 rfl (Nat.le_of_ble_eq_true rfl) dX6_image_8 ⟨Nat.le_refl _, Nat.le_refl _⟩) (fun F_1 hp_3 H locs hZ => ?_)
  have hX_4 := rx_pict hX hp_3.1 hp_3.2
  have hf_5 := fr56_bl fr56_rf hp_3.2 (by decide)
  refine lv_aload_n hx hb dX6_image_11 rfl (lv_at hl 0 rfl) ?_
  refine lv_iconst (v := 1) hx hb dX6_image_12 (by decide) ?_
  refine zput (E := oMain ad 1) hC hZ pX6_19 (zlt hn rfl) hX_4.1 rfl rfl rfl (Nat.le_of_ble_eq_true rfl) dX6_image_13 (fun F_6 hF_7 H locs hZ => ?_)
  have hX_8 := rx_main hX_4 hF_7
  have hf_9 := fr56_up hf_5 hF_7 (by decide)
  have hX_8 : RX ad cy F_6 1 sc sc sh rd dr fa mi := hX_8
  refine lv_aload_n hx hb dX6_image_16 rfl (lv_at hl 0 rfl) ?_
  refine zget hC hZ fX6_10 (zlt hn rfl) hX_8.1 rfl dX6_image_17 ?_
  refine zget hC hZ fX6_86 (zlt hn rfl) hX_8.2.1.1 rfl dX6_image_20 ?_
  refine zget hC hZ fX6_177 (zlt hn rfl) hX_8.2.1.2.2.2.1 rfl dX6_image_23 ?_
  exact zireti hC hZ hr hlocks ⟨rfl, hX_8, hf_9⟩ dX6_image_26

theorem mX6_restore : zMd yX6_restore cX6_restore 1 (some .int) 0 := ⟨by decide +kernel, gt_of 565 (by decide +kernel) rfl, gt_of 44 (by decide +kernel) rfl, by decide⟩
theorem dX6_restore_0 : decode cX6_restore 0 = .ok (.aload_n 0, 1) := by decide +kernel
theorem dX6_restore_1 : decode cX6_restore 1 = .ok (.getfield 19, 3) := by decide +kernel
theorem fX6_19 : zFld RX6 19 6 2 := ⟨RX6, TX6, 9, rfl, inX6, by decide, rfl, Or.inl (gt_of 228 (by decide +kernel) rfl)⟩
theorem dX6_restore_4 : decode cX6_restore 4 = .ok (.ifCond .ne 6, 3) := by decide +kernel
theorem dX6_restore_10 : decode cX6_restore 10 = .ok (.aload_n 0, 1) := by decide +kernel
theorem dX6_restore_11 : decode cX6_restore 11 = .ok (.getfield 10, 3) := by decide +kernel
theorem dX6_restore_14 : decode cX6_restore 14 = .ok (.aload_n 0, 1) := by decide +kernel
theorem dX6_restore_15 : decode cX6_restore 15 = .ok (.getfield 16, 3) := by decide +kernel
theorem dX6_restore_18 : decode cX6_restore 18 = .ok (.invokevirtual 260, 3) := by decide +kernel
theorem dX6_restore_21 : decode cX6_restore 21 = .ok (.aload_n 0, 1) := by decide +kernel
theorem dX6_restore_22 : decode cX6_restore 22 = .ok (.getfield 10, 3) := by decide +kernel
theorem dX6_restore_25 : decode cX6_restore 25 = .ok (.getfield 86, 3) := by decide +kernel
theorem dX6_restore_28 : decode cX6_restore 28 = .ok (.getfield 177, 3) := by decide +kernel
theorem dX6_restore_31 : decode cX6_restore 31 = .ok (.ireturn, 1) := by decide +kernel
theorem dX6_restore_7 : decode cX6_restore 7 = .ok (.bipush (-3), 2) := by decide +kernel
theorem dX6_restore_9 : decode cX6_restore 9 = .ok (.ireturn, 1) := by decide +kernel
set_option maxRecDepth 100000 in
theorem c_X6_restore (l : Launch) (D : va_G) (cy : Nat → Nat) (n : Nat) (ad : Nat → Nat) (F : Nat → va_E) (sz : Nat) (pic : Int32) (sc ps : Scn) (sh : Nat → Shf) (rd : Rdr) (dr : Stg) (fa : Tal) (mi : Crs) (hn : 56 ≤ n) (hX : RX ad cy F pic sc ps sh rd dr fa mi) : Met l yX6_restore (zw yX6_restore cX6_restore 1 (some .int)) (rmL 2) (zPc D cy n ad F sz [.ref (ad 0)]) (va_Qi (fun r F1 => r = (if pic = 0 then -3 else ps.2.2.2.2.1) ∧ RX ad cy F1 pic (if pic = 0 then sc else ps) ps sh rd dr fa mi ∧ fr56 F F1) (zB D n ad) (zA n ad sz)) 0 0 (zA n ad sz) := by
  refine zmet (by decide +kernel) (Nat.le_of_ble_eq_true rfl) (fun p e s m args below meth c ls hC hsz hZ hA hr hlocks hnm hl => ?_)
  have hC : zC p m c cX6_restore 1 s args RX6 D cy := hC
  have hx := hC.1.1
  have hb := hC.1.2.1
  have hl : lv_has ls 1 [(0, .ref (ad 0))] := hl
  refine lv_aload_n hx hb dX6_restore_0 rfl (lv_at hl 0 rfl) ?_
  refine zget hC hZ fX6_19 (zlt hn rfl) hX.1 rfl dX6_restore_1 ?_
  refine lv_if_ne (tgt := 10) hx hb dX6_restore_4 (by decide) (fun c_4 => ?_) (fun c_4 => ?_)
  · refine lv_aload_n hx hb dX6_restore_10 rfl (lv_at hl 0 rfl) ?_
    refine zget hC hZ fX6_10 (zlt hn rfl) hX.1 rfl dX6_restore_11 ?_
    refine lv_aload_n hx hb dX6_restore_14 rfl (lv_at hl 0 rfl) ?_
    refine zget hC hZ fX6_16 (zlt hn rfl) hX.1 rfl dX6_restore_15 ?_
    refine zgov hZ hA (zrunV (As := [.ref (ad 13)]) (rest := []) (k := 1) hC hZ (c_X2_take l D cy n ad F s.heap.size 1 sc (by omega) hX.2.1 13 ps (by omega) hX.2.2.1 (by decide)) mX2_take vX2_take kX6_260 (zRj_of rfl) (zlt hn rfl) hX.2.1.1 rfl rfl hl.1 rfl (Nat.le_of_ble_eq_true rfl) dX6_restore_18 ⟨Nat.le_refl _, Nat.le_refl _⟩) (fun F_1 hp_3 H locs hZ => ?_)
    have hX_4 := rx_scene hX hp_3.1 hp_3.2
    have hf_5 := fr56_bl fr56_rf hp_3.2 (by decide)
    refine lv_aload_n hx hb dX6_restore_21 rfl (lv_at hl 0 rfl) ?_
    refine zget hC hZ fX6_10 (zlt hn rfl) hX_4.1 rfl dX6_restore_22 ?_
    refine zget hC hZ fX6_86 (zlt hn rfl) hX_4.2.1.1 rfl dX6_restore_25 ?_
    refine zget hC hZ fX6_177 (zlt hn rfl) hX_4.2.1.2.2.2.1 rfl dX6_restore_28 ?_
    have hq0 : ps.2.2.2.2.1 = if pic = 0 then -3 else ps.2.2.2.2.1 := (if_neg c_4).symm
    have hq1 : (if pic = 0 then sc else ps) = ps := if_neg c_4
    exact zireti hC hZ hr hlocks ⟨hq0, by rw [hq1]; exact hX_4, hf_5⟩ dX6_restore_31
  · refine lv_bipush (v := (-3)) hx hb dX6_restore_7 (by decide) ?_
    have hq0 : (-3 : Int32) = if pic = 0 then -3 else ps.2.2.2.2.1 := (if_pos c_4).symm
    have hq1 : (if pic = 0 then sc else ps) = sc := if_pos c_4
    exact zireti hC hZ hr hlocks ⟨hq0, by rw [hq1]; exact hX, fr56_rf⟩ dX6_restore_9

theorem mX6_keep : zMd yX6_keep cX6_keep 5 (some .int) 4 := ⟨by decide +kernel, gt_of 573 (by decide +kernel) rfl, gt_of 44 (by decide +kernel) rfl, by decide⟩
theorem dX6_keep_0 : decode cX6_keep 0 = .ok (.iload_n 1, 1) := by decide +kernel
theorem dX6_keep_1 : decode cX6_keep 1 = .ok (.invokestatic 61, 3) := by decide +kernel
theorem dX6_keep_4 : decode cX6_keep 4 = .ok (.ifCond .eq 12, 3) := by decide +kernel
theorem dX6_keep_7 : decode cX6_keep 7 = .ok (.iload_n 2, 1) := by decide +kernel
theorem dX6_keep_8 : decode cX6_keep 8 = .ok (.iconst 0, 1) := by decide +kernel
theorem dX6_keep_9 : decode cX6_keep 9 = .ok (.iconst 1, 1) := by decide +kernel
theorem dX6_keep_10 : decode cX6_keep 10 = .ok (.invokestatic 115, 3) := by decide +kernel
theorem dX6_keep_13 : decode cX6_keep 13 = .ok (.ifCond .ne 5, 3) := by decide +kernel
theorem dX6_keep_18 : decode cX6_keep 18 = .ok (.iload_n 2, 1) := by decide +kernel
theorem dX6_keep_19 : decode cX6_keep 19 = .ok (.ifCond .ne 14, 3) := by decide +kernel
theorem dX6_keep_33 : decode cX6_keep 33 = .ok (.iload_n 3, 1) := by decide +kernel
theorem dX6_keep_34 : decode cX6_keep 34 = .ok (.iconst 0, 1) := by decide +kernel
theorem dX6_keep_35 : decode cX6_keep 35 = .ok (.bipush 7, 2) := by decide +kernel
theorem dX6_keep_37 : decode cX6_keep 37 = .ok (.invokestatic 115, 3) := by decide +kernel
theorem dX6_keep_40 : decode cX6_keep 40 = .ok (.ifCond .eq 14, 3) := by decide +kernel
theorem dX6_keep_43 : decode cX6_keep 43 = .ok (.iload 4, 2) := by decide +kernel
theorem dX6_keep_45 : decode cX6_keep 45 = .ok (.iconst 0, 1) := by decide +kernel
theorem dX6_keep_46 : decode cX6_keep 46 = .ok (.bipush 40, 2) := by decide +kernel
theorem dX6_keep_48 : decode cX6_keep 48 = .ok (.invokestatic 115, 3) := by decide +kernel
theorem dX6_keep_51 : decode cX6_keep 51 = .ok (.ifCond .ne 5, 3) := by decide +kernel
theorem dX6_keep_56 : decode cX6_keep 56 = .ok (.aload_n 0, 1) := by decide +kernel
theorem dX6_keep_57 : decode cX6_keep 57 = .ok (.getfield 25, 3) := by decide +kernel
theorem dX6_keep_60 : decode cX6_keep 60 = .ok (.iload_n 1, 1) := by decide +kernel
theorem dX6_keep_61 : decode cX6_keep 61 = .ok (.aaload, 1) := by decide +kernel
theorem dX6_keep_62 : decode cX6_keep 62 = .ok (.iload_n 3, 1) := by decide +kernel
theorem dX6_keep_63 : decode cX6_keep 63 = .ok (.iload 4, 2) := by decide +kernel
theorem dX6_keep_65 : decode cX6_keep 65 = .ok (.invokevirtual 264, 3) := by decide +kernel
theorem kX6_264 : zLk RX6 264 yX4_holdStory := Or.inl (gt_of 578 (by decide +kernel) rfl)
theorem vX4_holdStory : zMi yX4_holdStory := ⟨gt_of 579 (by decide +kernel) rfl, gt_of 580 (by decide +kernel) rfl⟩
theorem dX6_keep_68 : decode cX6_keep 68 = .ok (.iconst 0, 1) := by decide +kernel
theorem dX6_keep_69 : decode cX6_keep 69 = .ok (.ireturn, 1) := by decide +kernel
theorem dX6_keep_54 : decode cX6_keep 54 = .ok (.iconst (-1), 1) := by decide +kernel
theorem dX6_keep_55 : decode cX6_keep 55 = .ok (.ireturn, 1) := by decide +kernel
theorem dX6_keep_22 : decode cX6_keep 22 = .ok (.aload_n 0, 1) := by decide +kernel
theorem dX6_keep_23 : decode cX6_keep 23 = .ok (.getfield 25, 3) := by decide +kernel
theorem dX6_keep_26 : decode cX6_keep 26 = .ok (.iload_n 1, 1) := by decide +kernel
theorem dX6_keep_27 : decode cX6_keep 27 = .ok (.aaload, 1) := by decide +kernel
theorem dX6_keep_28 : decode cX6_keep 28 = .ok (.invokevirtual 263, 3) := by decide +kernel
theorem kX6_263 : zLk RX6 263 yX4_clear := Or.inl (gt_of 574 (by decide +kernel) rfl)
theorem vX4_clear : zMi yX4_clear := ⟨gt_of 575 (by decide +kernel) rfl, gt_of 576 (by decide +kernel) rfl⟩
theorem dX6_keep_31 : decode cX6_keep 31 = .ok (.iconst 0, 1) := by decide +kernel
theorem dX6_keep_32 : decode cX6_keep 32 = .ok (.ireturn, 1) := by decide +kernel
theorem dX6_keep_16 : decode cX6_keep 16 = .ok (.iconst (-1), 1) := by decide +kernel
theorem dX6_keep_17 : decode cX6_keep 17 = .ok (.ireturn, 1) := by decide +kernel
set_option maxRecDepth 100000 in
theorem c_X6_keep (l : Launch) (D : va_G) (cy : Nat → Nat) (n : Nat) (ad : Nat → Nat) (F : Nat → va_E) (sz : Nat) (pic : Int32) (sc ps : Scn) (sh : Nat → Shf) (rd : Rdr) (dr : Stg) (fa : Tal) (mi : Crs) (hn : 56 ≤ n) (hX : RX ad cy F pic sc ps sh rd dr fa mi) (d what k f : Int32) : Met l yX6_keep (zw yX6_keep cX6_keep 5 (some .int)) (rmL 2) (zPc D cy n ad F sz [.ref (ad 0), .int d, .int what, .int k, .int f]) (va_Qi (fun r F1 => r = (if bKeep d what k f then 0 else -1) ∧ RX ad cy F1 pic sc ps (sKeepS sh d what k f) rd dr fa mi ∧ fr56 F F1) (zB D n ad) (zA n ad sz)) 0 0 (zA n ad sz) := by
  refine zmet (by decide +kernel) (Nat.le_of_ble_eq_true rfl) (fun p e s m args below meth c ls hC hsz hZ hA hr hlocks hnm hl => ?_)
  have hC : zC p m c cX6_keep 5 s args RX6 D cy := hC
  have hx := hC.1.1
  have hb := hC.1.2.1
  have hl : lv_has ls 5 [(0, .ref (ad 0)), (1, .int d), (2, .int what), (3, .int k), (4, .int f)] := hl
  refine lv_iload_n hx hb dX6_keep_0 rfl (lv_at hl 1 rfl) ?_
  refine zgoi hZ hA (zrunS (As := [.int d]) (rest := []) hC hZ (c_X6_isShelf l D cy n ad F s.heap.size d) mX6_isShelf sX6_isShelf kX6_61 (zRj_of rfl) rfl hl.1 rfl (Nat.le_of_ble_eq_true rfl) dX6_keep_1 ⟨Nat.le_refl _, Nat.le_refl _⟩) (fun r_2 F_1 hp_3 H locs hZ => ?_)
  obtain ⟨hp_3, rfl⟩ := hp_3
  by_cases b_4 : bSh d
  · rw [if_pos b_4] at hp_3
    subst hp_3
    refine lv_if_eq (tgt := 16) hx hb dX6_keep_4 (by decide) (fun h => absurd h (by decide)) (fun _ => ?_)
    refine lv_iload_n hx hb dX6_keep_7 rfl (lv_at hl 2 rfl) ?_
    refine lv_iconst (v := 0) hx hb dX6_keep_8 (by decide) ?_
    refine lv_iconst (v := 1) hx hb dX6_keep_9 (by decide) ?_
    refine zgoi hZ hA (zrunS (As := [.int what, .int 0, .int 1]) (rest := []) hC hZ (c_X6_isWithin l D cy n ad F H.size what 0 1) mX6_isWithin sX6_isWithin kX6_115 (zRj_of rfl) rfl hl.1 rfl (Nat.le_of_ble_eq_true rfl) dX6_keep_10 ⟨Nat.le_refl _, Nat.le_refl _⟩) (fun r_6 F_5 hp_7 H locs hZ => ?_)
    obtain ⟨hp_7, rfl⟩ := hp_7
    by_cases b_8 : bIn what 0 1
    · rw [if_pos b_8] at hp_7
      subst hp_7
      refine lv_if_ne (tgt := 18) hx hb dX6_keep_13 (by decide) (fun _ => ?_) (fun h => absurd h (by decide))
      refine lv_iload_n hx hb dX6_keep_18 rfl (lv_at hl 2 rfl) ?_
      refine lv_if_ne (tgt := 33) hx hb dX6_keep_19 (by decide) (fun c_19 => ?_) (fun c_19 => ?_)
      · refine lv_iload_n hx hb dX6_keep_33 rfl (lv_at hl 3 rfl) ?_
        refine lv_iconst (v := 0) hx hb dX6_keep_34 (by decide) ?_
        refine lv_bipush (v := 7) hx hb dX6_keep_35 (by decide) ?_
        refine zgoi hZ hA (zrunS (As := [.int k, .int 0, .int 7]) (rest := []) hC hZ (c_X6_isWithin l D cy n ad F H.size k 0 7) mX6_isWithin sX6_isWithin kX6_115 (zRj_of rfl) rfl hl.1 rfl (Nat.le_of_ble_eq_true rfl) dX6_keep_37 ⟨Nat.le_refl _, Nat.le_refl _⟩) (fun r_10 F_9 hp_11 H locs hZ => ?_)
        obtain ⟨hp_11, rfl⟩ := hp_11
        by_cases b_12 : bIn k 0 7
        · rw [if_pos b_12] at hp_11
          subst hp_11
          refine lv_if_eq (tgt := 54) hx hb dX6_keep_40 (by decide) (fun h => absurd h (by decide)) (fun _ => ?_)
          refine lv_iload hx hb dX6_keep_43 (lv_at hl 4 rfl) ?_
          refine lv_iconst (v := 0) hx hb dX6_keep_45 (by decide) ?_
          refine lv_bipush (v := 40) hx hb dX6_keep_46 (by decide) ?_
          refine zgoi hZ hA (zrunS (As := [.int f, .int 0, .int 40]) (rest := []) hC hZ (c_X6_isWithin l D cy n ad F H.size f 0 40) mX6_isWithin sX6_isWithin kX6_115 (zRj_of rfl) rfl hl.1 rfl (Nat.le_of_ble_eq_true rfl) dX6_keep_48 ⟨Nat.le_refl _, Nat.le_refl _⟩) (fun r_14 F_13 hp_15 H locs hZ => ?_)
          obtain ⟨hp_15, rfl⟩ := hp_15
          by_cases b_16 : bIn f 0 40
          · rw [if_pos b_16] at hp_15
            subst hp_15
            refine lv_if_ne (tgt := 56) hx hb dX6_keep_51 (by decide) (fun _ => ?_) (fun h => absurd h (by decide))
            refine lv_aload_n hx hb dX6_keep_56 rfl (lv_at hl 0 rfl) ?_
            refine zget hC hZ fX6_25 (zlt hn rfl) hX.1 rfl dX6_keep_57 ?_
            refine lv_iload_n hx hb dX6_keep_60 rfl (lv_at hl 1 rfl) ?_
            have hs_17 := bSh_i b_4
            refine zaald hC hZ (zlt hn rfl) hX.2.2.2.1 (C := RX4) rfl hs_17.1 hs_17.2 (by decide) rfl dX6_keep_61 ?_
            refine lv_iload_n hx hb dX6_keep_62 rfl (lv_at hl 3 rfl) ?_
            refine lv_iload hx hb dX6_keep_63 (lv_at hl 4 rfl) ?_
            refine zgov hZ hA (zrunV (As := [.int k, .int f]) (rest := []) (k := 26 + 3 * (iN d)) hC hZ (c_X4_holdStory l D cy n ad F H.size (26 + 3 * (iN d)) (sh (iN d)) (by have := hs_17.2; omega) (hX.2.2.2.2.1 (iN d) hs_17.2) k f) mX4_holdStory vX4_holdStory kX6_264 (zRj_of rfl) (by have := hs_17.2; omega) (hX.2.2.2.2.1 (iN d) hs_17.2).1 rfl rfl hl.1 rfl (Nat.le_of_ble_eq_true rfl) dX6_keep_65 ⟨Nat.le_refl _, Nat.le_refl _⟩) (fun F_18 hp_20 H locs hZ => ?_)
            have hsf_23 := RSh_story (hX.2.2.2.2.1 _ hs_17.2) hp_20
            have hX_21 : RX ad cy F_18 pic sc ps (va_up sh (iN d) (1, (k, f), (sh (iN d)).2.2)) rd dr fa mi := rx_shelf hs_17.2 hX hsf_23.1 hsf_23.2
            have hf_22 := fr56_bl fr56_rf hsf_23.2 (by have := hs_17.2; omega)
            refine lv_iconst (v := 0) hx hb dX6_keep_68 (by decide) ?_
            have hb9 : bKeep d what k f := ⟨⟨b_4, b_8⟩, Or.inr ⟨b_12, b_16⟩⟩
            have hq1 : sKeepS sh d what k f = (va_up sh (iN d) (1, (k, f), (sh (iN d)).2.2)) := by unfold sKeepS; rw [if_pos hb9, if_neg c_19]
            have hq0 : (0 : Int32) = if bKeep d what k f then 0 else -1 := (if_pos hb9).symm
            exact zireti hC hZ hr hlocks ⟨hq0, by rw [hq1]; exact hX_21, hf_22⟩ dX6_keep_69
          · rw [if_neg b_16] at hp_15
            subst hp_15
            refine lv_if_ne (tgt := 56) hx hb dX6_keep_51 (by decide) (fun h => absurd (by decide) h) (fun _ => ?_)
            refine lv_iconst (v := (-1)) hx hb dX6_keep_54 (by decide) ?_
            have hb9 : ¬ (bKeep d what k f) := fun h => h.2.elim c_19 (fun h2 => b_16 h2.2)
            have hq1 : sKeepS sh d what k f = sh := if_neg hb9
            have hq0 : (-1 : Int32) = if bKeep d what k f then 0 else -1 := (if_neg hb9).symm
            exact zireti hC hZ hr hlocks ⟨hq0, by rw [hq1]; exact hX, fr56_rf⟩ dX6_keep_55
        · rw [if_neg b_12] at hp_11
          subst hp_11
          refine lv_if_eq (tgt := 54) hx hb dX6_keep_40 (by decide) (fun _ => ?_) (fun h => absurd (by decide) h)
          refine lv_iconst (v := (-1)) hx hb dX6_keep_54 (by decide) ?_
          have hb9 : ¬ (bKeep d what k f) := fun h => h.2.elim c_19 (fun h2 => b_12 h2.1)
          have hq1 : sKeepS sh d what k f = sh := if_neg hb9
          have hq0 : (-1 : Int32) = if bKeep d what k f then 0 else -1 := (if_neg hb9).symm
          exact zireti hC hZ hr hlocks ⟨hq0, by rw [hq1]; exact hX, fr56_rf⟩ dX6_keep_55
      · refine lv_aload_n hx hb dX6_keep_22 rfl (lv_at hl 0 rfl) ?_
        refine zget hC hZ fX6_25 (zlt hn rfl) hX.1 rfl dX6_keep_23 ?_
        refine lv_iload_n hx hb dX6_keep_26 rfl (lv_at hl 1 rfl) ?_
        have hs_24 := bSh_i b_4
        refine zaald hC hZ (zlt hn rfl) hX.2.2.2.1 (C := RX4) rfl hs_24.1 hs_24.2 (by decide) rfl dX6_keep_27 ?_
        refine zgov hZ hA (zrunV (As := []) (rest := []) (k := 26 + 3 * (iN d)) hC hZ (c_X4_clear l D cy n ad F H.size (26 + 3 * (iN d)) (sh (iN d)) (by have := hs_24.2; omega) (hX.2.2.2.2.1 (iN d) hs_24.2)) mX4_clear vX4_clear kX6_263 (zRj_of rfl) (by have := hs_24.2; omega) (hX.2.2.2.2.1 (iN d) hs_24.2).1 rfl rfl hl.1 rfl (Nat.le_of_ble_eq_true rfl) dX6_keep_28 ⟨Nat.le_refl _, Nat.le_refl _⟩) (fun F_25 hp_27 H locs hZ => ?_)
        have hsf_30 := RSh_clear (hX.2.2.2.2.1 _ hs_24.2) hp_27
        have hX_28 : RX ad cy F_25 pic sc ps (va_up sh (iN d) (0, (sh (iN d)).2)) rd dr fa mi := rx_shelf hs_24.2 hX hsf_30.1 hsf_30.2
        have hf_29 := fr56_bl fr56_rf hsf_30.2 (by have := hs_24.2; omega)
        refine lv_iconst (v := 0) hx hb dX6_keep_31 (by decide) ?_
        have hb9 : bKeep d what k f := ⟨⟨b_4, b_8⟩, Or.inl c_19⟩
        have hq1 : sKeepS sh d what k f = (va_up sh (iN d) (0, (sh (iN d)).2)) := by unfold sKeepS; rw [if_pos hb9, if_pos c_19]
        have hq0 : (0 : Int32) = if bKeep d what k f then 0 else -1 := (if_pos hb9).symm
        exact zireti hC hZ hr hlocks ⟨hq0, by rw [hq1]; exact hX_28, hf_29⟩ dX6_keep_32
    · rw [if_neg b_8] at hp_7
      subst hp_7
      refine lv_if_ne (tgt := 18) hx hb dX6_keep_13 (by decide) (fun h => absurd (by decide) h) (fun _ => ?_)
      refine lv_iconst (v := (-1)) hx hb dX6_keep_16 (by decide) ?_
      have hb9 : ¬ (bKeep d what k f) := fun h => b_8 h.1.2
      have hq1 : sKeepS sh d what k f = sh := if_neg hb9
      have hq0 : (-1 : Int32) = if bKeep d what k f then 0 else -1 := (if_neg hb9).symm
      exact zireti hC hZ hr hlocks ⟨hq0, by rw [hq1]; exact hX, fr56_rf⟩ dX6_keep_17
  · rw [if_neg b_4] at hp_3
    subst hp_3
    refine lv_if_eq (tgt := 16) hx hb dX6_keep_4 (by decide) (fun _ => ?_) (fun h => absurd (by decide) h)
    refine lv_iconst (v := (-1)) hx hb dX6_keep_16 (by decide) ?_
    have hb9 : ¬ (bKeep d what k f) := fun h => b_4 h.1.1
    have hq1 : sKeepS sh d what k f = sh := if_neg hb9
    have hq0 : (-1 : Int32) = if bKeep d what k f then 0 else -1 := (if_neg hb9).symm
    exact zireti hC hZ hr hlocks ⟨hq0, by rw [hq1]; exact hX, fr56_rf⟩ dX6_keep_17

theorem mX6_row : zMd yX6_row cX6_row 4 (some .int) 3 := ⟨by decide +kernel, gt_of 586 (by decide +kernel) rfl, gt_of 44 (by decide +kernel) rfl, by decide⟩
theorem dX6_row_0 : decode cX6_row 0 = .ok (.iload_n 1, 1) := by decide +kernel
theorem dX6_row_1 : decode cX6_row 1 = .ok (.invokestatic 61, 3) := by decide +kernel
theorem dX6_row_4 : decode cX6_row 4 = .ok (.ifCond .eq 18, 3) := by decide +kernel
theorem dX6_row_7 : decode cX6_row 7 = .ok (.iload_n 2, 1) := by decide +kernel
theorem dX6_row_8 : decode cX6_row 8 = .ok (.iconst 0, 1) := by decide +kernel
theorem dX6_row_9 : decode cX6_row 9 = .ok (.iconst 2, 1) := by decide +kernel
theorem dX6_row_10 : decode cX6_row 10 = .ok (.invokestatic 115, 3) := by decide +kernel
theorem dX6_row_13 : decode cX6_row 13 = .ok (.ifCond .eq 9, 3) := by decide +kernel
theorem dX6_row_16 : decode cX6_row 16 = .ok (.iload_n 3, 1) := by decide +kernel
theorem dX6_row_17 : decode cX6_row 17 = .ok (.bipush 100, 2) := by decide +kernel
theorem dX6_row_19 : decode cX6_row 19 = .ok (.if_icmp .le 5, 3) := by decide +kernel
theorem dX6_row_24 : decode cX6_row 24 = .ok (.iload_n 3, 1) := by decide +kernel
theorem dX6_row_25 : decode cX6_row 25 = .ok (.ifCond .ge 6, 3) := by decide +kernel
theorem dX6_row_31 : decode cX6_row 31 = .ok (.aload_n 0, 1) := by decide +kernel
theorem dX6_row_32 : decode cX6_row 32 = .ok (.getfield 25, 3) := by decide +kernel
theorem dX6_row_35 : decode cX6_row 35 = .ok (.iload_n 1, 1) := by decide +kernel
theorem dX6_row_36 : decode cX6_row 36 = .ok (.aaload, 1) := by decide +kernel
theorem dX6_row_37 : decode cX6_row 37 = .ok (.iload_n 2, 1) := by decide +kernel
theorem dX6_row_38 : decode cX6_row 38 = .ok (.iload_n 3, 1) := by decide +kernel
theorem dX6_row_39 : decode cX6_row 39 = .ok (.invokevirtual 267, 3) := by decide +kernel
theorem kX6_267 : zLk RX6 267 yX4_holdRow := Or.inl (gt_of 587 (by decide +kernel) rfl)
theorem vX4_holdRow : zMi yX4_holdRow := ⟨gt_of 588 (by decide +kernel) rfl, gt_of 589 (by decide +kernel) rfl⟩
theorem dX6_row_42 : decode cX6_row 42 = .ok (.iconst 0, 1) := by decide +kernel
theorem dX6_row_43 : decode cX6_row 43 = .ok (.ireturn, 1) := by decide +kernel
theorem dX6_row_28 : decode cX6_row 28 = .ok (.bipush (-14), 2) := by decide +kernel
theorem dX6_row_30 : decode cX6_row 30 = .ok (.ireturn, 1) := by decide +kernel
theorem dX6_row_22 : decode cX6_row 22 = .ok (.iconst (-1), 1) := by decide +kernel
theorem dX6_row_23 : decode cX6_row 23 = .ok (.ireturn, 1) := by decide +kernel
set_option maxRecDepth 100000 in
theorem c_X6_row (l : Launch) (D : va_G) (cy : Nat → Nat) (n : Nat) (ad : Nat → Nat) (F : Nat → va_E) (sz : Nat) (pic : Int32) (sc ps : Scn) (sh : Nat → Shf) (rd : Rdr) (dr : Stg) (fa : Tal) (mi : Crs) (hn : 56 ≤ n) (hX : RX ad cy F pic sc ps sh rd dr fa mi) (d so q : Int32) : Met l yX6_row (zw yX6_row cX6_row 4 (some .int)) (rmL 1) (zPc D cy n ad F sz [.ref (ad 0), .int d, .int so, .int q]) (va_Qi (fun r F1 => r = sRow d so q ∧ RX ad cy F1 pic sc ps (sRowS sh d so q) rd dr fa mi ∧ fr56 F F1) (zB D n ad) (zA n ad sz)) 0 0 (zA n ad sz) := by
  refine zmet (by decide +kernel) (Nat.le_of_ble_eq_true rfl) (fun p e s m args below meth c ls hC hsz hZ hA hr hlocks hnm hl => ?_)
  have hC : zC p m c cX6_row 4 s args RX6 D cy := hC
  have hx := hC.1.1
  have hb := hC.1.2.1
  have hl : lv_has ls 4 [(0, .ref (ad 0)), (1, .int d), (2, .int so), (3, .int q)] := hl
  refine lv_iload_n hx hb dX6_row_0 rfl (lv_at hl 1 rfl) ?_
  refine zgoi hZ hA (zrunS (As := [.int d]) (rest := []) hC hZ (c_X6_isShelf l D cy n ad F s.heap.size d) mX6_isShelf sX6_isShelf kX6_61 (zRj_of rfl) rfl hl.1 rfl (Nat.le_of_ble_eq_true rfl) dX6_row_1 ⟨Nat.le_refl _, Nat.le_refl _⟩) (fun r_2 F_1 hp_3 H locs hZ => ?_)
  obtain ⟨hp_3, rfl⟩ := hp_3
  by_cases b_4 : bSh d
  · rw [if_pos b_4] at hp_3
    subst hp_3
    refine lv_if_eq (tgt := 22) hx hb dX6_row_4 (by decide) (fun h => absurd h (by decide)) (fun _ => ?_)
    refine lv_iload_n hx hb dX6_row_7 rfl (lv_at hl 2 rfl) ?_
    refine lv_iconst (v := 0) hx hb dX6_row_8 (by decide) ?_
    refine lv_iconst (v := 2) hx hb dX6_row_9 (by decide) ?_
    refine zgoi hZ hA (zrunS (As := [.int so, .int 0, .int 2]) (rest := []) hC hZ (c_X6_isWithin l D cy n ad F H.size so 0 2) mX6_isWithin sX6_isWithin kX6_115 (zRj_of rfl) rfl hl.1 rfl (Nat.le_of_ble_eq_true rfl) dX6_row_10 ⟨Nat.le_refl _, Nat.le_refl _⟩) (fun r_6 F_5 hp_7 H locs hZ => ?_)
    obtain ⟨hp_7, rfl⟩ := hp_7
    by_cases b_8 : bIn so 0 2
    · rw [if_pos b_8] at hp_7
      subst hp_7
      refine lv_if_eq (tgt := 22) hx hb dX6_row_13 (by decide) (fun h => absurd h (by decide)) (fun _ => ?_)
      refine lv_iload_n hx hb dX6_row_16 rfl (lv_at hl 3 rfl) ?_
      refine lv_bipush (v := 100) hx hb dX6_row_17 (by decide) ?_
      refine lv_icmp_le (tgt := 24) hx hb dX6_row_19 (by decide) (fun c_19 => ?_) (fun c_19 => ?_)
      · refine lv_iload_n hx hb dX6_row_24 rfl (lv_at hl 3 rfl) ?_
        refine lv_if_ge (tgt := 31) hx hb dX6_row_25 (by decide) (fun c_25 => ?_) (fun c_25 => ?_)
        · refine lv_aload_n hx hb dX6_row_31 rfl (lv_at hl 0 rfl) ?_
          refine zget hC hZ fX6_25 (zlt hn rfl) hX.1 rfl dX6_row_32 ?_
          refine lv_iload_n hx hb dX6_row_35 rfl (lv_at hl 1 rfl) ?_
          have hs_9 := bSh_i b_4
          refine zaald hC hZ (zlt hn rfl) hX.2.2.2.1 (C := RX4) rfl hs_9.1 hs_9.2 (by decide) rfl dX6_row_36 ?_
          refine lv_iload_n hx hb dX6_row_37 rfl (lv_at hl 2 rfl) ?_
          refine lv_iload_n hx hb dX6_row_38 rfl (lv_at hl 3 rfl) ?_
          refine zgov hZ hA (zrunV (As := [.int so, .int q]) (rest := []) (k := 26 + 3 * (iN d)) hC hZ (c_X4_holdRow l D cy n ad F H.size (26 + 3 * (iN d)) (sh (iN d)) (by have := hs_9.2; omega) (hX.2.2.2.2.1 (iN d) hs_9.2) so q) mX4_holdRow vX4_holdRow kX6_267 (zRj_of rfl) (by have := hs_9.2; omega) (hX.2.2.2.2.1 (iN d) hs_9.2).1 rfl rfl hl.1 rfl (Nat.le_of_ble_eq_true rfl) dX6_row_39 ⟨Nat.le_refl _, Nat.le_refl _⟩) (fun F_10 hp_12 H locs hZ => ?_)
          have hsf_15 := RSh_row (hX.2.2.2.2.1 _ hs_9.2) hp_12
          have hX_13 : RX ad cy F_10 pic sc ps (va_up sh (iN d) (2, (sh (iN d)).2.1, so, q, zfill (sh (iN d)).2.2.2.2 100)) rd dr fa mi := rx_shelf hs_9.2 hX hsf_15.1 hsf_15.2
          have hf_14 := fr56_bl fr56_rf hsf_15.2 (by have := hs_9.2; omega)
          refine lv_iconst (v := 0) hx hb dX6_row_42 (by decide) ?_
          have hb9 : bRow d so q := ⟨b_4, b_8, c_19⟩
          have hc9 : ¬ q < 0 := Int32.not_lt.mpr c_25
          have hq0 : (0 : Int32) = sRow d so q := by unfold sRow; rw [if_pos hb9, if_neg hc9]
          have hq1 : sRowS sh d so q = (va_up sh (iN d) (2, (sh (iN d)).2.1, so, q, zfill (sh (iN d)).2.2.2.2 100)) := if_pos ⟨hb9, hc9⟩
          exact zireti hC hZ hr hlocks ⟨hq0, by rw [hq1]; exact hX_13, hf_14⟩ dX6_row_43
        · refine lv_bipush (v := (-14)) hx hb dX6_row_28 (by decide) ?_
          have hb9 : bRow d so q := ⟨b_4, b_8, c_19⟩
          have hc9 : q < 0 := Int32.not_le.mp c_25
          have hq0 : (-14 : Int32) = sRow d so q := by unfold sRow; rw [if_pos hb9, if_pos hc9]
          have hq1 : sRowS sh d so q = sh := if_neg (fun h => h.2 hc9)
          exact zireti hC hZ hr hlocks ⟨hq0, by rw [hq1]; exact hX, fr56_rf⟩ dX6_row_30
      · refine lv_iconst (v := (-1)) hx hb dX6_row_22 (by decide) ?_
        have hb9 : ¬ (bRow d so q) := fun h => c_19 h.2.2
        have hq0 : (-1 : Int32) = sRow d so q := (if_neg hb9).symm
        have hq1 : sRowS sh d so q = sh := if_neg (fun h => hb9 h.1)
        exact zireti hC hZ hr hlocks ⟨hq0, by rw [hq1]; exact hX, fr56_rf⟩ dX6_row_23
    · rw [if_neg b_8] at hp_7
      subst hp_7
      refine lv_if_eq (tgt := 22) hx hb dX6_row_13 (by decide) (fun _ => ?_) (fun h => absurd (by decide) h)
      refine lv_iconst (v := (-1)) hx hb dX6_row_22 (by decide) ?_
      have hb9 : ¬ (bRow d so q) := fun h => b_8 h.2.1
      have hq0 : (-1 : Int32) = sRow d so q := (if_neg hb9).symm
      have hq1 : sRowS sh d so q = sh := if_neg (fun h => hb9 h.1)
      exact zireti hC hZ hr hlocks ⟨hq0, by rw [hq1]; exact hX, fr56_rf⟩ dX6_row_23
  · rw [if_neg b_4] at hp_3
    subst hp_3
    refine lv_if_eq (tgt := 22) hx hb dX6_row_4 (by decide) (fun _ => ?_) (fun h => absurd (by decide) h)
    refine lv_iconst (v := (-1)) hx hb dX6_row_22 (by decide) ?_
    have hb9 : ¬ (bRow d so q) := fun h => b_4 h.1
    have hq0 : (-1 : Int32) = sRow d so q := (if_neg hb9).symm
    have hq1 : sRowS sh d so q = sh := if_neg (fun h => hb9 h.1)
    exact zireti hC hZ hr hlocks ⟨hq0, by rw [hq1]; exact hX, fr56_rf⟩ dX6_row_23

theorem mX6_put : zMd yX6_put cX6_put 5 (some .int) 3 := ⟨by decide +kernel, gt_of 594 (by decide +kernel) rfl, gt_of 44 (by decide +kernel) rfl, by decide⟩
theorem dX6_put_0 : decode cX6_put 0 = .ok (.aload_n 0, 1) := by decide +kernel
theorem dX6_put_1 : decode cX6_put 1 = .ok (.iload_n 1, 1) := by decide +kernel
theorem dX6_put_2 : decode cX6_put 2 = .ok (.invokevirtual 119, 3) := by decide +kernel
theorem kX6_119 : zLk RX6 119 yX6_rowRefusal := Or.inl (gt_of 272 (by decide +kernel) rfl)
theorem vX6_rowRefusal : zMi yX6_rowRefusal := ⟨gt_of 274 (by decide +kernel) rfl, gt_of 1 (by decide +kernel) rfl⟩
theorem dX6_put_5 : decode cX6_put 5 = .ok (.istore 4, 2) := by decide +kernel
theorem dX6_put_7 : decode cX6_put 7 = .ok (.iload 4, 2) := by decide +kernel
theorem dX6_put_9 : decode cX6_put 9 = .ok (.ifCond .eq 6, 3) := by decide +kernel
theorem dX6_put_15 : decode cX6_put 15 = .ok (.aload_n 0, 1) := by decide +kernel
theorem dX6_put_16 : decode cX6_put 16 = .ok (.getfield 25, 3) := by decide +kernel
theorem dX6_put_19 : decode cX6_put 19 = .ok (.iload_n 1, 1) := by decide +kernel
theorem dX6_put_20 : decode cX6_put 20 = .ok (.aaload, 1) := by decide +kernel
theorem dX6_put_21 : decode cX6_put 21 = .ok (.iload_n 2, 1) := by decide +kernel
theorem dX6_put_22 : decode cX6_put 22 = .ok (.invokevirtual 270, 3) := by decide +kernel
theorem kX6_270 : zLk RX6 270 yX4_hasPlace := Or.inl (gt_of 595 (by decide +kernel) rfl)
theorem dX6_put_25 : decode cX6_put 25 = .ok (.ifCond .ne 6, 3) := by decide +kernel
theorem dX6_put_31 : decode cX6_put 31 = .ok (.aload_n 0, 1) := by decide +kernel
theorem dX6_put_32 : decode cX6_put 32 = .ok (.getfield 25, 3) := by decide +kernel
theorem dX6_put_35 : decode cX6_put 35 = .ok (.iload_n 1, 1) := by decide +kernel
theorem dX6_put_36 : decode cX6_put 36 = .ok (.aaload, 1) := by decide +kernel
theorem dX6_put_37 : decode cX6_put 37 = .ok (.iload_n 2, 1) := by decide +kernel
theorem dX6_put_38 : decode cX6_put 38 = .ok (.iload_n 3, 1) := by decide +kernel
theorem dX6_put_39 : decode cX6_put 39 = .ok (.invokevirtual 273, 3) := by decide +kernel
theorem kX6_273 : zLk RX6 273 yX4_change := Or.inl (gt_of 596 (by decide +kernel) rfl)
theorem vX4_change : zMi yX4_change := ⟨gt_of 597 (by decide +kernel) rfl, gt_of 598 (by decide +kernel) rfl⟩
theorem dX6_put_42 : decode cX6_put 42 = .ok (.iconst 0, 1) := by decide +kernel
theorem dX6_put_43 : decode cX6_put 43 = .ok (.ireturn, 1) := by decide +kernel
theorem dX6_put_28 : decode cX6_put 28 = .ok (.bipush (-13), 2) := by decide +kernel
theorem dX6_put_30 : decode cX6_put 30 = .ok (.ireturn, 1) := by decide +kernel
theorem dX6_put_12 : decode cX6_put 12 = .ok (.iload 4, 2) := by decide +kernel
theorem dX6_put_14 : decode cX6_put 14 = .ok (.ireturn, 1) := by decide +kernel
set_option maxRecDepth 100000 in
theorem c_X6_put (l : Launch) (D : va_G) (cy : Nat → Nat) (n : Nat) (ad : Nat → Nat) (F : Nat → va_E) (sz : Nat) (pic : Int32) (sc ps : Scn) (sh : Nat → Shf) (rd : Rdr) (dr : Stg) (fa : Tal) (mi : Crs) (hn : 56 ≤ n) (hX : RX ad cy F pic sc ps sh rd dr fa mi) (d i v : Int32) : Met l yX6_put (zw yX6_put cX6_put 5 (some .int)) (rmL 2) (zPc D cy n ad F sz [.ref (ad 0), .int d, .int i, .int v]) (va_Qi (fun r F1 => r = sPut sh d i ∧ RX ad cy F1 pic sc ps (sPutS sh d i v) rd dr fa mi ∧ fr56 F F1) (zB D n ad) (zA n ad sz)) 0 0 (zA n ad sz) := by
  refine zmet (by decide +kernel) (Nat.le_of_ble_eq_true rfl) (fun p e s m args below meth c ls hC hsz hZ hA hr hlocks hnm hl => ?_)
  have hC : zC p m c cX6_put 5 s args RX6 D cy := hC
  have hx := hC.1.1
  have hb := hC.1.2.1
  have hl : lv_has ls 5 [(0, .ref (ad 0)), (1, .int d), (2, .int i), (3, .int v)] := hl
  refine lv_aload_n hx hb dX6_put_0 rfl (lv_at hl 0 rfl) ?_
  refine lv_iload_n hx hb dX6_put_1 rfl (lv_at hl 1 rfl) ?_
  refine zgoi hZ hA (zrunV (As := [.int d]) (rest := []) (k := 0) hC hZ (c_X6_rowRefusal l D cy n ad F s.heap.size pic sc ps sh rd dr fa mi hn hX d) mX6_rowRefusal vX6_rowRefusal kX6_119 (zRj_of rfl) (zlt hn rfl) hX.1 rfl rfl hl.1 rfl (Nat.le_of_ble_eq_true rfl) dX6_put_2 ⟨Nat.le_refl _, Nat.le_refl _⟩) (fun r_2 F_1 hp_3 H locs hZ => ?_)
  obtain ⟨rfl, rfl⟩ := hp_3
  refine lv_istore (lv' := [(4, .int (sRowR sh d)), (0, .ref (ad 0)), (1, .int d), (2, .int i), (3, .int v)]) hx hb dX6_put_5 hl (by decide) rfl (fun ls hl => ?_)
  refine lv_iload hx hb dX6_put_7 (lv_at hl 0 rfl) ?_
  refine lv_if_eq (tgt := 15) hx hb dX6_put_9 (by decide) (fun c_9 => ?_) (fun c_9 => ?_)
  · refine lv_aload_n hx hb dX6_put_15 rfl (lv_at hl 1 rfl) ?_
    refine zget hC hZ fX6_25 (zlt hn rfl) hX.1 rfl dX6_put_16 ?_
    refine lv_iload_n hx hb dX6_put_19 rfl (lv_at hl 2 rfl) ?_
    have hs_4 := sRowR_0 c_9
    refine zaald hC hZ (zlt hn rfl) hX.2.2.2.1 (C := RX4) rfl hs_4.1.1 hs_4.1.2 (by decide) rfl dX6_put_20 ?_
    refine lv_iload_n hx hb dX6_put_21 rfl (lv_at hl 3 rfl) ?_
    refine zgoi hZ hA (zrunV (As := [.int i]) (rest := []) (k := 26 + 3 * (iN d)) hC hZ (c_X4_hasPlace l D cy n ad F H.size (26 + 3 * (iN d)) (sh (iN d)) (by have := hs_4.1.2; omega) (hX.2.2.2.2.1 (iN d) hs_4.1.2) i) mX4_hasPlace vX4_hasPlace kX6_270 (zRj_of rfl) (by have := hs_4.1.2; omega) (hX.2.2.2.2.1 (iN d) hs_4.1.2).1 rfl rfl hl.1 rfl (Nat.le_of_ble_eq_true rfl) dX6_put_22 ⟨Nat.le_refl _, Nat.le_refl _⟩) (fun r_6 F_5 hp_7 H locs hZ => ?_)
    obtain ⟨hp_7, rfl⟩ := hp_7
    by_cases b_8 : bPlace (sh (iN d)).2.2.2.1 i
    · rw [if_pos b_8] at hp_7
      subst hp_7
      refine lv_if_ne (tgt := 31) hx hb dX6_put_25 (by decide) (fun _ => ?_) (fun h => absurd h (by decide))
      refine lv_aload_n hx hb dX6_put_31 rfl (lv_at hl 1 rfl) ?_
      refine zget hC hZ fX6_25 (zlt hn rfl) hX.1 rfl dX6_put_32 ?_
      refine lv_iload_n hx hb dX6_put_35 rfl (lv_at hl 2 rfl) ?_
      refine zaald hC hZ (zlt hn rfl) hX.2.2.2.1 (C := RX4) rfl hs_4.1.1 hs_4.1.2 (by decide) rfl dX6_put_36 ?_
      refine lv_iload_n hx hb dX6_put_37 rfl (lv_at hl 3 rfl) ?_
      refine lv_iload_n hx hb dX6_put_38 rfl (lv_at hl 4 rfl) ?_
      refine zgov hZ hA (zrunV (As := [.int i, .int v]) (rest := []) (k := 26 + 3 * (iN d)) hC hZ (c_X4_change l D cy n ad F H.size (26 + 3 * (iN d)) (sh (iN d)) (by have := hs_4.1.2; omega) (hX.2.2.2.2.1 (iN d) hs_4.1.2) i v) mX4_change vX4_change kX6_273 (zRj_of rfl) (by have := hs_4.1.2; omega) (hX.2.2.2.2.1 (iN d) hs_4.1.2).1 rfl rfl hl.1 rfl (Nat.le_of_ble_eq_true rfl) dX6_put_39 ⟨Nat.le_refl _, Nat.le_refl _⟩) (fun F_9 hp_11 H locs hZ => ?_)
      rw [if_pos b_8] at hp_11
      have hsf_14 := RSh_elem (hX.2.2.2.2.1 _ hs_4.1.2) hp_11
      have hX_12 : RX ad cy F_9 pic sc ps (va_up sh (iN d) ((sh (iN d)).1, (sh (iN d)).2.1, (sh (iN d)).2.2.1, (sh (iN d)).2.2.2.1, upd (sh (iN d)).2.2.2.2 (iN i) (sNar (sh (iN d)).2.2.1 v))) rd dr fa mi := rx_shelf hs_4.1.2 hX hsf_14.1 hsf_14.2
      have hf_13 := fr56_bl fr56_rf hsf_14.2 (by have := hs_4.1.2; omega)
      refine lv_iconst (v := 0) hx hb dX6_put_42 (by decide) ?_
      have hq0 : (0 : Int32) = sPut sh d i := by unfold sPut; rw [if_pos c_9, if_pos b_8]
      have hq1 : sPutS sh d i v = (va_up sh (iN d) ((sh (iN d)).1, (sh (iN d)).2.1, (sh (iN d)).2.2.1, (sh (iN d)).2.2.2.1, upd (sh (iN d)).2.2.2.2 (iN i) (sNar (sh (iN d)).2.2.1 v))) := if_pos ⟨c_9, b_8⟩
      exact zireti hC hZ hr hlocks ⟨hq0, by rw [hq1]; exact hX_12, hf_13⟩ dX6_put_43
    · rw [if_neg b_8] at hp_7
      subst hp_7
      refine lv_if_ne (tgt := 31) hx hb dX6_put_25 (by decide) (fun h => absurd (by decide) h) (fun _ => ?_)
      refine lv_bipush (v := (-13)) hx hb dX6_put_28 (by decide) ?_
      have hq0 : (-13 : Int32) = sPut sh d i := by unfold sPut; rw [if_pos c_9, if_neg b_8]
      have hq1 : sPutS sh d i v = sh := if_neg (fun h => b_8 h.2)
      exact zireti hC hZ hr hlocks ⟨hq0, by rw [hq1]; exact hX, fr56_rf⟩ dX6_put_30
  · refine lv_iload hx hb dX6_put_12 (lv_at hl 0 rfl) ?_
    have hq0 : sRowR sh d = sPut sh d i := (if_neg c_9).symm
    have hq1 : sPutS sh d i v = sh := if_neg (fun h => c_9 h.1)
    exact zireti hC hZ hr hlocks ⟨hq0, by rw [hq1]; exact hX, fr56_rf⟩ dX6_put_14

theorem mX6_copy : zMd yX6_copy cX6_copy 9 (some .int) 5 := ⟨by decide +kernel, gt_of 603 (by decide +kernel) rfl, gt_of 44 (by decide +kernel) rfl, by decide⟩
theorem dX6_copy_0 : decode cX6_copy 0 = .ok (.aload_n 0, 1) := by decide +kernel
theorem dX6_copy_1 : decode cX6_copy 1 = .ok (.iload_n 1, 1) := by decide +kernel
theorem dX6_copy_2 : decode cX6_copy 2 = .ok (.invokevirtual 119, 3) := by decide +kernel
theorem dX6_copy_5 : decode cX6_copy 5 = .ok (.aload_n 0, 1) := by decide +kernel
theorem dX6_copy_6 : decode cX6_copy 6 = .ok (.iload_n 3, 1) := by decide +kernel
theorem dX6_copy_7 : decode cX6_copy 7 = .ok (.invokevirtual 119, 3) := by decide +kernel
theorem dX6_copy_10 : decode cX6_copy 10 = .ok (.invokestatic 207, 3) := by decide +kernel
theorem kX6_207 : zLk RX6 207 yX6_firstRefusal := Or.inl (gt_of 460 (by decide +kernel) rfl)
theorem sX6_firstRefusal : Cond.static yX6_firstRefusal ∈ gtbl := gt_of 461 (by decide +kernel) rfl
theorem dX6_copy_13 : decode cX6_copy 13 = .ok (.istore 6, 2) := by decide +kernel
theorem dX6_copy_15 : decode cX6_copy 15 = .ok (.iload 6, 2) := by decide +kernel
theorem dX6_copy_17 : decode cX6_copy 17 = .ok (.ifCond .eq 6, 3) := by decide +kernel
theorem dX6_copy_23 : decode cX6_copy 23 = .ok (.aload_n 0, 1) := by decide +kernel
theorem dX6_copy_24 : decode cX6_copy 24 = .ok (.getfield 25, 3) := by decide +kernel
theorem dX6_copy_27 : decode cX6_copy 27 = .ok (.iload_n 1, 1) := by decide +kernel
theorem dX6_copy_28 : decode cX6_copy 28 = .ok (.aaload, 1) := by decide +kernel
theorem dX6_copy_29 : decode cX6_copy 29 = .ok (.astore 7, 2) := by decide +kernel
theorem dX6_copy_31 : decode cX6_copy 31 = .ok (.aload_n 0, 1) := by decide +kernel
theorem dX6_copy_32 : decode cX6_copy 32 = .ok (.getfield 25, 3) := by decide +kernel
theorem dX6_copy_35 : decode cX6_copy 35 = .ok (.iload_n 3, 1) := by decide +kernel
theorem dX6_copy_36 : decode cX6_copy 36 = .ok (.aaload, 1) := by decide +kernel
theorem dX6_copy_37 : decode cX6_copy 37 = .ok (.astore 8, 2) := by decide +kernel
theorem dX6_copy_39 : decode cX6_copy 39 = .ok (.aload 7, 2) := by decide +kernel
theorem dX6_copy_41 : decode cX6_copy 41 = .ok (.getfield 122, 3) := by decide +kernel
theorem fX6_122 : zFld RX6 122 4 2 := ⟨RX4, TX4, 5, rfl, inX4, by decide, rfl, Or.inr ⟨"ChainLeap", List.mem_of_getElem? (i := 181) (by decide +kernel)⟩⟩
theorem dX6_copy_44 : decode cX6_copy 44 = .ok (.aload 8, 2) := by decide +kernel
theorem dX6_copy_46 : decode cX6_copy 46 = .ok (.getfield 122, 3) := by decide +kernel
theorem dX6_copy_49 : decode cX6_copy 49 = .ok (.if_icmp .eq 6, 3) := by decide +kernel
theorem dX6_copy_55 : decode cX6_copy 55 = .ok (.aload 7, 2) := by decide +kernel
theorem dX6_copy_57 : decode cX6_copy 57 = .ok (.iload_n 2, 1) := by decide +kernel
theorem dX6_copy_58 : decode cX6_copy 58 = .ok (.iload 5, 2) := by decide +kernel
theorem dX6_copy_60 : decode cX6_copy 60 = .ok (.invokevirtual 288, 3) := by decide +kernel
theorem kX6_288 : zLk RX6 288 yX4_hasStretch := Or.inl (gt_of 604 (by decide +kernel) rfl)
theorem vX4_hasStretch : zMi yX4_hasStretch := ⟨gt_of 605 (by decide +kernel) rfl, gt_of 606 (by decide +kernel) rfl⟩
theorem dX6_copy_63 : decode cX6_copy 63 = .ok (.ifCond .eq 15, 3) := by decide +kernel
theorem dX6_copy_66 : decode cX6_copy 66 = .ok (.aload 8, 2) := by decide +kernel
theorem dX6_copy_68 : decode cX6_copy 68 = .ok (.iload 4, 2) := by decide +kernel
theorem dX6_copy_70 : decode cX6_copy 70 = .ok (.iload 5, 2) := by decide +kernel
theorem dX6_copy_72 : decode cX6_copy 72 = .ok (.invokevirtual 288, 3) := by decide +kernel
theorem dX6_copy_75 : decode cX6_copy 75 = .ok (.ifCond .ne 6, 3) := by decide +kernel
theorem dX6_copy_81 : decode cX6_copy 81 = .ok (.aload 7, 2) := by decide +kernel
theorem dX6_copy_83 : decode cX6_copy 83 = .ok (.getfield 291, 3) := by decide +kernel
theorem fX6_291 : zFld RX6 291 4 4 := ⟨RX4, TX4, 5, rfl, inX4, by decide, rfl, Or.inr ⟨"ChainLeap", List.mem_of_getElem? (i := 186) (by decide +kernel)⟩⟩
theorem dX6_copy_86 : decode cX6_copy 86 = .ok (.iload_n 2, 1) := by decide +kernel
theorem dX6_copy_87 : decode cX6_copy 87 = .ok (.aload 8, 2) := by decide +kernel
theorem dX6_copy_89 : decode cX6_copy 89 = .ok (.getfield 291, 3) := by decide +kernel
theorem dX6_copy_92 : decode cX6_copy 92 = .ok (.iload 4, 2) := by decide +kernel
theorem dX6_copy_94 : decode cX6_copy 94 = .ok (.iload 5, 2) := by decide +kernel
theorem dX6_copy_96 : decode cX6_copy 96 = .ok (.invokestatic 295, 3) := by decide +kernel
theorem dX6_copy_99 : decode cX6_copy 99 = .ok (.iload 5, 2) := by decide +kernel
theorem dX6_copy_101 : decode cX6_copy 101 = .ok (.ireturn, 1) := by decide +kernel
theorem dX6_copy_78 : decode cX6_copy 78 = .ok (.bipush (-13), 2) := by decide +kernel
theorem dX6_copy_80 : decode cX6_copy 80 = .ok (.ireturn, 1) := by decide +kernel
theorem dX6_copy_52 : decode cX6_copy 52 = .ok (.bipush (-12), 2) := by decide +kernel
theorem dX6_copy_54 : decode cX6_copy 54 = .ok (.ireturn, 1) := by decide +kernel
theorem dX6_copy_20 : decode cX6_copy 20 = .ok (.iload 6, 2) := by decide +kernel
theorem dX6_copy_22 : decode cX6_copy 22 = .ok (.ireturn, 1) := by decide +kernel
set_option maxRecDepth 100000 in
theorem c_X6_copy (l : Launch) (D : va_G) (cy : Nat → Nat) (n : Nat) (ad : Nat → Nat) (F : Nat → va_E) (sz : Nat) (pic : Int32) (sc ps : Scn) (sh : Nat → Shf) (rd : Rdr) (dr : Stg) (fa : Tal) (mi : Crs) (hn : 56 ≤ n) (hX : RX ad cy F pic sc ps sh rd dr fa mi) (hG : gX sc ps sh) (d i e0 j q : Int32) : Met l yX6_copy (zw yX6_copy cX6_copy 9 (some .int)) (rmL 2) (zPc D cy n ad F sz [.ref (ad 0), .int d, .int i, .int e0, .int j, .int q]) (va_Qi (fun r F1 => r = sCopy sh d i e0 j q ∧ RX ad cy F1 pic sc ps (sCopyS sh d i e0 j q) rd dr fa mi ∧ fr56 F F1) (zB D n ad) (zA n ad sz)) 0 0 (zA n ad sz) := by
  refine zmet (by decide +kernel) (Nat.le_of_ble_eq_true rfl) (fun p e s m args below meth c ls hC hsz hZ hA hr hlocks hnm hl => ?_)
  have hC : zC p m c cX6_copy 9 s args RX6 D cy := hC
  have hx := hC.1.1
  have hb := hC.1.2.1
  have hl : lv_has ls 9 [(0, .ref (ad 0)), (1, .int d), (2, .int i), (3, .int e0), (4, .int j), (5, .int q)] := hl
  refine lv_aload_n hx hb dX6_copy_0 rfl (lv_at hl 0 rfl) ?_
  refine lv_iload_n hx hb dX6_copy_1 rfl (lv_at hl 1 rfl) ?_
  refine zgoi hZ hA (zrunV (As := [.int d]) (rest := []) (k := 0) hC hZ (c_X6_rowRefusal l D cy n ad F s.heap.size pic sc ps sh rd dr fa mi hn hX d) mX6_rowRefusal vX6_rowRefusal kX6_119 (zRj_of rfl) (zlt hn rfl) hX.1 rfl rfl hl.1 rfl (Nat.le_of_ble_eq_true rfl) dX6_copy_2 ⟨Nat.le_refl _, Nat.le_refl _⟩) (fun r_2 F_1 hp_3 H locs hZ => ?_)
  obtain ⟨rfl, rfl⟩ := hp_3
  refine lv_aload_n hx hb dX6_copy_5 rfl (lv_at hl 0 rfl) ?_
  refine lv_iload_n hx hb dX6_copy_6 rfl (lv_at hl 3 rfl) ?_
  refine zgoi hZ hA (zrunV (As := [.int e0]) (rest := [.int (sRowR sh d)]) (k := 0) hC hZ (c_X6_rowRefusal l D cy n ad F H.size pic sc ps sh rd dr fa mi hn hX e0) mX6_rowRefusal vX6_rowRefusal kX6_119 (zRj_of rfl) (zlt hn rfl) hX.1 rfl rfl hl.1 rfl (Nat.le_of_ble_eq_true rfl) dX6_copy_7 ⟨Nat.le_refl _, Nat.le_refl _⟩) (fun r_5 F_4 hp_6 H locs hZ => ?_)
  obtain ⟨rfl, rfl⟩ := hp_6
  refine zgoi hZ hA (zrunS (As := [.int (sRowR sh d), .int (sRowR sh e0)]) (rest := []) hC hZ (c_X6_firstRefusal l D cy n ad F H.size (sRowR sh d) (sRowR sh e0)) mX6_firstRefusal sX6_firstRefusal kX6_207 (zRj_of rfl) rfl hl.1 rfl (Nat.le_of_ble_eq_true rfl) dX6_copy_10 ⟨Nat.le_refl _, Nat.le_refl _⟩) (fun r_8 F_7 hp_9 H locs hZ => ?_)
  obtain ⟨rfl, rfl⟩ := hp_9
  refine lv_istore (lv' := [(6, .int (sFirst (sRowR sh d) (sRowR sh e0))), (0, .ref (ad 0)), (1, .int d), (2, .int i), (3, .int e0), (4, .int j), (5, .int q)]) hx hb dX6_copy_13 hl (by decide) rfl (fun ls hl => ?_)
  refine lv_iload hx hb dX6_copy_15 (lv_at hl 0 rfl) ?_
  refine lv_if_eq (tgt := 23) hx hb dX6_copy_17 (by decide) (fun c_17 => ?_) (fun c_17 => ?_)
  · refine lv_aload_n hx hb dX6_copy_23 rfl (lv_at hl 1 rfl) ?_
    refine zget hC hZ fX6_25 (zlt hn rfl) hX.1 rfl dX6_copy_24 ?_
    refine lv_iload_n hx hb dX6_copy_27 rfl (lv_at hl 2 rfl) ?_
    have hz := sFirst_0 (sRowR_le sh d) (sRowR_le sh e0) c_17
    have hsd := sRowR_0 hz.1
    have hse := sRowR_0 hz.2
    refine zaald hC hZ (zlt hn rfl) hX.2.2.2.1 (C := RX4) rfl hsd.1.1 hsd.1.2 (by decide) rfl dX6_copy_28 ?_
    refine lv_astore (lv' := [(7, .ref (ad (26 + 3 * (iN d)))), (6, .int (sFirst (sRowR sh d) (sRowR sh e0))), (0, .ref (ad 0)), (1, .int d), (2, .int i), (3, .int e0), (4, .int j), (5, .int q)]) hx hb dX6_copy_29 hl (by decide) rfl (fun ls hl => ?_)
    refine lv_aload_n hx hb dX6_copy_31 rfl (lv_at hl 2 rfl) ?_
    refine zget hC hZ fX6_25 (zlt hn rfl) hX.1 rfl dX6_copy_32 ?_
    refine lv_iload_n hx hb dX6_copy_35 rfl (lv_at hl 5 rfl) ?_
    refine zaald hC hZ (zlt hn rfl) hX.2.2.2.1 (C := RX4) rfl hse.1.1 hse.1.2 (by decide) rfl dX6_copy_36 ?_
    refine lv_astore (lv' := [(8, .ref (ad (26 + 3 * (iN e0)))), (7, .ref (ad (26 + 3 * (iN d)))), (6, .int (sFirst (sRowR sh d) (sRowR sh e0))), (0, .ref (ad 0)), (1, .int d), (2, .int i), (3, .int e0), (4, .int j), (5, .int q)]) hx hb dX6_copy_37 hl (by decide) rfl (fun ls hl => ?_)
    refine lv_aload hx hb dX6_copy_39 (lv_at hl 1 rfl) ?_
    refine zget hC hZ fX6_122 (by have := hsd.1.2; omega) (hX.2.2.2.2.1 (iN d) hsd.1.2).1 rfl dX6_copy_41 ?_
    refine lv_aload hx hb dX6_copy_44 (lv_at hl 0 rfl) ?_
    refine zget hC hZ fX6_122 (by have := hse.1.2; omega) (hX.2.2.2.2.1 (iN e0) hse.1.2).1 rfl dX6_copy_46 ?_
    refine lv_icmp_eq (tgt := 55) hx hb dX6_copy_49 (by decide) (fun c_49 => ?_) (fun c_49 => ?_)
    · refine lv_aload hx hb dX6_copy_55 (lv_at hl 1 rfl) ?_
      refine lv_iload_n hx hb dX6_copy_57 rfl (lv_at hl 5 rfl) ?_
      refine lv_iload hx hb dX6_copy_58 (lv_at hl 8 rfl) ?_
      refine zgoi hZ hA (zrunV (As := [.int i, .int q]) (rest := []) (k := 26 + 3 * (iN d)) hC hZ (c_X4_hasStretch l D cy n ad F H.size (26 + 3 * (iN d)) (sh (iN d)) (by have := hsd.1.2; omega) (hX.2.2.2.2.1 (iN d) hsd.1.2) i q) mX4_hasStretch vX4_hasStretch kX6_288 (zRj_of rfl) (by have := hsd.1.2; omega) (hX.2.2.2.2.1 (iN d) hsd.1.2).1 rfl rfl hl.1 rfl (Nat.le_of_ble_eq_true rfl) dX6_copy_60 ⟨Nat.le_refl _, Nat.le_refl _⟩) (fun r_11 F_10 hp_12 H locs hZ => ?_)
      obtain ⟨hp_12, rfl⟩ := hp_12
      by_cases b_13 : bStretch (sh (iN d)).2.2.2.1 i q
      · rw [if_pos b_13] at hp_12
        subst hp_12
        refine lv_if_eq (tgt := 78) hx hb dX6_copy_63 (by decide) (fun h => absurd h (by decide)) (fun _ => ?_)
        refine lv_aload hx hb dX6_copy_66 (lv_at hl 0 rfl) ?_
        refine lv_iload hx hb dX6_copy_68 (lv_at hl 7 rfl) ?_
        refine lv_iload hx hb dX6_copy_70 (lv_at hl 8 rfl) ?_
        refine zgoi hZ hA (zrunV (As := [.int j, .int q]) (rest := []) (k := 26 + 3 * (iN e0)) hC hZ (c_X4_hasStretch l D cy n ad F H.size (26 + 3 * (iN e0)) (sh (iN e0)) (by have := hse.1.2; omega) (hX.2.2.2.2.1 (iN e0) hse.1.2) j q) mX4_hasStretch vX4_hasStretch kX6_288 (zRj_of rfl) (by have := hse.1.2; omega) (hX.2.2.2.2.1 (iN e0) hse.1.2).1 rfl rfl hl.1 rfl (Nat.le_of_ble_eq_true rfl) dX6_copy_72 ⟨Nat.le_refl _, Nat.le_refl _⟩) (fun r_15 F_14 hp_16 H locs hZ => ?_)
        obtain ⟨hp_16, rfl⟩ := hp_16
        by_cases b_17 : bStretch (sh (iN e0)).2.2.2.1 j q
        · rw [if_pos b_17] at hp_16
          subst hp_16
          refine lv_if_ne (tgt := 81) hx hb dX6_copy_75 (by decide) (fun _ => ?_) (fun h => absurd h (by decide))
          refine lv_aload hx hb dX6_copy_81 (lv_at hl 1 rfl) ?_
          refine zget hC hZ fX6_291 (by have := hsd.1.2; omega) (hX.2.2.2.2.1 (iN d) hsd.1.2).1 rfl dX6_copy_83 ?_
          refine lv_iload_n hx hb dX6_copy_86 rfl (lv_at hl 5 rfl) ?_
          refine lv_aload hx hb dX6_copy_87 (lv_at hl 0 rfl) ?_
          refine zget hC hZ fX6_291 (by have := hse.1.2; omega) (hX.2.2.2.2.1 (iN e0) hse.1.2).1 rfl dX6_copy_89 ?_
          refine lv_iload hx hb dX6_copy_92 (lv_at hl 7 rfl) ?_
          refine lv_iload hx hb dX6_copy_94 (lv_at hl 8 rfl) ?_
          have hgd := hG.2.2 _ hsd.1.2
          have hge := hG.2.2 _ hse.1.2
          have hbi := bStretch_in b_13 hgd.2.1 hgd.2.2.1
          have hbj := bStretch_in b_17 hge.2.1 hge.2.2.1
          refine zcopy (rest := []) (k0 := 26 + 3 * (iN d) + 2) (k1 := 26 + 3 * (iN e0) + 2) hC hZ (gt_of 608 (by decide +kernel) rfl) (gt_of 610 (by decide +kernel) rfl) (gt_of 609 (by decide +kernel) rfl) (gt_of 58 (by decide +kernel) rfl) hl.1 (by have := hsd.1.2; omega) (by have := hse.1.2; omega) (hX.2.2.2.2.1 (iN d) hsd.1.2).2.2 (hX.2.2.2.2.1 (iN e0) hse.1.2).2.2 hbi.1 hbj.1 hbi.2.1 hbi.2.2 hbj.2.2 (zRj_of rfl) (by decide) dX6_copy_96 (fun F_18 hF_19 H locs hZ => ?_)
          have hsf_22 := RSh_elem (hX.2.2.2.2.1 _ hse.1.2) hF_19
          have hX_20 : RX ad cy F_18 pic sc ps (va_up sh (iN e0) ((sh (iN e0)).1, (sh (iN e0)).2.1, (sh (iN e0)).2.2.1, (sh (iN e0)).2.2.2.1, va_cpy (sh (iN d)).2.2.2.2 (sh (iN e0)).2.2.2.2 (iN i) (iN j) (iN q))) rd dr fa mi := rx_shelf hse.1.2 hX hsf_22.1 hsf_22.2
          have hf_21 := fr56_bl fr56_rf hsf_22.2 (by have := hse.1.2; omega)
          refine lv_iload hx hb dX6_copy_99 (lv_at hl 8 rfl) ?_
          have hq0 : q = sCopy sh d i e0 j q := by unfold sCopy; rw [if_pos c_17, if_pos c_49, if_pos ⟨b_13, b_17⟩]
          have hq1 : sCopyS sh d i e0 j q = (va_up sh (iN e0) ((sh (iN e0)).1, (sh (iN e0)).2.1, (sh (iN e0)).2.2.1, (sh (iN e0)).2.2.2.1, va_cpy (sh (iN d)).2.2.2.2 (sh (iN e0)).2.2.2.2 (iN i) (iN j) (iN q))) := if_pos ⟨c_17, c_49, b_13, b_17⟩
          exact zireti hC hZ hr hlocks ⟨hq0, by rw [hq1]; exact hX_20, hf_21⟩ dX6_copy_101
        · rw [if_neg b_17] at hp_16
          subst hp_16
          refine lv_if_ne (tgt := 81) hx hb dX6_copy_75 (by decide) (fun h => absurd (by decide) h) (fun _ => ?_)
          refine lv_bipush (v := (-13)) hx hb dX6_copy_78 (by decide) ?_
          have hq0 : (-13 : Int32) = sCopy sh d i e0 j q := by unfold sCopy; rw [if_pos c_17, if_pos c_49, if_neg (fun h => b_17 h.2)]
          have hq1 : sCopyS sh d i e0 j q = sh := if_neg (fun h => b_17 h.2.2.2)
          exact zireti hC hZ hr hlocks ⟨hq0, by rw [hq1]; exact hX, fr56_rf⟩ dX6_copy_80
      · rw [if_neg b_13] at hp_12
        subst hp_12
        refine lv_if_eq (tgt := 78) hx hb dX6_copy_63 (by decide) (fun _ => ?_) (fun h => absurd (by decide) h)
        refine lv_bipush (v := (-13)) hx hb dX6_copy_78 (by decide) ?_
        have hq0 : (-13 : Int32) = sCopy sh d i e0 j q := by unfold sCopy; rw [if_pos c_17, if_pos c_49, if_neg (fun h => b_13 h.1)]
        have hq1 : sCopyS sh d i e0 j q = sh := if_neg (fun h => b_13 h.2.2.1)
        exact zireti hC hZ hr hlocks ⟨hq0, by rw [hq1]; exact hX, fr56_rf⟩ dX6_copy_80
    · refine lv_bipush (v := (-12)) hx hb dX6_copy_52 (by decide) ?_
      have hq0 : (-12 : Int32) = sCopy sh d i e0 j q := by unfold sCopy; rw [if_pos c_17, if_neg c_49]
      have hq1 : sCopyS sh d i e0 j q = sh := if_neg (fun h => c_49 h.2.1)
      exact zireti hC hZ hr hlocks ⟨hq0, by rw [hq1]; exact hX, fr56_rf⟩ dX6_copy_54
  · refine lv_iload hx hb dX6_copy_20 (lv_at hl 0 rfl) ?_
    have hq0 : (sFirst (sRowR sh d) (sRowR sh e0)) = sCopy sh d i e0 j q := (if_neg c_17).symm
    have hq1 : sCopyS sh d i e0 j q = sh := if_neg (fun h => c_17 h.1)
    exact zireti hC hZ hr hlocks ⟨hq0, by rw [hq1]; exact hX, fr56_rf⟩ dX6_copy_22
end
section
section ZAB
variable {p : Program} {l : Launch} {e : Env} {R : Room} {s : State} {m : MethodId} {args : Array Value} {below : List Frame} {meth : Method} {c : Code} {H : Heap} {locs : List Loc} {cells slots : Nat} {Q : State → Prop}
variable {cc : ByteArray} {nL pc : Nat} {ls : Array Slot} {rest : List Value} {D : va_G} {cy : Nat → Nat} {own : String}
theorem zabsl (hC : zC p m c cc nL s args own D cy) {index : Nat} (hm : zMath own index Lib.MathLoose.abs_long.x Lib.MathLoose.abs_long.code 2 (some .long)) (hsize : ls.size = nL) (hR : zRj R 0) (hW : (rest.map fun v => v.category).sum ≤ 8) (hf : cells ≤ R.cells ∧ slots ≤ R.slots) {x : Int64} (hd : decode cc pc = .ok (.invokestatic index, 3))
    (kk : W p l e R s m args below meth c H locs cells slots Q (F0 m (pc + 3) ls (.long (if 0 < x then x else -x) :: rest))) : W p l e R s m args below meth c H locs cells slots Q (F0 m pc ls (.long x :: rest)) := by
  obtain ⟨⟨hx0, hb, hml, hown, hts⟩, hK, hNN⟩ := hC
  exact va_mabs_long hx0 hb (by rw [hml, hsize]) hown (hts _ hm.1) (hts _ hm.2.1) (hts _ hm.2.2.1) (hts _ hm.2.2.2) (by have := hR.1; omega) (by have := hR.2; omega) hf.1 hf.2 hd kk
end ZAB
abbrev bRun (d q : Int32) : Prop := bSh d ∧ bIn q 1 500
def sRunC (sc : Scn) (sh : Nat → Shf) (d q : Int32) : Crs := sIt (sF (sh (iN d)).2.1 sc) (iN q) sc.2.2.2.2
def sRun (sc : Scn) (sh : Nat → Shf) (d q : Int32) : Int32 := if bRun d q then (if sc.2.2.2.2.1 + q ≤ 9999 then (if sStR sh d = 0 then (sRunC sc sh d q).1 else sStR sh d) else -2) else -1
def sRunS (sc : Scn) (sh : Nat → Shf) (d q : Int32) : Scn := if bRun d q ∧ sc.2.2.2.2.1 + q ≤ 9999 ∧ sStR sh d = 0 then (sc.1, sc.2.1, sc.2.2.1, sc.2.2.2.1, sRunC sc sh d q) else sc
def sAbs (x : Int32) : Int32 := if 0 ≤ x then x else 0 - x
def sUnl (t u : Tal) (b : Stg) : Int32 := if sArchAt t b 0 < 0 ∨ sArchAt u b 0 < 0 then -4 else sAbs (sArchAt t b 0 - sArchAt u b 0)
def sPartF (t u : Tal) (tr : Nat → Stg) : Nat → Int32 × Int32 → Int32 × Int32 := fun i p => if p.1 < sUnl t u (tr i) then (sUnl t u (tr i), nI i) else p
def sParts (t u : Tal) (sc : Scn) (what : Int32) : Int32 := if what = 0 then (zfold (sPartF t u sc.2.2.1) (iN sc.2.2.2.1) (-4, -4)).2 else (zfold (sPartF t u sc.2.2.1) (iN sc.2.2.2.1) (-4, -4)).1
def lAbs (x : Int64) : Int64 := if 0 < x then x else -x
abbrev bNear (told seen off : Int32) : Prop := 0 ≤ told ∧ lAbs (told.toInt64 - seen.toInt64) ≤ off.toInt64
abbrev bFit (t : Tal) (so z : Int32) (el : Nat → Int32) (tr : Nat → Stg) (off : Int32) (i : Nat) : Prop := ¬ (bTells so z el (nI i) ∧ ¬ bNear (sArchAt t (tr i) 0) (sAt z el (nI i)) off)
abbrev bFits (t : Tal) (sf : Shf) (sc : Scn) (off : Int32) : Prop := ∀ i, i < iN sc.2.2.2.1 → bFit t sf.2.2.1 sf.2.2.2.1 sf.2.2.2.2 sc.2.2.1 off i
def sFilmR (sc : Scn) (sh : Nat → Shf) (d : Int32) : Int32 := if sRowR sh d = 0 then (if (sh (iN d)).2.2.2.1 = sc.2.2.2.1 then 0 else -13) else sRowR sh d
theorem sFilmR_0 {sc : Scn} {sh : Nat → Shf} {d : Int32} (h : sFilmR sc sh d = 0) : (d = nI (iN d) ∧ iN d < 8) ∧ (sh (iN d)).1 = 2 := by
  unfold sFilmR at h
  by_cases h1 : sRowR sh d = 0
  · exact sRowR_0 h1
  · rw [if_neg h1] at h; exact absurd h h1
def sFilmF (sc : Scn) (sf : Shf) (fg off : Int32) : Nat → Int32 → Int32 := fun k b => if bFits (nI k, fg) sf sc off then b ||| (1 <<< (nI k &&& 31)) else b
def sNumF (sc : Scn) (sf : Shf) (kd off : Int32) : Nat → Int32 × Int32 × Int32 → Int32 × Int32 × Int32 := fun i p => if bFits (kd, nI i) sf sc off then ((if p.2.2 = 0 then nI i else p.1), nI i, p.2.2 + 1) else p
def sNumbers (sc : Scn) (sf : Shf) (kd off what : Int32) : Int32 := if what = 2 then (zfold (sNumF sc sf kd off) 41 (-4, -4, 0)).2.2 else if what = 0 then (zfold (sNumF sc sf kd off) 41 (-4, -4, 0)).1 else (zfold (sNumF sc sf kd off) 41 (-4, -4, 0)).2.1
def sMostB (b : Stg) (k : Nat) : Stg := (nI (10 * (k / 11)), nI (10 * (k % 11)), b.2.2)
def sMostF (t : Tal) (b : Stg) : Nat → Int32 × Int32 → Int32 × Int32 := fun k p => if p.1 < sArchAt t (sMostB b k) 0 then (sArchAt t (sMostB b k) 0, nI (10 * (k / 11)) * 1000 + nI (10 * (k % 11))) else p
def sMost (t : Tal) (b : Stg) : Int32 := (zfold (sMostF t b) 121 (-4, -4)).2
def sLayB (b : Stg) (k : Nat) : Stg := (b.1, b.2.1, nI k, b.2.2.2)
def sLayF (t : Tal) (b : Stg) : Nat → Int32 × Int32 → Int32 × Int32 := fun k p => if p.1 < sArchAt t (sLayB b k) 0 then (sArchAt t (sLayB b k) 0, nI k) else p
def sLays (t : Tal) (b : Stg) : Int32 := (zfold (sLayF t b) 3 (-4, -4)).2
abbrev sFM (t : Tal) (sc : Scn) (more : Int32) : Crs → Crs := sStep (sKick t sc.1) (sLess t sc.1 - more) sc.1.2.2.2 sc.2.1
def sPB (t : Tal) (sc : Scn) (more : Int32) (q : Nat) : Crs := sIt (sFM t sc more) q sCC
def zrA (b : Prop) [Decidable b] (rf v : Int32) : Int32 := if b then (if rf = 0 then v else -1000000000 + rf) else -1000000000 + -1
theorem zrA_no {b : Prop} [Decidable b] {rf v : Int32} (h : ¬ b) : zrA b rf v = -1000000000 + -1 := if_neg h
theorem zrA_rf {b : Prop} [Decidable b] {rf v : Int32} (h : b) (h2 : ¬ rf = 0) : zrA b rf v = -1000000000 + rf := (if_pos h).trans (if_neg h2)
theorem zrA_ok {b : Prop} [Decidable b] {rf v : Int32} (h : b) (h2 : rf = 0) : zrA b rf v = v := (if_pos h).trans (if_pos h2)
def sRestP (t : Tal) (sc : Scn) (k : Nat) : Bool := decide ((sIt (sF t sc) (k + 1) sCC).2.1 = (sIt (sF t sc) k sCC).2.1 ∧ (sIt (sF t sc) (k + 1) sCC).2.2.1 = (sIt (sF t sc) k sCC).2.2.1)
def sRested (t : Tal) (sc : Scn) : Int32 := zfind (sRestP t sc) 500 1
def sWhenP (t : Tal) (sc : Scn) (k : Nat) : Bool := decide (sc.2.1 ≤ (sIt (sF t sc) k sCC).2.2.2.1)
def sWhen (t : Tal) (sc : Scn) : Int32 := zfind (sWhenP t sc) 2000 1
def sJudP (t : Tal) (sc : Scn) (sf : Shf) (i : Nat) : Bool := decide (bTells sf.2.2.1 sf.2.2.2.1 sf.2.2.2.2 (nI i) ∧ ¬ sAt sf.2.2.2.1 sf.2.2.2.2 (nI i) = (sIt (sF t sc) (i + 1) sCC).2.1)
def sJudge (t : Tal) (sc : Scn) (sf : Shf) : Int32 := zfind (sJudP t sc sf) (iN sf.2.2.2.1) 0
def sScale (t : Tal) (sc : Scn) (q : Int32) : Int32 := (sc.2.1 - (sPB t sc 0 (iN q)).2.2.2.1) * 2 + (sPB t sc 0 (iN q)).2.1 * (sPB t sc 0 (iN q)).2.1 * sKick t sc.1 / 10000
theorem zfind_hit {P : Nat → Bool} {f g i : Nat} (hf : g = f + 1) (h : P i = true) : zfind P g i = nI i := by subst hf; exact if_pos h
theorem zfind_next {P : Nat → Bool} {f g i : Nat} (hf : g = f + 1) (h : ¬ P i = true) : zfind P g i = zfind P f (i + 1) := by subst hf; exact if_neg h
theorem gTn {k : Nat} {f : Int32} (hk : k ≤ 7) (hf : bIn f 0 40) : gT (nI k, f) := by
  have a := i32le.mp hf.1
  have b := i32le.mp hf.2
  have e0 : (0 : Int32).toInt = 0 := rfl
  have e4 : (40 : Int32).toInt = 40 := rfl
  refine ⟨?_, ?_, ?_, ?_⟩
  · show 0 ≤ (nI k).toInt; rw [nI_toInt (by omega)]; omega
  · show (nI k).toInt ≤ 7; rw [nI_toInt (by omega)]; omega
  · show 0 ≤ f.toInt; omega
  · show f.toInt ≤ 40; omega
theorem gTm {i : Nat} {kd : Int32} (hi : i ≤ 40) (hk : bIn kd 0 7) : gT (kd, nI i) := by
  have a := i32le.mp hk.1
  have b := i32le.mp hk.2
  have e0 : (0 : Int32).toInt = 0 := rfl
  have e4 : (7 : Int32).toInt = 7 := rfl
  refine ⟨?_, ?_, ?_, ?_⟩
  · show 0 ≤ kd.toInt; omega
  · show kd.toInt ≤ 7; omega
  · show 0 ≤ (nI i).toInt; rw [nI_toInt (by omega)]; omega
  · show (nI i).toInt ≤ 40; rw [nI_toInt (by omega)]; omega
theorem gSm {b : Stg} {x y : Nat} (h : gS b) (hx : x ≤ 100) (hy : y ≤ 100) : gS (nI x, nI y, b.2.2) := by
  obtain ⟨_, _, _, _, h5, h6, h7, h8⟩ := h
  refine ⟨?_, ?_, ?_, ?_, h5, h6, h7, h8⟩
  · show 0 ≤ (nI x).toInt; rw [nI_toInt (by omega)]; omega
  · show (nI x).toInt ≤ 100; rw [nI_toInt (by omega)]; omega
  · show 0 ≤ (nI y).toInt; rw [nI_toInt (by omega)]; omega
  · show (nI y).toInt ≤ 100; rw [nI_toInt (by omega)]; omega
theorem gSl {b : Stg} {x : Nat} (h : gS b) (hx : x ≤ 2) : gS (b.1, b.2.1, nI x, b.2.2.2) := by
  obtain ⟨h1, h2, h3, h4, h5, h6, h7, h8⟩ := h
  refine ⟨h1, h2, h3, h4, ?_, ?_, h7, h8⟩
  · show 0 ≤ (nI x).toInt; rw [nI_toInt (by omega)]; omega
  · show (nI x).toInt ≤ 2; rw [nI_toInt (by omega)]; omega
theorem tc_n {sc : Scn} (h : gScn sc) : sc.2.2.2.1 = nI (iN sc.2.2.2.1) ∧ iN sc.2.2.2.1 ≤ 8 := iN_b h.2.2.2.2.1 h.2.2.2.2.2.1
theorem zge {x : Int32} {m i : Nat} (hx : x = nI m) (hm : m < 2 ^ 31) (hi : i ≤ m) (h : x ≤ nI i) : i = m := by
  rcases Nat.lt_or_ge i m with q | q
  · rw [hx] at h; exact absurd h (nI_ge q hm)
  · omega
theorem zlt2 {x : Int32} {m i : Nat} (hx : x = nI m) (hi : i < 2 ^ 31) (h : ¬ x ≤ nI i) : i < m := by
  rcases Nat.lt_or_ge i m with q | q
  · exact q
  · rw [hx] at h; exact absurd (nI_le q hi) h
theorem bIn_n {q lo hi : Int32} {N : Nat} (h : bIn q lo hi) (hlo : 0 ≤ lo.toInt) (hhi : hi.toInt = (N : Int)) : q = nI (iN q) ∧ iN q ≤ N :=
  iN_b (by have := i32le.mp h.1; omega) (by have := i32le.mp h.2; omega)
end
section
theorem mX6_run : zMd yX6_run cX6_run 5 (some .int) 2 := ⟨by decide +kernel, gt_of 398 (by decide +kernel) rfl, gt_of 44 (by decide +kernel) rfl, by decide⟩
theorem dX6_run_0 : decode cX6_run 0 = .ok (.iload_n 1, 1) := by decide +kernel
theorem dX6_run_1 : decode cX6_run 1 = .ok (.invokestatic 61, 3) := by decide +kernel
theorem dX6_run_4 : decode cX6_run 4 = .ok (.ifCond .eq 14, 3) := by decide +kernel
theorem dX6_run_7 : decode cX6_run 7 = .ok (.iload_n 2, 1) := by decide +kernel
theorem dX6_run_8 : decode cX6_run 8 = .ok (.iconst 1, 1) := by decide +kernel
theorem dX6_run_9 : decode cX6_run 9 = .ok (.sipush 500, 3) := by decide +kernel
theorem dX6_run_12 : decode cX6_run 12 = .ok (.invokestatic 115, 3) := by decide +kernel
theorem dX6_run_15 : decode cX6_run 15 = .ok (.ifCond .ne 5, 3) := by decide +kernel
theorem dX6_run_20 : decode cX6_run 20 = .ok (.aload_n 0, 1) := by decide +kernel
theorem dX6_run_21 : decode cX6_run 21 = .ok (.getfield 10, 3) := by decide +kernel
theorem dX6_run_24 : decode cX6_run 24 = .ok (.getfield 86, 3) := by decide +kernel
theorem dX6_run_27 : decode cX6_run 27 = .ok (.getfield 177, 3) := by decide +kernel
theorem dX6_run_30 : decode cX6_run 30 = .ok (.iload_n 2, 1) := by decide +kernel
theorem dX6_run_31 : decode cX6_run 31 = .ok (.iadd, 1) := by decide +kernel
theorem dX6_run_32 : decode cX6_run 32 = .ok (.sipush 9999, 3) := by decide +kernel
theorem dX6_run_35 : decode cX6_run 35 = .ok (.if_icmp .le 6, 3) := by decide +kernel
theorem dX6_run_41 : decode cX6_run 41 = .ok (.aload_n 0, 1) := by decide +kernel
theorem dX6_run_42 : decode cX6_run 42 = .ok (.iload_n 1, 1) := by decide +kernel
theorem dX6_run_43 : decode cX6_run 43 = .ok (.invokevirtual 160, 3) := by decide +kernel
theorem dX6_run_46 : decode cX6_run 46 = .ok (.istore_n 3, 1) := by decide +kernel
theorem dX6_run_47 : decode cX6_run 47 = .ok (.iload_n 3, 1) := by decide +kernel
theorem dX6_run_48 : decode cX6_run 48 = .ok (.ifCond .eq 5, 3) := by decide +kernel
theorem dX6_run_53 : decode cX6_run 53 = .ok (.iconst 0, 1) := by decide +kernel
theorem dX6_run_54 : decode cX6_run 54 = .ok (.istore 4, 2) := by decide +kernel
theorem dX6_run_56 : decode cX6_run 56 = .ok (.iload 4, 2) := by decide +kernel
theorem dX6_run_58 : decode cX6_run 58 = .ok (.iload_n 2, 1) := by decide +kernel
theorem dX6_run_59 : decode cX6_run 59 = .ok (.if_icmp .ge 32, 3) := by decide +kernel
theorem dX6_run_91 : decode cX6_run 91 = .ok (.aload_n 0, 1) := by decide +kernel
theorem dX6_run_92 : decode cX6_run 92 = .ok (.getfield 10, 3) := by decide +kernel
theorem dX6_run_95 : decode cX6_run 95 = .ok (.getfield 86, 3) := by decide +kernel
theorem dX6_run_98 : decode cX6_run 98 = .ok (.getfield 177, 3) := by decide +kernel
theorem dX6_run_101 : decode cX6_run 101 = .ok (.ireturn, 1) := by decide +kernel
theorem dX6_run_62 : decode cX6_run 62 = .ok (.aload_n 0, 1) := by decide +kernel
theorem dX6_run_63 : decode cX6_run 63 = .ok (.getfield 10, 3) := by decide +kernel
theorem dX6_run_66 : decode cX6_run 66 = .ok (.aload_n 0, 1) := by decide +kernel
theorem dX6_run_67 : decode cX6_run 67 = .ok (.getfield 10, 3) := by decide +kernel
theorem dX6_run_70 : decode cX6_run 70 = .ok (.getfield 86, 3) := by decide +kernel
theorem dX6_run_73 : decode cX6_run 73 = .ok (.aload_n 0, 1) := by decide +kernel
theorem dX6_run_74 : decode cX6_run 74 = .ok (.getfield 25, 3) := by decide +kernel
theorem dX6_run_77 : decode cX6_run 77 = .ok (.iload_n 1, 1) := by decide +kernel
theorem dX6_run_78 : decode cX6_run 78 = .ok (.aaload, 1) := by decide +kernel
theorem dX6_run_79 : decode cX6_run 79 = .ok (.getfield 163, 3) := by decide +kernel
theorem dX6_run_82 : decode cX6_run 82 = .ok (.invokevirtual 180, 3) := by decide +kernel
theorem kX6_180 : zLk RX6 180 yX2_step := Or.inl (gt_of 399 (by decide +kernel) rfl)
theorem vX2_step : zMi yX2_step := ⟨gt_of 400 (by decide +kernel) rfl, gt_of 401 (by decide +kernel) rfl⟩
theorem dX6_run_85 : decode cX6_run 85 = .ok (.iinc 4 1, 3) := by decide +kernel
theorem dX6_run_88 : decode cX6_run 88 = .ok (.goto (-32), 3) := by decide +kernel
theorem dX6_run_51 : decode cX6_run 51 = .ok (.iload_n 3, 1) := by decide +kernel
theorem dX6_run_52 : decode cX6_run 52 = .ok (.ireturn, 1) := by decide +kernel
theorem dX6_run_38 : decode cX6_run 38 = .ok (.bipush (-2), 2) := by decide +kernel
theorem dX6_run_40 : decode cX6_run 40 = .ok (.ireturn, 1) := by decide +kernel
theorem dX6_run_18 : decode cX6_run 18 = .ok (.iconst (-1), 1) := by decide +kernel
theorem dX6_run_19 : decode cX6_run 19 = .ok (.ireturn, 1) := by decide +kernel
set_option maxRecDepth 100000 in
theorem c_X6_run (l : Launch) (D : va_G) (cy : Nat → Nat) (n : Nat) (ad : Nat → Nat) (F : Nat → va_E) (sz : Nat) (pic : Int32) (sc ps : Scn) (sh : Nat → Shf) (rd : Rdr) (dr : Stg) (fa : Tal) (mi : Crs) (hn : 56 ≤ n) (hX : RX ad cy F pic sc ps sh rd dr fa mi) (d q : Int32) : Met l yX6_run (zw yX6_run cX6_run 5 (some .int)) (rmL 4) (zPc D cy n ad F sz [.ref (ad 0), .int d, .int q]) (va_Qi (fun r F1 => r = sRun sc sh d q ∧ RX ad cy F1 pic (sRunS sc sh d q) ps sh rd dr fa mi ∧ fr56 F F1) (zB D n ad) (zA n ad sz)) 0 0 (zA n ad sz) := by
  refine zmet (by decide +kernel) (Nat.le_of_ble_eq_true rfl) (fun p e s m args below meth c ls hC hsz hZ hA hr hlocks hnm hl => ?_)
  have hC : zC p m c cX6_run 5 s args RX6 D cy := hC
  have hx := hC.1.1
  have hb := hC.1.2.1
  have hl : lv_has ls 5 [(0, .ref (ad 0)), (1, .int d), (2, .int q)] := hl
  refine lv_iload_n hx hb dX6_run_0 rfl (lv_at hl 1 rfl) ?_
  refine zgoi hZ hA (zrunS (As := [.int d]) (rest := []) hC hZ (c_X6_isShelf l D cy n ad F s.heap.size d) mX6_isShelf sX6_isShelf kX6_61 (zRj_of rfl) rfl hl.1 rfl (Nat.le_of_ble_eq_true rfl) dX6_run_1 ⟨Nat.le_refl _, Nat.le_refl _⟩) (fun r_2 F_1 hp_3 H locs hZ => ?_)
  obtain ⟨hp_3, rfl⟩ := hp_3
  by_cases b_4 : bSh d
  · rw [if_pos b_4] at hp_3
    subst hp_3
    refine lv_if_eq (tgt := 18) hx hb dX6_run_4 (by decide) (fun h => absurd h (by decide)) (fun _ => ?_)
    refine lv_iload_n hx hb dX6_run_7 rfl (lv_at hl 2 rfl) ?_
    refine lv_iconst (v := 1) hx hb dX6_run_8 (by decide) ?_
    refine lv_sipush (v := 500) hx hb dX6_run_9 (by decide) ?_
    refine zgoi hZ hA (zrunS (As := [.int q, .int 1, .int 500]) (rest := []) hC hZ (c_X6_isWithin l D cy n ad F H.size q 1 500) mX6_isWithin sX6_isWithin kX6_115 (zRj_of rfl) rfl hl.1 rfl (Nat.le_of_ble_eq_true rfl) dX6_run_12 ⟨Nat.le_refl _, Nat.le_refl _⟩) (fun r_6 F_5 hp_7 H locs hZ => ?_)
    obtain ⟨hp_7, rfl⟩ := hp_7
    by_cases b_8 : bIn q 1 500
    · rw [if_pos b_8] at hp_7
      subst hp_7
      refine lv_if_ne (tgt := 20) hx hb dX6_run_15 (by decide) (fun _ => ?_) (fun h => absurd h (by decide))
      refine lv_aload_n hx hb dX6_run_20 rfl (lv_at hl 0 rfl) ?_
      refine zget hC hZ fX6_10 (zlt hn rfl) hX.1 rfl dX6_run_21 ?_
      refine zget hC hZ fX6_86 (zlt hn rfl) hX.2.1.1 rfl dX6_run_24 ?_
      refine zget hC hZ fX6_177 (zlt hn rfl) hX.2.1.2.2.2.1 rfl dX6_run_27 ?_
      refine lv_iload_n hx hb dX6_run_30 rfl (lv_at hl 2 rfl) ?_
      refine lv_iadd hx hb dX6_run_31 ?_
      refine lv_sipush (v := 9999) hx hb dX6_run_32 (by decide) ?_
      refine lv_icmp_le (tgt := 41) hx hb dX6_run_35 (by decide) (fun c_35 => ?_) (fun c_35 => ?_)
      · refine lv_aload_n hx hb dX6_run_41 rfl (lv_at hl 0 rfl) ?_
        refine lv_iload_n hx hb dX6_run_42 rfl (lv_at hl 1 rfl) ?_
        refine zgoi hZ hA (zrunV (As := [.int d]) (rest := []) (k := 0) hC hZ (c_X6_storyRefusal l D cy n ad F H.size pic sc ps sh rd dr fa mi hn hX d) mX6_storyRefusal vX6_storyRefusal kX6_160 (zRj_of rfl) (zlt hn rfl) hX.1 rfl rfl hl.1 rfl (Nat.le_of_ble_eq_true rfl) dX6_run_43 ⟨Nat.le_refl _, Nat.le_refl _⟩) (fun r_10 F_9 hp_11 H locs hZ => ?_)
        obtain ⟨rfl, rfl⟩ := hp_11
        refine lv_istore_n (lv' := [(3, .int (sStR sh d)), (0, .ref (ad 0)), (1, .int d), (2, .int q)]) hx hb dX6_run_46 rfl hl (by decide) rfl (fun ls hl => ?_)
        refine lv_iload_n hx hb dX6_run_47 rfl (lv_at hl 0 rfl) ?_
        refine lv_if_eq (tgt := 53) hx hb dX6_run_48 (by decide) (fun c_48 => ?_) (fun c_48 => ?_)
        · refine lv_iconst (v := 0) hx hb dX6_run_53 (by decide) ?_
          refine lv_istore (lv' := [(4, .int 0), (3, .int (sStR sh d)), (0, .ref (ad 0)), (1, .int d), (2, .int q)]) hx hb dX6_run_54 hl (by decide) rfl (fun ls hl => ?_)
          have hq5 := bIn_n (N := 500) b_8 (by decide) rfl
          have hs_12 := sStR_0 c_48
          refine zlp (X := Nat) 56 (fun _ => []) (fun x ls F1 => lv_has ls 5 [(4, .int (nI x)), (3, .int (sStR sh d)), (0, .ref (ad 0)), (1, .int d), (2, .int q)] ∧ RX ad cy F1 pic (sc.1, sc.2.1, sc.2.2.1, sc.2.2.2.1, sIt (sF (sh (iN d)).2.1 sc) x sc.2.2.2.2) ps sh rd dr fa mi ∧ fr56 F F1 ∧ x ≤ iN q) (fun x => iN q - x) ?_ 0 hZ ⟨hl, hX, fr56_rf, (Nat.zero_le _)⟩
          intro i ih ls F3 H locs hZ hφ
          obtain ⟨hl, hXl, hfl, hi⟩ := hφ
          have hl : lv_has ls 5 [(4, .int (nI i)), (3, .int (sStR sh d)), (0, .ref (ad 0)), (1, .int d), (2, .int q)] := hl
          have hX56 : RX ad cy F3 pic (sc.1, sc.2.1, sc.2.2.1, sc.2.2.2.1, sIt (sF (sh (iN d)).2.1 sc) i sc.2.2.2.2) ps sh rd dr fa mi := hXl
          have hi : i ≤ iN q := hi
          refine lv_iload hx hb dX6_run_56 (lv_at hl 0 rfl) ?_
          refine lv_iload_n hx hb dX6_run_58 rfl (lv_at hl 4 rfl) ?_
          refine lv_icmp_ge (tgt := 91) hx hb dX6_run_59 (by decide) (fun c_59 => ?_) (fun c_59 => ?_)
          · refine lv_aload_n hx hb dX6_run_91 rfl (lv_at hl 2 rfl) ?_
            refine zget hC hZ fX6_10 (zlt hn rfl) hX56.1 rfl dX6_run_92 ?_
            refine zget hC hZ fX6_86 (zlt hn rfl) hX56.2.1.1 rfl dX6_run_95 ?_
            refine zget hC hZ fX6_177 (zlt hn rfl) hX56.2.1.2.2.2.1 rfl dX6_run_98 ?_
            have hb9 : bRun d q := ⟨b_4, b_8⟩
            have hiq : i = iN q := zge hq5.1 (by omega) hi c_59
            have hq1 : sRunS sc sh d q = (sc.1, sc.2.1, sc.2.2.1, sc.2.2.2.1, sIt (sF (sh (iN d)).2.1 sc) i sc.2.2.2.2) := by unfold sRunS sRunC; rw [if_pos ⟨hb9, c_35, c_48⟩, ← hiq]
            have hq0 : (sIt (sF (sh (iN d)).2.1 sc) i sc.2.2.2.2).1 = sRun sc sh d q := by unfold sRun sRunC; rw [if_pos hb9, if_pos c_35, if_pos c_48, ← hiq]
            exact zireti hC hZ hr hlocks ⟨hq0, by rw [hq1]; exact hX56, hfl⟩ dX6_run_101
          · refine lv_aload_n hx hb dX6_run_62 rfl (lv_at hl 2 rfl) ?_
            refine zget hC hZ fX6_10 (zlt hn rfl) hX56.1 rfl dX6_run_63 ?_
            refine lv_aload_n hx hb dX6_run_66 rfl (lv_at hl 2 rfl) ?_
            refine zget hC hZ fX6_10 (zlt hn rfl) hX56.1 rfl dX6_run_67 ?_
            refine zget hC hZ fX6_86 (zlt hn rfl) hX56.2.1.1 rfl dX6_run_70 ?_
            refine lv_aload_n hx hb dX6_run_73 rfl (lv_at hl 2 rfl) ?_
            refine zget hC hZ fX6_25 (zlt hn rfl) hX56.1 rfl dX6_run_74 ?_
            refine lv_iload_n hx hb dX6_run_77 rfl (lv_at hl 3 rfl) ?_
            refine zaald hC hZ (zlt hn rfl) hX56.2.2.2.1 (C := RX4) rfl hs_12.1.1 hs_12.1.2 (by decide) rfl dX6_run_78 ?_
            refine zget hC hZ fX6_163 (by have := hs_12.1.2; omega) (hX56.2.2.2.2.1 (iN d) hs_12.1.2).1 rfl dX6_run_79 ?_
            refine zgov hZ hA (zrunV (As := [.ref (ad 4), .ref (ad (26 + 3 * (iN d) + 1))]) (rest := []) (k := 1) hC hZ (c_X2_step l D cy n ad F3 H.size 1 (sc.1, sc.2.1, sc.2.2.1, sc.2.2.2.1, sIt (sF (sh (iN d)).2.1 sc) i sc.2.2.2.2) (by omega) hX56.2.1 4 (sIt (sF (sh (iN d)).2.1 sc) i sc.2.2.2.2) (zlt hn rfl) hX56.2.1.2.2.2.1 (26 + 3 * (iN d) + 1) (sh (iN d)).2.1 (by have := hs_12.1.2; omega) (hX56.2.2.2.2.1 (iN d) hs_12.1.2).2.1) mX2_step vX2_step kX6_180 (zRj_of rfl) (zlt hn rfl) hX56.2.1.1 rfl rfl hl.1 rfl (Nat.le_of_ble_eq_true rfl) dX6_run_82 ⟨Nat.le_refl _, Nat.le_refl _⟩) (fun F_13 hp_15 H locs hZ => ?_)
            have hX_16 := rx_course hX56 hp_15
            have hf_17 := fr56_up hfl hp_15 (by decide)
            have hX_16 : RX ad cy F_13 pic (sc.1, sc.2.1, sc.2.2.1, sc.2.2.2.1, (sStep (sKick (sh (iN d)).2.1 sc.1) (sLess (sh (iN d)).2.1 sc.1) sc.1.2.2.2 sc.2.1 (sIt (sF (sh (iN d)).2.1 sc) i sc.2.2.2.2))) ps sh rd dr fa mi := hX_16
            refine lv_iinc (v := nI (i + 1)) (lv' := [(4, .int (nI (i + 1))), (3, .int (sStR sh d)), (0, .ref (ad 0)), (1, .int d), (2, .int q)]) hx hb dX6_run_85 hl (k := 0) rfl (nI_1 i) (by decide) rfl (fun ls hl => ?_)
            refine lv_goto (tgt := 56) hx hb dX6_run_88 (by decide) ?_
            have hlt := zlt2 hq5.1 (by omega) c_59
            exact ih (i + 1) ls _ H locs (by show iN q - (i + 1) < iN q - i; omega) hZ ⟨hl, hX_16, hf_17, (by omega)⟩
        · refine lv_iload_n hx hb dX6_run_51 rfl (lv_at hl 0 rfl) ?_
          have hb9 : bRun d q := ⟨b_4, b_8⟩
          have hq0 : sStR sh d = sRun sc sh d q := by unfold sRun; rw [if_pos hb9, if_pos c_35, if_neg c_48]
          have hq1 : sRunS sc sh d q = sc := if_neg (fun h => c_48 h.2.2)
          exact zireti hC hZ hr hlocks ⟨hq0, by rw [hq1]; exact hX, fr56_rf⟩ dX6_run_52
      · refine lv_bipush (v := (-2)) hx hb dX6_run_38 (by decide) ?_
        have hb9 : bRun d q := ⟨b_4, b_8⟩
        have hq0 : (-2 : Int32) = sRun sc sh d q := by unfold sRun; rw [if_pos hb9, if_neg c_35]
        have hq1 : sRunS sc sh d q = sc := if_neg (fun h => c_35 h.2.1)
        exact zireti hC hZ hr hlocks ⟨hq0, by rw [hq1]; exact hX, fr56_rf⟩ dX6_run_40
    · rw [if_neg b_8] at hp_7
      subst hp_7
      refine lv_if_ne (tgt := 20) hx hb dX6_run_15 (by decide) (fun h => absurd (by decide) h) (fun _ => ?_)
      refine lv_iconst (v := (-1)) hx hb dX6_run_18 (by decide) ?_
      have hb9 : ¬ bRun d q := fun h => b_8 h.2
      have hq0 : (-1 : Int32) = sRun sc sh d q := (if_neg hb9).symm
      have hq1 : sRunS sc sh d q = sc := if_neg (fun h => hb9 h.1)
      exact zireti hC hZ hr hlocks ⟨hq0, by rw [hq1]; exact hX, fr56_rf⟩ dX6_run_19
  · rw [if_neg b_4] at hp_3
    subst hp_3
    refine lv_if_eq (tgt := 18) hx hb dX6_run_4 (by decide) (fun _ => ?_) (fun h => absurd (by decide) h)
    refine lv_iconst (v := (-1)) hx hb dX6_run_18 (by decide) ?_
    have hb9 : ¬ bRun d q := fun h => b_4 h.1
    have hq0 : (-1 : Int32) = sRun sc sh d q := (if_neg hb9).symm
    have hq1 : sRunS sc sh d q = sc := if_neg (fun h => hb9 h.1)
    exact zireti hC hZ hr hlocks ⟨hq0, by rw [hq1]; exact hX, fr56_rf⟩ dX6_run_19

theorem mX6_paceBehind : zMd yX6_paceBehind cX6_paceBehind 7 (some .int) 3 := ⟨by decide +kernel, gt_of 523 (by decide +kernel) rfl, gt_of 44 (by decide +kernel) rfl, by decide⟩
theorem dX6_paceBehind_0 : decode cX6_paceBehind 0 = .ok (.aload_n 1, 1) := by decide +kernel
theorem dX6_paceBehind_1 : decode cX6_paceBehind 1 = .ok (.aload_n 0, 1) := by decide +kernel
theorem dX6_paceBehind_2 : decode cX6_paceBehind 2 = .ok (.getfield 10, 3) := by decide +kernel
theorem dX6_paceBehind_5 : decode cX6_paceBehind 5 = .ok (.getfield 97, 3) := by decide +kernel
theorem dX6_paceBehind_8 : decode cX6_paceBehind 8 = .ok (.invokevirtual 166, 3) := by decide +kernel
theorem dX6_paceBehind_11 : decode cX6_paceBehind 11 = .ok (.istore 4, 2) := by decide +kernel
theorem dX6_paceBehind_13 : decode cX6_paceBehind 13 = .ok (.aload_n 1, 1) := by decide +kernel
theorem dX6_paceBehind_14 : decode cX6_paceBehind 14 = .ok (.aload_n 0, 1) := by decide +kernel
theorem dX6_paceBehind_15 : decode cX6_paceBehind 15 = .ok (.getfield 10, 3) := by decide +kernel
theorem dX6_paceBehind_18 : decode cX6_paceBehind 18 = .ok (.getfield 97, 3) := by decide +kernel
theorem dX6_paceBehind_21 : decode cX6_paceBehind 21 = .ok (.invokevirtual 199, 3) := by decide +kernel
theorem dX6_paceBehind_24 : decode cX6_paceBehind 24 = .ok (.iload_n 2, 1) := by decide +kernel
theorem dX6_paceBehind_25 : decode cX6_paceBehind 25 = .ok (.isub, 1) := by decide +kernel
theorem dX6_paceBehind_26 : decode cX6_paceBehind 26 = .ok (.istore 5, 2) := by decide +kernel
theorem dX6_paceBehind_28 : decode cX6_paceBehind 28 = .ok (.aload_n 0, 1) := by decide +kernel
theorem dX6_paceBehind_29 : decode cX6_paceBehind 29 = .ok (.getfield 57, 3) := by decide +kernel
theorem fX6_57 : zFld RX6 57 6 8 := ⟨RX6, TX6, 9, rfl, inX6, by decide, rfl, Or.inl (gt_of 234 (by decide +kernel) rfl)⟩
theorem dX6_paceBehind_32 : decode cX6_paceBehind 32 = .ok (.invokevirtual 184, 3) := by decide +kernel
theorem dX6_paceBehind_35 : decode cX6_paceBehind 35 = .ok (.iconst 0, 1) := by decide +kernel
theorem dX6_paceBehind_36 : decode cX6_paceBehind 36 = .ok (.istore 6, 2) := by decide +kernel
theorem dX6_paceBehind_38 : decode cX6_paceBehind 38 = .ok (.iload 6, 2) := by decide +kernel
theorem dX6_paceBehind_40 : decode cX6_paceBehind 40 = .ok (.iload_n 3, 1) := by decide +kernel
theorem dX6_paceBehind_41 : decode cX6_paceBehind 41 = .ok (.if_icmp .ge 37, 3) := by decide +kernel
theorem dX6_paceBehind_78 : decode cX6_paceBehind 78 = .ok (.aload_n 0, 1) := by decide +kernel
theorem dX6_paceBehind_79 : decode cX6_paceBehind 79 = .ok (.getfield 57, 3) := by decide +kernel
theorem dX6_paceBehind_82 : decode cX6_paceBehind 82 = .ok (.getfield 187, 3) := by decide +kernel
theorem dX6_paceBehind_85 : decode cX6_paceBehind 85 = .ok (.ireturn, 1) := by decide +kernel
theorem dX6_paceBehind_44 : decode cX6_paceBehind 44 = .ok (.aload_n 0, 1) := by decide +kernel
theorem dX6_paceBehind_45 : decode cX6_paceBehind 45 = .ok (.getfield 57, 3) := by decide +kernel
theorem dX6_paceBehind_48 : decode cX6_paceBehind 48 = .ok (.iload 4, 2) := by decide +kernel
theorem dX6_paceBehind_50 : decode cX6_paceBehind 50 = .ok (.iload 5, 2) := by decide +kernel
theorem dX6_paceBehind_52 : decode cX6_paceBehind 52 = .ok (.aload_n 0, 1) := by decide +kernel
theorem dX6_paceBehind_53 : decode cX6_paceBehind 53 = .ok (.getfield 10, 3) := by decide +kernel
theorem dX6_paceBehind_56 : decode cX6_paceBehind 56 = .ok (.getfield 97, 3) := by decide +kernel
theorem dX6_paceBehind_59 : decode cX6_paceBehind 59 = .ok (.getfield 112, 3) := by decide +kernel
theorem dX6_paceBehind_62 : decode cX6_paceBehind 62 = .ok (.aload_n 0, 1) := by decide +kernel
theorem dX6_paceBehind_63 : decode cX6_paceBehind 63 = .ok (.getfield 10, 3) := by decide +kernel
theorem dX6_paceBehind_66 : decode cX6_paceBehind 66 = .ok (.getfield 109, 3) := by decide +kernel
theorem dX6_paceBehind_69 : decode cX6_paceBehind 69 = .ok (.invokevirtual 253, 3) := by decide +kernel
theorem kX6_253 : zLk RX6 253 yX0_step := Or.inl (gt_of 524 (by decide +kernel) rfl)
theorem dX6_paceBehind_72 : decode cX6_paceBehind 72 = .ok (.iinc 6 1, 3) := by decide +kernel
theorem dX6_paceBehind_75 : decode cX6_paceBehind 75 = .ok (.goto (-37), 3) := by decide +kernel
set_option maxRecDepth 100000 in
theorem c_X6_paceBehind (l : Launch) (D : va_G) (cy : Nat → Nat) (n : Nat) (ad : Nat → Nat) (F : Nat → va_E) (sz : Nat) (pic : Int32) (sc ps : Scn) (sh : Nat → Shf) (rd : Rdr) (dr : Stg) (fa : Tal) (mi : Crs) (hn : 56 ≤ n) (hX : RX ad cy F pic sc ps sh rd dr fa mi) (k : Nat) (t : Tal) (hk : k < n) (hFk : F k = oTale t) (more q : Int32) (hq5 : q = nI (iN q) ∧ iN q ≤ 500) : Met l yX6_paceBehind (zw yX6_paceBehind cX6_paceBehind 7 (some .int)) (rmL 3) (zPc D cy n ad F sz [.ref (ad 0), .ref (ad k), .int more, .int q]) (va_Qi (fun r F1 => r = (sPB t sc more (iN q)).2.1 ∧ RX ad cy F1 pic sc ps sh rd dr fa (sPB t sc more (iN q)) ∧ fr56 F F1) (zB D n ad) (zA n ad sz)) 0 0 (zA n ad sz) := by
  refine zmet (by decide +kernel) (Nat.le_of_ble_eq_true rfl) (fun p e s m args below meth c ls hC hsz hZ hA hr hlocks hnm hl => ?_)
  have hC : zC p m c cX6_paceBehind 7 s args RX6 D cy := hC
  have hx := hC.1.1
  have hb := hC.1.2.1
  have hl : lv_has ls 7 [(0, .ref (ad 0)), (1, .ref (ad k)), (2, .int more), (3, .int q)] := hl
  refine lv_aload_n hx hb dX6_paceBehind_0 rfl (lv_at hl 1 rfl) ?_
  refine lv_aload_n hx hb dX6_paceBehind_1 rfl (lv_at hl 0 rfl) ?_
  refine zget hC hZ fX6_10 (zlt hn rfl) hX.1 rfl dX6_paceBehind_2 ?_
  refine zget hC hZ fX6_97 (zlt hn rfl) hX.2.1.1 rfl dX6_paceBehind_5 ?_
  refine zgoi hZ hA (zrunV (As := [.ref (ad 2)]) (rest := []) (k := k) hC hZ (c_X5_kick l D cy n ad F s.heap.size k t hk hFk 2 sc.1 (zlt hn rfl) hX.2.1.2.1) mX5_kick vX5_kick kX6_166 (zRj_of rfl) hk hFk rfl rfl hl.1 rfl (Nat.le_of_ble_eq_true rfl) dX6_paceBehind_8 ⟨Nat.le_refl _, Nat.le_refl _⟩) (fun r_2 F_1 hp_3 H locs hZ => ?_)
  obtain ⟨rfl, rfl⟩ := hp_3
  refine lv_istore (lv' := [(4, .int (sKick t sc.1)), (0, .ref (ad 0)), (1, .ref (ad k)), (2, .int more), (3, .int q)]) hx hb dX6_paceBehind_11 hl (by decide) rfl (fun ls hl => ?_)
  refine lv_aload_n hx hb dX6_paceBehind_13 rfl (lv_at hl 2 rfl) ?_
  refine lv_aload_n hx hb dX6_paceBehind_14 rfl (lv_at hl 1 rfl) ?_
  refine zget hC hZ fX6_10 (zlt hn rfl) hX.1 rfl dX6_paceBehind_15 ?_
  refine zget hC hZ fX6_97 (zlt hn rfl) hX.2.1.1 rfl dX6_paceBehind_18 ?_
  refine zgoi hZ hA (zrunV (As := [.ref (ad 2)]) (rest := []) (k := k) hC hZ (c_X5_less l D cy n ad F H.size k t hk hFk 2 sc.1 (zlt hn rfl) hX.2.1.2.1) mX5_less vX5_less kX6_199 (zRj_of rfl) hk hFk rfl rfl hl.1 rfl (Nat.le_of_ble_eq_true rfl) dX6_paceBehind_21 ⟨Nat.le_refl _, Nat.le_refl _⟩) (fun r_5 F_4 hp_6 H locs hZ => ?_)
  obtain ⟨rfl, rfl⟩ := hp_6
  refine lv_iload_n hx hb dX6_paceBehind_24 rfl (lv_at hl 3 rfl) ?_
  refine lv_isub hx hb dX6_paceBehind_25 ?_
  refine lv_istore (lv' := [(5, .int ((sLess t sc.1) - more)), (4, .int (sKick t sc.1)), (0, .ref (ad 0)), (1, .ref (ad k)), (2, .int more), (3, .int q)]) hx hb dX6_paceBehind_26 hl (by decide) rfl (fun ls hl => ?_)
  refine lv_aload_n hx hb dX6_paceBehind_28 rfl (lv_at hl 2 rfl) ?_
  refine zget hC hZ fX6_57 (zlt hn rfl) hX.1 rfl dX6_paceBehind_29 ?_
  refine zgov hZ hA (zrunV (As := []) (rest := []) (k := 55) hC hZ (c_X0_clear l D cy n ad F H.size 55 mi (zlt hn rfl) hX.2.2.2.2.2.2.2.2.2) mX0_clear vX0_clear kX6_184 (zRj_of rfl) (zlt hn rfl) hX.2.2.2.2.2.2.2.2.2 rfl rfl hl.1 rfl (Nat.le_of_ble_eq_true rfl) dX6_paceBehind_32 ⟨Nat.le_refl _, Nat.le_refl _⟩) (fun F_7 hp_9 H locs hZ => ?_)
  have hX_10 := rx_mind hX hp_9
  have hf_11 := fr56_up fr56_rf hp_9 (by decide)
  have hX_10 : RX ad cy F_7 pic sc ps sh rd dr fa (0, 0, 0, 0, 0) := hX_10
  refine lv_iconst (v := 0) hx hb dX6_paceBehind_35 (by decide) ?_
  refine lv_istore (lv' := [(6, .int 0), (5, .int ((sLess t sc.1) - more)), (4, .int (sKick t sc.1)), (0, .ref (ad 0)), (1, .ref (ad k)), (2, .int more), (3, .int q)]) hx hb dX6_paceBehind_36 hl (by decide) rfl (fun ls hl => ?_)
  refine zlp (X := Nat) 38 (fun _ => []) (fun x ls F1 => lv_has ls 7 [(6, .int (nI x)), (5, .int ((sLess t sc.1) - more)), (4, .int (sKick t sc.1)), (0, .ref (ad 0)), (1, .ref (ad k)), (2, .int more), (3, .int q)] ∧ RX ad cy F1 pic sc ps sh rd dr fa (sIt (sFM t sc more) x sCC) ∧ fr56 F F1 ∧ x ≤ iN q) (fun x => iN q - x) ?_ 0 hZ ⟨hl, hX_10, hf_11, (Nat.zero_le _)⟩
  intro i ih ls F3 H locs hZ hφ
  obtain ⟨hl, hXl, hfl, hi⟩ := hφ
  have hl : lv_has ls 7 [(6, .int (nI i)), (5, .int ((sLess t sc.1) - more)), (4, .int (sKick t sc.1)), (0, .ref (ad 0)), (1, .ref (ad k)), (2, .int more), (3, .int q)] := hl
  have hX38 : RX ad cy F3 pic sc ps sh rd dr fa (sIt (sFM t sc more) i sCC) := hXl
  have hi : i ≤ iN q := hi
  refine lv_iload hx hb dX6_paceBehind_38 (lv_at hl 0 rfl) ?_
  refine lv_iload_n hx hb dX6_paceBehind_40 rfl (lv_at hl 6 rfl) ?_
  refine lv_icmp_ge (tgt := 78) hx hb dX6_paceBehind_41 (by decide) (fun c_41 => ?_) (fun c_41 => ?_)
  · refine lv_aload_n hx hb dX6_paceBehind_78 rfl (lv_at hl 3 rfl) ?_
    refine zget hC hZ fX6_57 (zlt hn rfl) hX38.1 rfl dX6_paceBehind_79 ?_
    refine zget hC hZ fX6_187 (zlt hn rfl) hX38.2.2.2.2.2.2.2.2.2 rfl dX6_paceBehind_82 ?_
    have hiq : i = iN q := zge hq5.1 (by omega) hi c_41
    have hq1 : sPB t sc more (iN q) = (sIt (sFM t sc more) i sCC) := by unfold sPB; rw [← hiq]
    exact zireti hC hZ hr hlocks ⟨by rw [hq1], by rw [hq1]; exact hX38, hfl⟩ dX6_paceBehind_85
  · refine lv_aload_n hx hb dX6_paceBehind_44 rfl (lv_at hl 3 rfl) ?_
    refine zget hC hZ fX6_57 (zlt hn rfl) hX38.1 rfl dX6_paceBehind_45 ?_
    refine lv_iload hx hb dX6_paceBehind_48 (lv_at hl 2 rfl) ?_
    refine lv_iload hx hb dX6_paceBehind_50 (lv_at hl 1 rfl) ?_
    refine lv_aload_n hx hb dX6_paceBehind_52 rfl (lv_at hl 3 rfl) ?_
    refine zget hC hZ fX6_10 (zlt hn rfl) hX38.1 rfl dX6_paceBehind_53 ?_
    refine zget hC hZ fX6_97 (zlt hn rfl) hX38.2.1.1 rfl dX6_paceBehind_56 ?_
    refine zget hC hZ fX6_112 (zlt hn rfl) hX38.2.1.2.1 rfl dX6_paceBehind_59 ?_
    refine lv_aload_n hx hb dX6_paceBehind_62 rfl (lv_at hl 3 rfl) ?_
    refine zget hC hZ fX6_10 (zlt hn rfl) hX38.1 rfl dX6_paceBehind_63 ?_
    refine zget hC hZ fX6_109 (zlt hn rfl) hX38.2.1.1 rfl dX6_paceBehind_66 ?_
    refine zgov hZ hA (zrunV (As := [.int (sKick t sc.1), .int ((sLess t sc.1) - more), .int sc.1.2.2.2, .int sc.2.1]) (rest := []) (k := 55) hC hZ (c_X0_step l D cy n ad F3 H.size 55 (sIt (sFM t sc more) i sCC) (zlt hn rfl) hX38.2.2.2.2.2.2.2.2.2 (sKick t sc.1) ((sLess t sc.1) - more) sc.1.2.2.2 sc.2.1) mX0_step vX0_step kX6_253 (zRj_of rfl) (zlt hn rfl) hX38.2.2.2.2.2.2.2.2.2 rfl rfl hl.1 rfl (Nat.le_of_ble_eq_true rfl) dX6_paceBehind_69 ⟨Nat.le_refl _, Nat.le_refl _⟩) (fun F_12 hp_14 H locs hZ => ?_)
    have hX_15 := rx_mind hX38 hp_14
    have hf_16 := fr56_up hfl hp_14 (by decide)
    have hX_15 : RX ad cy F_12 pic sc ps sh rd dr fa (sStep (sKick t sc.1) ((sLess t sc.1) - more) sc.1.2.2.2 sc.2.1 (sIt (sFM t sc more) i sCC)) := hX_15
    refine lv_iinc (v := nI (i + 1)) (lv' := [(6, .int (nI (i + 1))), (5, .int ((sLess t sc.1) - more)), (4, .int (sKick t sc.1)), (0, .ref (ad 0)), (1, .ref (ad k)), (2, .int more), (3, .int q)]) hx hb dX6_paceBehind_72 hl (k := 0) rfl (nI_1 i) (by decide) rfl (fun ls hl => ?_)
    refine lv_goto (tgt := 38) hx hb dX6_paceBehind_75 (by decide) ?_
    have hlt := zlt2 hq5.1 (by omega) c_41
    exact ih (i + 1) ls _ H locs (by show iN q - (i + 1) < iN q - i; omega) hZ ⟨hl, hX_15, hf_16, (by omega)⟩

theorem mX6_without : zMd yX6_without cX6_without 4 (some .int) 2 := ⟨by decide +kernel, gt_of 515 (by decide +kernel) rfl, gt_of 44 (by decide +kernel) rfl, by decide⟩
theorem dX6_without_0 : decode cX6_without 0 = .ok (.iload_n 2, 1) := by decide +kernel
theorem dX6_without_1 : decode cX6_without 1 = .ok (.iconst 1, 1) := by decide +kernel
theorem dX6_without_2 : decode cX6_without 2 = .ok (.sipush 500, 3) := by decide +kernel
theorem dX6_without_5 : decode cX6_without 5 = .ok (.invokestatic 115, 3) := by decide +kernel
theorem dX6_without_8 : decode cX6_without 8 = .ok (.ifCond .eq 11, 3) := by decide +kernel
theorem dX6_without_11 : decode cX6_without 11 = .ok (.aload_n 0, 1) := by decide +kernel
theorem dX6_without_12 : decode cX6_without 12 = .ok (.iload_n 1, 1) := by decide +kernel
theorem dX6_without_13 : decode cX6_without 13 = .ok (.invokevirtual 160, 3) := by decide +kernel
theorem dX6_without_16 : decode cX6_without 16 = .ok (.goto 4, 3) := by decide +kernel
theorem dX6_without_20 : decode cX6_without 20 = .ok (.istore_n 3, 1) := by decide +kernel
theorem dX6_without_21 : decode cX6_without 21 = .ok (.iload_n 3, 1) := by decide +kernel
theorem dX6_without_22 : decode cX6_without 22 = .ok (.ifCond .eq 8, 3) := by decide +kernel
theorem dX6_without_30 : decode cX6_without 30 = .ok (.aload_n 0, 1) := by decide +kernel
theorem dX6_without_31 : decode cX6_without 31 = .ok (.aload_n 0, 1) := by decide +kernel
theorem dX6_without_32 : decode cX6_without 32 = .ok (.getfield 25, 3) := by decide +kernel
theorem dX6_without_35 : decode cX6_without 35 = .ok (.iload_n 1, 1) := by decide +kernel
theorem dX6_without_36 : decode cX6_without 36 = .ok (.aaload, 1) := by decide +kernel
theorem dX6_without_37 : decode cX6_without 37 = .ok (.getfield 163, 3) := by decide +kernel
theorem dX6_without_40 : decode cX6_without 40 = .ok (.iconst 0, 1) := by decide +kernel
theorem dX6_without_41 : decode cX6_without 41 = .ok (.iload_n 2, 1) := by decide +kernel
theorem dX6_without_42 : decode cX6_without 42 = .ok (.invokevirtual 249, 3) := by decide +kernel
theorem kX6_249 : zLk RX6 249 yX6_paceBehind := Or.inl (gt_of 520 (by decide +kernel) rfl)
theorem vX6_paceBehind : zMi yX6_paceBehind := ⟨gt_of 522 (by decide +kernel) rfl, gt_of 14 (by decide +kernel) rfl⟩
theorem dX6_without_45 : decode cX6_without 45 = .ok (.aload_n 0, 1) := by decide +kernel
theorem dX6_without_46 : decode cX6_without 46 = .ok (.aload_n 0, 1) := by decide +kernel
theorem dX6_without_47 : decode cX6_without 47 = .ok (.getfield 51, 3) := by decide +kernel
theorem fX6_51 : zFld RX6 51 6 7 := ⟨RX6, TX6, 9, rfl, inX6, by decide, rfl, Or.inl (gt_of 233 (by decide +kernel) rfl)⟩
theorem dX6_without_50 : decode cX6_without 50 = .ok (.iconst 0, 1) := by decide +kernel
theorem dX6_without_51 : decode cX6_without 51 = .ok (.iload_n 2, 1) := by decide +kernel
theorem dX6_without_52 : decode cX6_without 52 = .ok (.invokevirtual 249, 3) := by decide +kernel
theorem dX6_without_55 : decode cX6_without 55 = .ok (.isub, 1) := by decide +kernel
theorem dX6_without_56 : decode cX6_without 56 = .ok (.ireturn, 1) := by decide +kernel
theorem dX6_without_25 : decode cX6_without 25 = .ok (.iload_n 3, 1) := by decide +kernel
theorem dX6_without_26 : decode cX6_without 26 = .ok (.invokestatic 246, 3) := by decide +kernel
theorem dX6_without_29 : decode cX6_without 29 = .ok (.ireturn, 1) := by decide +kernel
theorem dX6_without_19 : decode cX6_without 19 = .ok (.iconst (-1), 1) := by decide +kernel
set_option maxRecDepth 100000 in
theorem c_X6_without (l : Launch) (D : va_G) (cy : Nat → Nat) (n : Nat) (ad : Nat → Nat) (F : Nat → va_E) (sz : Nat) (pic : Int32) (sc ps : Scn) (sh : Nat → Shf) (rd : Rdr) (dr : Stg) (fa : Tal) (mi : Crs) (hn : 56 ≤ n) (hX : RX ad cy F pic sc ps sh rd dr fa mi) (d q : Int32) : Met l yX6_without (zw yX6_without cX6_without 4 (some .int)) (rmL 4) (zPc D cy n ad F sz [.ref (ad 0), .int d, .int q]) (va_Qi (fun r F1 => r = zrA (bIn q 1 500) (sStR sh d) ((sPB (sh (iN d)).2.1 sc 0 (iN q)).2.1 - (sPB (0, 0) sc 0 (iN q)).2.1) ∧ ∃ mi1, RX ad cy F1 pic sc ps sh rd dr fa mi1 ∧ fr56 F F1) (zB D n ad) (zA n ad sz)) 0 0 (zA n ad sz) := by
  refine zmet (by decide +kernel) (Nat.le_of_ble_eq_true rfl) (fun p e s m args below meth c ls hC hsz hZ hA hr hlocks hnm hl => ?_)
  have hC : zC p m c cX6_without 4 s args RX6 D cy := hC
  have hx := hC.1.1
  have hb := hC.1.2.1
  have hl : lv_has ls 4 [(0, .ref (ad 0)), (1, .int d), (2, .int q)] := hl
  refine lv_iload_n hx hb dX6_without_0 rfl (lv_at hl 2 rfl) ?_
  refine lv_iconst (v := 1) hx hb dX6_without_1 (by decide) ?_
  refine lv_sipush (v := 500) hx hb dX6_without_2 (by decide) ?_
  refine zgoi hZ hA (zrunS (As := [.int q, .int 1, .int 500]) (rest := []) hC hZ (c_X6_isWithin l D cy n ad F s.heap.size q 1 500) mX6_isWithin sX6_isWithin kX6_115 (zRj_of rfl) rfl hl.1 rfl (Nat.le_of_ble_eq_true rfl) dX6_without_5 ⟨Nat.le_refl _, Nat.le_refl _⟩) (fun r_2 F_1 hp_3 H locs hZ => ?_)
  obtain ⟨hp_3, rfl⟩ := hp_3
  by_cases b_4 : bIn q 1 500
  · rw [if_pos b_4] at hp_3
    subst hp_3
    refine lv_if_eq (tgt := 19) hx hb dX6_without_8 (by decide) (fun h => absurd h (by decide)) (fun _ => ?_)
    refine lv_aload_n hx hb dX6_without_11 rfl (lv_at hl 0 rfl) ?_
    refine lv_iload_n hx hb dX6_without_12 rfl (lv_at hl 1 rfl) ?_
    refine zgoi hZ hA (zrunV (As := [.int d]) (rest := []) (k := 0) hC hZ (c_X6_storyRefusal l D cy n ad F H.size pic sc ps sh rd dr fa mi hn hX d) mX6_storyRefusal vX6_storyRefusal kX6_160 (zRj_of rfl) (zlt hn rfl) hX.1 rfl rfl hl.1 rfl (Nat.le_of_ble_eq_true rfl) dX6_without_13 ⟨Nat.le_refl _, Nat.le_refl _⟩) (fun r_6 F_5 hp_7 H locs hZ => ?_)
    obtain ⟨rfl, rfl⟩ := hp_7
    refine lv_goto (tgt := 20) hx hb dX6_without_16 (by decide) ?_
    refine lv_istore_n (lv' := [(3, .int (sStR sh d)), (0, .ref (ad 0)), (1, .int d), (2, .int q)]) hx hb dX6_without_20 rfl hl (by decide) rfl (fun ls hl => ?_)
    refine lv_iload_n hx hb dX6_without_21 rfl (lv_at hl 0 rfl) ?_
    refine lv_if_eq (tgt := 30) hx hb dX6_without_22 (by decide) (fun c_22 => ?_) (fun c_22 => ?_)
    · refine lv_aload_n hx hb dX6_without_30 rfl (lv_at hl 1 rfl) ?_
      refine lv_aload_n hx hb dX6_without_31 rfl (lv_at hl 1 rfl) ?_
      refine zget hC hZ fX6_25 (zlt hn rfl) hX.1 rfl dX6_without_32 ?_
      refine lv_iload_n hx hb dX6_without_35 rfl (lv_at hl 2 rfl) ?_
      have hs_8 := sStR_0 c_22
      refine zaald hC hZ (zlt hn rfl) hX.2.2.2.1 (C := RX4) rfl hs_8.1.1 hs_8.1.2 (by decide) rfl dX6_without_36 ?_
      refine zget hC hZ fX6_163 (by have := hs_8.1.2; omega) (hX.2.2.2.2.1 (iN d) hs_8.1.2).1 rfl dX6_without_37 ?_
      refine lv_iconst (v := 0) hx hb dX6_without_40 (by decide) ?_
      refine lv_iload_n hx hb dX6_without_41 rfl (lv_at hl 3 rfl) ?_
      have hq5 := bIn_n (N := 500) b_4 (by decide) rfl
      refine zgoi hZ hA (zrunV (As := [.ref (ad (26 + 3 * (iN d) + 1)), .int 0, .int q]) (rest := []) (k := 0) hC hZ (c_X6_paceBehind l D cy n ad F H.size pic sc ps sh rd dr fa mi hn hX (26 + 3 * (iN d) + 1) ((sh (iN d)).2.1) (by have := hs_8.1.2; omega) (hX.2.2.2.2.1 (iN d) hs_8.1.2).2.1 0 q hq5) mX6_paceBehind vX6_paceBehind kX6_249 (zRj_of rfl) (zlt hn rfl) hX.1 rfl rfl hl.1 rfl (Nat.le_of_ble_eq_true rfl) dX6_without_42 ⟨Nat.le_refl _, Nat.le_refl _⟩) (fun r_10 F_9 hp_11 H locs hZ => ?_)
      obtain ⟨pb_16, hpb_16⟩ : ∃ y, y = sPB ((sh (iN d)).2.1) sc 0 (iN q) := ⟨_, rfl⟩
      rw [← hpb_16] at hp_11
      obtain ⟨rfl, hX_13, hf_14⟩ := hp_11
      have hf_15 : fr56 F F_9 := fun q hq => (hf_14 q hq).trans (fr56_rf q hq)
      refine lv_aload_n hx hb dX6_without_45 rfl (lv_at hl 1 rfl) ?_
      refine lv_aload_n hx hb dX6_without_46 rfl (lv_at hl 1 rfl) ?_
      refine zget hC hZ fX6_51 (zlt hn rfl) hX_13.1 rfl dX6_without_47 ?_
      refine lv_iconst (v := 0) hx hb dX6_without_50 (by decide) ?_
      refine lv_iload_n hx hb dX6_without_51 rfl (lv_at hl 3 rfl) ?_
      refine zgoi hZ hA (zrunV (As := [.ref (ad 54), .int 0, .int q]) (rest := [.int pb_16.2.1]) (k := 0) hC hZ (c_X6_paceBehind l D cy n ad F_9 H.size pic sc ps sh rd dr fa pb_16 hn hX_13 54 (0, 0) (zlt hn rfl) hX_13.2.2.2.2.2.2.2.2.1 0 q hq5) mX6_paceBehind vX6_paceBehind kX6_249 (zRj_of rfl) (zlt hn rfl) hX_13.1 rfl rfl hl.1 rfl (Nat.le_of_ble_eq_true rfl) dX6_without_52 ⟨Nat.le_refl _, Nat.le_refl _⟩) (fun r_18 F_17 hp_19 H locs hZ => ?_)
      obtain ⟨pb_24, hpb_24⟩ : ∃ y, y = sPB (0, 0) sc 0 (iN q) := ⟨_, rfl⟩
      rw [← hpb_24] at hp_19
      obtain ⟨rfl, hX_21, hf_22⟩ := hp_19
      have hf_23 : fr56 F F_17 := fun q hq => (hf_22 q hq).trans (hf_15 q hq)
      refine lv_isub hx hb dX6_without_55 ?_
      have hq0 : (pb_16.2.1 - pb_24.2.1) = zrA (bIn q 1 500) (sStR sh d) ((sPB (sh (iN d)).2.1 sc 0 (iN q)).2.1 - (sPB (0, 0) sc 0 (iN q)).2.1) := by rw [zrA_ok b_4 c_22, ← hpb_16, ← hpb_24]
      exact zireti hC hZ hr hlocks ⟨hq0, pb_24, hX_21, hf_23⟩ dX6_without_56
    · refine lv_iload_n hx hb dX6_without_25 rfl (lv_at hl 0 rfl) ?_
      refine zgoi hZ hA (zrunS (As := [.int (sStR sh d)]) (rest := []) hC hZ (c_X6_putApart l D cy n ad F H.size (sStR sh d)) mX6_putApart sX6_putApart kX6_246 (zRj_of rfl) rfl hl.1 rfl (Nat.le_of_ble_eq_true rfl) dX6_without_26 ⟨Nat.le_refl _, Nat.le_refl _⟩) (fun r_26 F_25 hp_27 H locs hZ => ?_)
      obtain ⟨rfl, rfl⟩ := hp_27
      have hq0 : (-1000000000 + (sStR sh d)) = zrA (bIn q 1 500) (sStR sh d) ((sPB (sh (iN d)).2.1 sc 0 (iN q)).2.1 - (sPB (0, 0) sc 0 (iN q)).2.1) := (zrA_rf b_4 c_22).symm
      exact zireti hC hZ hr hlocks ⟨hq0, mi, hX, fr56_rf⟩ dX6_without_29
  · rw [if_neg b_4] at hp_3
    subst hp_3
    refine lv_if_eq (tgt := 19) hx hb dX6_without_8 (by decide) (fun _ => ?_) (fun h => absurd (by decide) h)
    refine lv_iconst (v := (-1)) hx hb dX6_without_19 (by decide) ?_
    refine lv_istore_n (lv' := [(3, .int (-1)), (0, .ref (ad 0)), (1, .int d), (2, .int q)]) hx hb dX6_without_20 rfl hl (by decide) rfl (fun ls hl => ?_)
    refine lv_iload_n hx hb dX6_without_21 rfl (lv_at hl 0 rfl) ?_
    refine lv_if_eq (tgt := 30) hx hb dX6_without_22 (by decide) (fun h => absurd h (by decide)) (fun _ => ?_)
    refine lv_iload_n hx hb dX6_without_25 rfl (lv_at hl 0 rfl) ?_
    refine zgoi hZ hA (zrunS (As := [.int (-1)]) (rest := []) hC hZ (c_X6_putApart l D cy n ad F H.size (-1)) mX6_putApart sX6_putApart kX6_246 (zRj_of rfl) rfl hl.1 rfl (Nat.le_of_ble_eq_true rfl) dX6_without_26 ⟨Nat.le_refl _, Nat.le_refl _⟩) (fun r_29 F_28 hp_30 H locs hZ => ?_)
    obtain ⟨rfl, rfl⟩ := hp_30
    have hq0 : (-1000000000 + (-1)) = zrA (bIn q 1 500) (sStR sh d) ((sPB (sh (iN d)).2.1 sc 0 (iN q)).2.1 - (sPB (0, 0) sc 0 (iN q)).2.1) := (zrA_no b_4).symm
    exact zireti hC hZ hr hlocks ⟨hq0, mi, hX, fr56_rf⟩ dX6_without_29

theorem mX6_floor : zMd yX6_floor cX6_floor 6 (some .int) 3 := ⟨by decide +kernel, gt_of 536 (by decide +kernel) rfl, gt_of 44 (by decide +kernel) rfl, by decide⟩
theorem dX6_floor_0 : decode cX6_floor 0 = .ok (.iload_n 2, 1) := by decide +kernel
theorem dX6_floor_1 : decode cX6_floor 1 = .ok (.iconst 0, 1) := by decide +kernel
theorem dX6_floor_2 : decode cX6_floor 2 = .ok (.bipush 40, 2) := by decide +kernel
theorem dX6_floor_4 : decode cX6_floor 4 = .ok (.invokestatic 115, 3) := by decide +kernel
theorem dX6_floor_7 : decode cX6_floor 7 = .ok (.ifCond .eq 18, 3) := by decide +kernel
theorem dX6_floor_10 : decode cX6_floor 10 = .ok (.iload_n 3, 1) := by decide +kernel
theorem dX6_floor_11 : decode cX6_floor 11 = .ok (.iconst 1, 1) := by decide +kernel
theorem dX6_floor_12 : decode cX6_floor 12 = .ok (.sipush 500, 3) := by decide +kernel
theorem dX6_floor_15 : decode cX6_floor 15 = .ok (.invokestatic 115, 3) := by decide +kernel
theorem dX6_floor_18 : decode cX6_floor 18 = .ok (.ifCond .eq 7, 3) := by decide +kernel
theorem dX6_floor_21 : decode cX6_floor 21 = .ok (.iconst 1, 1) := by decide +kernel
theorem dX6_floor_22 : decode cX6_floor 22 = .ok (.goto 4, 3) := by decide +kernel
theorem dX6_floor_26 : decode cX6_floor 26 = .ok (.istore 4, 2) := by decide +kernel
theorem dX6_floor_28 : decode cX6_floor 28 = .ok (.iload 4, 2) := by decide +kernel
theorem dX6_floor_30 : decode cX6_floor 30 = .ok (.ifCond .eq 11, 3) := by decide +kernel
theorem dX6_floor_33 : decode cX6_floor 33 = .ok (.aload_n 0, 1) := by decide +kernel
theorem dX6_floor_34 : decode cX6_floor 34 = .ok (.iload_n 1, 1) := by decide +kernel
theorem dX6_floor_35 : decode cX6_floor 35 = .ok (.invokevirtual 160, 3) := by decide +kernel
theorem dX6_floor_38 : decode cX6_floor 38 = .ok (.goto 4, 3) := by decide +kernel
theorem dX6_floor_42 : decode cX6_floor 42 = .ok (.istore 5, 2) := by decide +kernel
theorem dX6_floor_44 : decode cX6_floor 44 = .ok (.iload 5, 2) := by decide +kernel
theorem dX6_floor_46 : decode cX6_floor 46 = .ok (.ifCond .eq 9, 3) := by decide +kernel
theorem dX6_floor_55 : decode cX6_floor 55 = .ok (.aload_n 0, 1) := by decide +kernel
theorem dX6_floor_56 : decode cX6_floor 56 = .ok (.aload_n 0, 1) := by decide +kernel
theorem dX6_floor_57 : decode cX6_floor 57 = .ok (.getfield 25, 3) := by decide +kernel
theorem dX6_floor_60 : decode cX6_floor 60 = .ok (.iload_n 1, 1) := by decide +kernel
theorem dX6_floor_61 : decode cX6_floor 61 = .ok (.aaload, 1) := by decide +kernel
theorem dX6_floor_62 : decode cX6_floor 62 = .ok (.getfield 163, 3) := by decide +kernel
theorem dX6_floor_65 : decode cX6_floor 65 = .ok (.iload_n 2, 1) := by decide +kernel
theorem dX6_floor_66 : decode cX6_floor 66 = .ok (.iload_n 3, 1) := by decide +kernel
theorem dX6_floor_67 : decode cX6_floor 67 = .ok (.invokevirtual 249, 3) := by decide +kernel
theorem dX6_floor_70 : decode cX6_floor 70 = .ok (.aload_n 0, 1) := by decide +kernel
theorem dX6_floor_71 : decode cX6_floor 71 = .ok (.aload_n 0, 1) := by decide +kernel
theorem dX6_floor_72 : decode cX6_floor 72 = .ok (.getfield 25, 3) := by decide +kernel
theorem dX6_floor_75 : decode cX6_floor 75 = .ok (.iload_n 1, 1) := by decide +kernel
theorem dX6_floor_76 : decode cX6_floor 76 = .ok (.aaload, 1) := by decide +kernel
theorem dX6_floor_77 : decode cX6_floor 77 = .ok (.getfield 163, 3) := by decide +kernel
theorem dX6_floor_80 : decode cX6_floor 80 = .ok (.iconst 0, 1) := by decide +kernel
theorem dX6_floor_81 : decode cX6_floor 81 = .ok (.iload_n 3, 1) := by decide +kernel
theorem dX6_floor_82 : decode cX6_floor 82 = .ok (.invokevirtual 249, 3) := by decide +kernel
theorem dX6_floor_85 : decode cX6_floor 85 = .ok (.isub, 1) := by decide +kernel
theorem dX6_floor_86 : decode cX6_floor 86 = .ok (.ireturn, 1) := by decide +kernel
theorem dX6_floor_49 : decode cX6_floor 49 = .ok (.iload 5, 2) := by decide +kernel
theorem dX6_floor_51 : decode cX6_floor 51 = .ok (.invokestatic 246, 3) := by decide +kernel
theorem dX6_floor_54 : decode cX6_floor 54 = .ok (.ireturn, 1) := by decide +kernel
theorem dX6_floor_25 : decode cX6_floor 25 = .ok (.iconst 0, 1) := by decide +kernel
theorem dX6_floor_41 : decode cX6_floor 41 = .ok (.iconst (-1), 1) := by decide +kernel
set_option maxRecDepth 100000 in
theorem c_X6_floor (l : Launch) (D : va_G) (cy : Nat → Nat) (n : Nat) (ad : Nat → Nat) (F : Nat → va_E) (sz : Nat) (pic : Int32) (sc ps : Scn) (sh : Nat → Shf) (rd : Rdr) (dr : Stg) (fa : Tal) (mi : Crs) (hn : 56 ≤ n) (hX : RX ad cy F pic sc ps sh rd dr fa mi) (d m0 q : Int32) : Met l yX6_floor (zw yX6_floor cX6_floor 6 (some .int)) (rmL 4) (zPc D cy n ad F sz [.ref (ad 0), .int d, .int m0, .int q]) (va_Qi (fun r F1 => r = zrA (bIn m0 0 40 ∧ bIn q 1 500) (sStR sh d) ((sPB (sh (iN d)).2.1 sc m0 (iN q)).2.1 - (sPB (sh (iN d)).2.1 sc 0 (iN q)).2.1) ∧ ∃ mi1, RX ad cy F1 pic sc ps sh rd dr fa mi1 ∧ fr56 F F1) (zB D n ad) (zA n ad sz)) 0 0 (zA n ad sz) := by
  refine zmet (by decide +kernel) (Nat.le_of_ble_eq_true rfl) (fun p e s m args below meth c ls hC hsz hZ hA hr hlocks hnm hl => ?_)
  have hC : zC p m c cX6_floor 6 s args RX6 D cy := hC
  have hx := hC.1.1
  have hb := hC.1.2.1
  have hl : lv_has ls 6 [(0, .ref (ad 0)), (1, .int d), (2, .int m0), (3, .int q)] := hl
  refine lv_iload_n hx hb dX6_floor_0 rfl (lv_at hl 2 rfl) ?_
  refine lv_iconst (v := 0) hx hb dX6_floor_1 (by decide) ?_
  refine lv_bipush (v := 40) hx hb dX6_floor_2 (by decide) ?_
  refine zgoi hZ hA (zrunS (As := [.int m0, .int 0, .int 40]) (rest := []) hC hZ (c_X6_isWithin l D cy n ad F s.heap.size m0 0 40) mX6_isWithin sX6_isWithin kX6_115 (zRj_of rfl) rfl hl.1 rfl (Nat.le_of_ble_eq_true rfl) dX6_floor_4 ⟨Nat.le_refl _, Nat.le_refl _⟩) (fun r_2 F_1 hp_3 H locs hZ => ?_)
  obtain ⟨hp_3, rfl⟩ := hp_3
  by_cases b_4 : bIn m0 0 40
  · rw [if_pos b_4] at hp_3
    subst hp_3
    refine lv_if_eq (tgt := 25) hx hb dX6_floor_7 (by decide) (fun h => absurd h (by decide)) (fun _ => ?_)
    refine lv_iload_n hx hb dX6_floor_10 rfl (lv_at hl 3 rfl) ?_
    refine lv_iconst (v := 1) hx hb dX6_floor_11 (by decide) ?_
    refine lv_sipush (v := 500) hx hb dX6_floor_12 (by decide) ?_
    refine zgoi hZ hA (zrunS (As := [.int q, .int 1, .int 500]) (rest := []) hC hZ (c_X6_isWithin l D cy n ad F H.size q 1 500) mX6_isWithin sX6_isWithin kX6_115 (zRj_of rfl) rfl hl.1 rfl (Nat.le_of_ble_eq_true rfl) dX6_floor_15 ⟨Nat.le_refl _, Nat.le_refl _⟩) (fun r_6 F_5 hp_7 H locs hZ => ?_)
    obtain ⟨hp_7, rfl⟩ := hp_7
    by_cases b_8 : bIn q 1 500
    · rw [if_pos b_8] at hp_7
      subst hp_7
      refine lv_if_eq (tgt := 25) hx hb dX6_floor_18 (by decide) (fun h => absurd h (by decide)) (fun _ => ?_)
      refine lv_iconst (v := 1) hx hb dX6_floor_21 (by decide) ?_
      refine lv_goto (tgt := 26) hx hb dX6_floor_22 (by decide) ?_
      refine lv_istore (lv' := [(4, .int 1), (0, .ref (ad 0)), (1, .int d), (2, .int m0), (3, .int q)]) hx hb dX6_floor_26 hl (by decide) rfl (fun ls hl => ?_)
      refine lv_iload hx hb dX6_floor_28 (lv_at hl 0 rfl) ?_
      refine lv_if_eq (tgt := 41) hx hb dX6_floor_30 (by decide) (fun h => absurd h (by decide)) (fun _ => ?_)
      refine lv_aload_n hx hb dX6_floor_33 rfl (lv_at hl 1 rfl) ?_
      refine lv_iload_n hx hb dX6_floor_34 rfl (lv_at hl 2 rfl) ?_
      refine zgoi hZ hA (zrunV (As := [.int d]) (rest := []) (k := 0) hC hZ (c_X6_storyRefusal l D cy n ad F H.size pic sc ps sh rd dr fa mi hn hX d) mX6_storyRefusal vX6_storyRefusal kX6_160 (zRj_of rfl) (zlt hn rfl) hX.1 rfl rfl hl.1 rfl (Nat.le_of_ble_eq_true rfl) dX6_floor_35 ⟨Nat.le_refl _, Nat.le_refl _⟩) (fun r_10 F_9 hp_11 H locs hZ => ?_)
      obtain ⟨rfl, rfl⟩ := hp_11
      refine lv_goto (tgt := 42) hx hb dX6_floor_38 (by decide) ?_
      refine lv_istore (lv' := [(5, .int (sStR sh d)), (4, .int 1), (0, .ref (ad 0)), (1, .int d), (2, .int m0), (3, .int q)]) hx hb dX6_floor_42 hl (by decide) rfl (fun ls hl => ?_)
      refine lv_iload hx hb dX6_floor_44 (lv_at hl 0 rfl) ?_
      refine lv_if_eq (tgt := 55) hx hb dX6_floor_46 (by decide) (fun c_46 => ?_) (fun c_46 => ?_)
      · refine lv_aload_n hx hb dX6_floor_55 rfl (lv_at hl 2 rfl) ?_
        refine lv_aload_n hx hb dX6_floor_56 rfl (lv_at hl 2 rfl) ?_
        refine zget hC hZ fX6_25 (zlt hn rfl) hX.1 rfl dX6_floor_57 ?_
        refine lv_iload_n hx hb dX6_floor_60 rfl (lv_at hl 3 rfl) ?_
        have hs_12 := sStR_0 c_46
        refine zaald hC hZ (zlt hn rfl) hX.2.2.2.1 (C := RX4) rfl hs_12.1.1 hs_12.1.2 (by decide) rfl dX6_floor_61 ?_
        refine zget hC hZ fX6_163 (by have := hs_12.1.2; omega) (hX.2.2.2.2.1 (iN d) hs_12.1.2).1 rfl dX6_floor_62 ?_
        refine lv_iload_n hx hb dX6_floor_65 rfl (lv_at hl 4 rfl) ?_
        refine lv_iload_n hx hb dX6_floor_66 rfl (lv_at hl 5 rfl) ?_
        have hq5 := bIn_n (N := 500) b_8 (by decide) rfl
        refine zgoi hZ hA (zrunV (As := [.ref (ad (26 + 3 * (iN d) + 1)), .int m0, .int q]) (rest := []) (k := 0) hC hZ (c_X6_paceBehind l D cy n ad F H.size pic sc ps sh rd dr fa mi hn hX (26 + 3 * (iN d) + 1) ((sh (iN d)).2.1) (by have := hs_12.1.2; omega) (hX.2.2.2.2.1 (iN d) hs_12.1.2).2.1 m0 q hq5) mX6_paceBehind vX6_paceBehind kX6_249 (zRj_of rfl) (zlt hn rfl) hX.1 rfl rfl hl.1 rfl (Nat.le_of_ble_eq_true rfl) dX6_floor_67 ⟨Nat.le_refl _, Nat.le_refl _⟩) (fun r_14 F_13 hp_15 H locs hZ => ?_)
        obtain ⟨pb_20, hpb_20⟩ : ∃ y, y = sPB ((sh (iN d)).2.1) sc m0 (iN q) := ⟨_, rfl⟩
        rw [← hpb_20] at hp_15
        obtain ⟨rfl, hX_17, hf_18⟩ := hp_15
        have hf_19 : fr56 F F_13 := fun q hq => (hf_18 q hq).trans (fr56_rf q hq)
        refine lv_aload_n hx hb dX6_floor_70 rfl (lv_at hl 2 rfl) ?_
        refine lv_aload_n hx hb dX6_floor_71 rfl (lv_at hl 2 rfl) ?_
        refine zget hC hZ fX6_25 (zlt hn rfl) hX_17.1 rfl dX6_floor_72 ?_
        refine lv_iload_n hx hb dX6_floor_75 rfl (lv_at hl 3 rfl) ?_
        refine zaald hC hZ (zlt hn rfl) hX_17.2.2.2.1 (C := RX4) rfl hs_12.1.1 hs_12.1.2 (by decide) rfl dX6_floor_76 ?_
        refine zget hC hZ fX6_163 (by have := hs_12.1.2; omega) (hX_17.2.2.2.2.1 (iN d) hs_12.1.2).1 rfl dX6_floor_77 ?_
        refine lv_iconst (v := 0) hx hb dX6_floor_80 (by decide) ?_
        refine lv_iload_n hx hb dX6_floor_81 rfl (lv_at hl 5 rfl) ?_
        refine zgoi hZ hA (zrunV (As := [.ref (ad (26 + 3 * (iN d) + 1)), .int 0, .int q]) (rest := [.int pb_20.2.1]) (k := 0) hC hZ (c_X6_paceBehind l D cy n ad F_13 H.size pic sc ps sh rd dr fa pb_20 hn hX_17 (26 + 3 * (iN d) + 1) ((sh (iN d)).2.1) (by have := hs_12.1.2; omega) (hX_17.2.2.2.2.1 (iN d) hs_12.1.2).2.1 0 q hq5) mX6_paceBehind vX6_paceBehind kX6_249 (zRj_of rfl) (zlt hn rfl) hX_17.1 rfl rfl hl.1 rfl (Nat.le_of_ble_eq_true rfl) dX6_floor_82 ⟨Nat.le_refl _, Nat.le_refl _⟩) (fun r_22 F_21 hp_23 H locs hZ => ?_)
        obtain ⟨pb_28, hpb_28⟩ : ∃ y, y = sPB ((sh (iN d)).2.1) sc 0 (iN q) := ⟨_, rfl⟩
        rw [← hpb_28] at hp_23
        obtain ⟨rfl, hX_25, hf_26⟩ := hp_23
        have hf_27 : fr56 F F_21 := fun q hq => (hf_26 q hq).trans (hf_19 q hq)
        refine lv_isub hx hb dX6_floor_85 ?_
        have hq0 : (pb_20.2.1 - pb_28.2.1) = zrA (bIn m0 0 40 ∧ bIn q 1 500) (sStR sh d) ((sPB (sh (iN d)).2.1 sc m0 (iN q)).2.1 - (sPB (sh (iN d)).2.1 sc 0 (iN q)).2.1) := by rw [zrA_ok ⟨b_4, b_8⟩ c_46, ← hpb_20, ← hpb_28]
        exact zireti hC hZ hr hlocks ⟨hq0, pb_28, hX_25, hf_27⟩ dX6_floor_86
      · refine lv_iload hx hb dX6_floor_49 (lv_at hl 0 rfl) ?_
        refine zgoi hZ hA (zrunS (As := [.int (sStR sh d)]) (rest := []) hC hZ (c_X6_putApart l D cy n ad F H.size (sStR sh d)) mX6_putApart sX6_putApart kX6_246 (zRj_of rfl) rfl hl.1 rfl (Nat.le_of_ble_eq_true rfl) dX6_floor_51 ⟨Nat.le_refl _, Nat.le_refl _⟩) (fun r_30 F_29 hp_31 H locs hZ => ?_)
        obtain ⟨rfl, rfl⟩ := hp_31
        have hq0 : (-1000000000 + (sStR sh d)) = zrA (bIn m0 0 40 ∧ bIn q 1 500) (sStR sh d) ((sPB (sh (iN d)).2.1 sc m0 (iN q)).2.1 - (sPB (sh (iN d)).2.1 sc 0 (iN q)).2.1) := (zrA_rf ⟨b_4, b_8⟩ c_46).symm
        exact zireti hC hZ hr hlocks ⟨hq0, mi, hX, fr56_rf⟩ dX6_floor_54
    · rw [if_neg b_8] at hp_7
      subst hp_7
      refine lv_if_eq (tgt := 25) hx hb dX6_floor_18 (by decide) (fun _ => ?_) (fun h => absurd (by decide) h)
      refine lv_iconst (v := 0) hx hb dX6_floor_25 (by decide) ?_
      refine lv_istore (lv' := [(4, .int 0), (0, .ref (ad 0)), (1, .int d), (2, .int m0), (3, .int q)]) hx hb dX6_floor_26 hl (by decide) rfl (fun ls hl => ?_)
      refine lv_iload hx hb dX6_floor_28 (lv_at hl 0 rfl) ?_
      refine lv_if_eq (tgt := 41) hx hb dX6_floor_30 (by decide) (fun _ => ?_) (fun h => absurd (by decide) h)
      refine lv_iconst (v := (-1)) hx hb dX6_floor_41 (by decide) ?_
      refine lv_istore (lv' := [(5, .int (-1)), (4, .int 0), (0, .ref (ad 0)), (1, .int d), (2, .int m0), (3, .int q)]) hx hb dX6_floor_42 hl (by decide) rfl (fun ls hl => ?_)
      refine lv_iload hx hb dX6_floor_44 (lv_at hl 0 rfl) ?_
      refine lv_if_eq (tgt := 55) hx hb dX6_floor_46 (by decide) (fun h => absurd h (by decide)) (fun _ => ?_)
      refine lv_iload hx hb dX6_floor_49 (lv_at hl 0 rfl) ?_
      refine zgoi hZ hA (zrunS (As := [.int (-1)]) (rest := []) hC hZ (c_X6_putApart l D cy n ad F H.size (-1)) mX6_putApart sX6_putApart kX6_246 (zRj_of rfl) rfl hl.1 rfl (Nat.le_of_ble_eq_true rfl) dX6_floor_51 ⟨Nat.le_refl _, Nat.le_refl _⟩) (fun r_33 F_32 hp_34 H locs hZ => ?_)
      obtain ⟨rfl, rfl⟩ := hp_34
      have hq0 : (-1000000000 + (-1)) = zrA (bIn m0 0 40 ∧ bIn q 1 500) (sStR sh d) ((sPB (sh (iN d)).2.1 sc m0 (iN q)).2.1 - (sPB (sh (iN d)).2.1 sc 0 (iN q)).2.1) := (zrA_no (fun h => b_8 h.2)).symm
      exact zireti hC hZ hr hlocks ⟨hq0, mi, hX, fr56_rf⟩ dX6_floor_54
  · rw [if_neg b_4] at hp_3
    subst hp_3
    refine lv_if_eq (tgt := 25) hx hb dX6_floor_7 (by decide) (fun _ => ?_) (fun h => absurd (by decide) h)
    refine lv_iconst (v := 0) hx hb dX6_floor_25 (by decide) ?_
    refine lv_istore (lv' := [(4, .int 0), (0, .ref (ad 0)), (1, .int d), (2, .int m0), (3, .int q)]) hx hb dX6_floor_26 hl (by decide) rfl (fun ls hl => ?_)
    refine lv_iload hx hb dX6_floor_28 (lv_at hl 0 rfl) ?_
    refine lv_if_eq (tgt := 41) hx hb dX6_floor_30 (by decide) (fun _ => ?_) (fun h => absurd (by decide) h)
    refine lv_iconst (v := (-1)) hx hb dX6_floor_41 (by decide) ?_
    refine lv_istore (lv' := [(5, .int (-1)), (4, .int 0), (0, .ref (ad 0)), (1, .int d), (2, .int m0), (3, .int q)]) hx hb dX6_floor_42 hl (by decide) rfl (fun ls hl => ?_)
    refine lv_iload hx hb dX6_floor_44 (lv_at hl 0 rfl) ?_
    refine lv_if_eq (tgt := 55) hx hb dX6_floor_46 (by decide) (fun h => absurd h (by decide)) (fun _ => ?_)
    refine lv_iload hx hb dX6_floor_49 (lv_at hl 0 rfl) ?_
    refine zgoi hZ hA (zrunS (As := [.int (-1)]) (rest := []) hC hZ (c_X6_putApart l D cy n ad F H.size (-1)) mX6_putApart sX6_putApart kX6_246 (zRj_of rfl) rfl hl.1 rfl (Nat.le_of_ble_eq_true rfl) dX6_floor_51 ⟨Nat.le_refl _, Nat.le_refl _⟩) (fun r_36 F_35 hp_37 H locs hZ => ?_)
    obtain ⟨rfl, rfl⟩ := hp_37
    have hq0 : (-1000000000 + (-1)) = zrA (bIn m0 0 40 ∧ bIn q 1 500) (sStR sh d) ((sPB (sh (iN d)).2.1 sc m0 (iN q)).2.1 - (sPB (sh (iN d)).2.1 sc 0 (iN q)).2.1) := (zrA_no (fun h => b_4 h.1)).symm
    exact zireti hC hZ hr hlocks ⟨hq0, mi, hX, fr56_rf⟩ dX6_floor_54

theorem mX6_scale : zMd yX6_scale cX6_scale 6 (some .int) 2 := ⟨by decide +kernel, gt_of 540 (by decide +kernel) rfl, gt_of 44 (by decide +kernel) rfl, by decide⟩
theorem dX6_scale_0 : decode cX6_scale 0 = .ok (.iload_n 2, 1) := by decide +kernel
theorem dX6_scale_1 : decode cX6_scale 1 = .ok (.iconst 0, 1) := by decide +kernel
theorem dX6_scale_2 : decode cX6_scale 2 = .ok (.sipush 500, 3) := by decide +kernel
theorem dX6_scale_5 : decode cX6_scale 5 = .ok (.invokestatic 115, 3) := by decide +kernel
theorem dX6_scale_8 : decode cX6_scale 8 = .ok (.ifCond .eq 11, 3) := by decide +kernel
theorem dX6_scale_11 : decode cX6_scale 11 = .ok (.aload_n 0, 1) := by decide +kernel
theorem dX6_scale_12 : decode cX6_scale 12 = .ok (.iload_n 1, 1) := by decide +kernel
theorem dX6_scale_13 : decode cX6_scale 13 = .ok (.invokevirtual 160, 3) := by decide +kernel
theorem dX6_scale_16 : decode cX6_scale 16 = .ok (.goto 4, 3) := by decide +kernel
theorem dX6_scale_20 : decode cX6_scale 20 = .ok (.istore_n 3, 1) := by decide +kernel
theorem dX6_scale_21 : decode cX6_scale 21 = .ok (.iload_n 3, 1) := by decide +kernel
theorem dX6_scale_22 : decode cX6_scale 22 = .ok (.ifCond .eq 5, 3) := by decide +kernel
theorem dX6_scale_27 : decode cX6_scale 27 = .ok (.aload_n 0, 1) := by decide +kernel
theorem dX6_scale_28 : decode cX6_scale 28 = .ok (.aload_n 0, 1) := by decide +kernel
theorem dX6_scale_29 : decode cX6_scale 29 = .ok (.getfield 25, 3) := by decide +kernel
theorem dX6_scale_32 : decode cX6_scale 32 = .ok (.iload_n 1, 1) := by decide +kernel
theorem dX6_scale_33 : decode cX6_scale 33 = .ok (.aaload, 1) := by decide +kernel
theorem dX6_scale_34 : decode cX6_scale 34 = .ok (.getfield 163, 3) := by decide +kernel
theorem dX6_scale_37 : decode cX6_scale 37 = .ok (.iconst 0, 1) := by decide +kernel
theorem dX6_scale_38 : decode cX6_scale 38 = .ok (.iload_n 2, 1) := by decide +kernel
theorem dX6_scale_39 : decode cX6_scale 39 = .ok (.invokevirtual 249, 3) := by decide +kernel
theorem dX6_scale_42 : decode cX6_scale 42 = .ok (.istore 4, 2) := by decide +kernel
theorem dX6_scale_44 : decode cX6_scale 44 = .ok (.aload_n 0, 1) := by decide +kernel
theorem dX6_scale_45 : decode cX6_scale 45 = .ok (.getfield 25, 3) := by decide +kernel
theorem dX6_scale_48 : decode cX6_scale 48 = .ok (.iload_n 1, 1) := by decide +kernel
theorem dX6_scale_49 : decode cX6_scale 49 = .ok (.aaload, 1) := by decide +kernel
theorem dX6_scale_50 : decode cX6_scale 50 = .ok (.getfield 163, 3) := by decide +kernel
theorem dX6_scale_53 : decode cX6_scale 53 = .ok (.aload_n 0, 1) := by decide +kernel
theorem dX6_scale_54 : decode cX6_scale 54 = .ok (.getfield 10, 3) := by decide +kernel
theorem dX6_scale_57 : decode cX6_scale 57 = .ok (.getfield 97, 3) := by decide +kernel
theorem dX6_scale_60 : decode cX6_scale 60 = .ok (.invokevirtual 166, 3) := by decide +kernel
theorem dX6_scale_63 : decode cX6_scale 63 = .ok (.istore 5, 2) := by decide +kernel
theorem dX6_scale_65 : decode cX6_scale 65 = .ok (.aload_n 0, 1) := by decide +kernel
theorem dX6_scale_66 : decode cX6_scale 66 = .ok (.getfield 10, 3) := by decide +kernel
theorem dX6_scale_69 : decode cX6_scale 69 = .ok (.getfield 109, 3) := by decide +kernel
theorem dX6_scale_72 : decode cX6_scale 72 = .ok (.aload_n 0, 1) := by decide +kernel
theorem dX6_scale_73 : decode cX6_scale 73 = .ok (.getfield 57, 3) := by decide +kernel
theorem dX6_scale_76 : decode cX6_scale 76 = .ok (.getfield 89, 3) := by decide +kernel
theorem dX6_scale_79 : decode cX6_scale 79 = .ok (.isub, 1) := by decide +kernel
theorem dX6_scale_80 : decode cX6_scale 80 = .ok (.iconst 2, 1) := by decide +kernel
theorem dX6_scale_81 : decode cX6_scale 81 = .ok (.imul, 1) := by decide +kernel
theorem dX6_scale_82 : decode cX6_scale 82 = .ok (.iload 4, 2) := by decide +kernel
theorem dX6_scale_84 : decode cX6_scale 84 = .ok (.iload 4, 2) := by decide +kernel
theorem dX6_scale_86 : decode cX6_scale 86 = .ok (.imul, 1) := by decide +kernel
theorem dX6_scale_87 : decode cX6_scale 87 = .ok (.iload 5, 2) := by decide +kernel
theorem dX6_scale_89 : decode cX6_scale 89 = .ok (.imul, 1) := by decide +kernel
theorem dX6_scale_90 : decode cX6_scale 90 = .ok (.sipush 10000, 3) := by decide +kernel
theorem dX6_scale_93 : decode cX6_scale 93 = .ok (.idiv, 1) := by decide +kernel
theorem dX6_scale_94 : decode cX6_scale 94 = .ok (.iadd, 1) := by decide +kernel
theorem dX6_scale_95 : decode cX6_scale 95 = .ok (.ireturn, 1) := by decide +kernel
theorem dX6_scale_25 : decode cX6_scale 25 = .ok (.iload_n 3, 1) := by decide +kernel
theorem dX6_scale_26 : decode cX6_scale 26 = .ok (.ireturn, 1) := by decide +kernel
theorem dX6_scale_19 : decode cX6_scale 19 = .ok (.iconst (-1), 1) := by decide +kernel
set_option maxRecDepth 100000 in
theorem c_X6_scale (l : Launch) (D : va_G) (cy : Nat → Nat) (n : Nat) (ad : Nat → Nat) (F : Nat → va_E) (sz : Nat) (pic : Int32) (sc ps : Scn) (sh : Nat → Shf) (rd : Rdr) (dr : Stg) (fa : Tal) (mi : Crs) (hn : 56 ≤ n) (hX : RX ad cy F pic sc ps sh rd dr fa mi) (d q : Int32) : Met l yX6_scale (zw yX6_scale cX6_scale 6 (some .int)) (rmL 4) (zPc D cy n ad F sz [.ref (ad 0), .int d, .int q]) (va_Qi (fun r F1 => r = zr (bIn q 0 500) (sStR sh d) (sScale (sh (iN d)).2.1 sc q) ∧ ∃ mi1, RX ad cy F1 pic sc ps sh rd dr fa mi1 ∧ fr56 F F1) (zB D n ad) (zA n ad sz)) 0 0 (zA n ad sz) := by
  refine zmet (by decide +kernel) (Nat.le_of_ble_eq_true rfl) (fun p e s m args below meth c ls hC hsz hZ hA hr hlocks hnm hl => ?_)
  have hC : zC p m c cX6_scale 6 s args RX6 D cy := hC
  have hx := hC.1.1
  have hb := hC.1.2.1
  have hl : lv_has ls 6 [(0, .ref (ad 0)), (1, .int d), (2, .int q)] := hl
  refine lv_iload_n hx hb dX6_scale_0 rfl (lv_at hl 2 rfl) ?_
  refine lv_iconst (v := 0) hx hb dX6_scale_1 (by decide) ?_
  refine lv_sipush (v := 500) hx hb dX6_scale_2 (by decide) ?_
  refine zgoi hZ hA (zrunS (As := [.int q, .int 0, .int 500]) (rest := []) hC hZ (c_X6_isWithin l D cy n ad F s.heap.size q 0 500) mX6_isWithin sX6_isWithin kX6_115 (zRj_of rfl) rfl hl.1 rfl (Nat.le_of_ble_eq_true rfl) dX6_scale_5 ⟨Nat.le_refl _, Nat.le_refl _⟩) (fun r_2 F_1 hp_3 H locs hZ => ?_)
  obtain ⟨hp_3, rfl⟩ := hp_3
  by_cases b_4 : bIn q 0 500
  · rw [if_pos b_4] at hp_3
    subst hp_3
    refine lv_if_eq (tgt := 19) hx hb dX6_scale_8 (by decide) (fun h => absurd h (by decide)) (fun _ => ?_)
    refine lv_aload_n hx hb dX6_scale_11 rfl (lv_at hl 0 rfl) ?_
    refine lv_iload_n hx hb dX6_scale_12 rfl (lv_at hl 1 rfl) ?_
    refine zgoi hZ hA (zrunV (As := [.int d]) (rest := []) (k := 0) hC hZ (c_X6_storyRefusal l D cy n ad F H.size pic sc ps sh rd dr fa mi hn hX d) mX6_storyRefusal vX6_storyRefusal kX6_160 (zRj_of rfl) (zlt hn rfl) hX.1 rfl rfl hl.1 rfl (Nat.le_of_ble_eq_true rfl) dX6_scale_13 ⟨Nat.le_refl _, Nat.le_refl _⟩) (fun r_6 F_5 hp_7 H locs hZ => ?_)
    obtain ⟨rfl, rfl⟩ := hp_7
    refine lv_goto (tgt := 20) hx hb dX6_scale_16 (by decide) ?_
    refine lv_istore_n (lv' := [(3, .int (sStR sh d)), (0, .ref (ad 0)), (1, .int d), (2, .int q)]) hx hb dX6_scale_20 rfl hl (by decide) rfl (fun ls hl => ?_)
    refine lv_iload_n hx hb dX6_scale_21 rfl (lv_at hl 0 rfl) ?_
    refine lv_if_eq (tgt := 27) hx hb dX6_scale_22 (by decide) (fun c_22 => ?_) (fun c_22 => ?_)
    · refine lv_aload_n hx hb dX6_scale_27 rfl (lv_at hl 1 rfl) ?_
      refine lv_aload_n hx hb dX6_scale_28 rfl (lv_at hl 1 rfl) ?_
      refine zget hC hZ fX6_25 (zlt hn rfl) hX.1 rfl dX6_scale_29 ?_
      refine lv_iload_n hx hb dX6_scale_32 rfl (lv_at hl 2 rfl) ?_
      have hs_8 := sStR_0 c_22
      refine zaald hC hZ (zlt hn rfl) hX.2.2.2.1 (C := RX4) rfl hs_8.1.1 hs_8.1.2 (by decide) rfl dX6_scale_33 ?_
      refine zget hC hZ fX6_163 (by have := hs_8.1.2; omega) (hX.2.2.2.2.1 (iN d) hs_8.1.2).1 rfl dX6_scale_34 ?_
      refine lv_iconst (v := 0) hx hb dX6_scale_37 (by decide) ?_
      refine lv_iload_n hx hb dX6_scale_38 rfl (lv_at hl 3 rfl) ?_
      have hq5 := bIn_n (N := 500) b_4 (by decide) rfl
      refine zgoi hZ hA (zrunV (As := [.ref (ad (26 + 3 * (iN d) + 1)), .int 0, .int q]) (rest := []) (k := 0) hC hZ (c_X6_paceBehind l D cy n ad F H.size pic sc ps sh rd dr fa mi hn hX (26 + 3 * (iN d) + 1) ((sh (iN d)).2.1) (by have := hs_8.1.2; omega) (hX.2.2.2.2.1 (iN d) hs_8.1.2).2.1 0 q hq5) mX6_paceBehind vX6_paceBehind kX6_249 (zRj_of rfl) (zlt hn rfl) hX.1 rfl rfl hl.1 rfl (Nat.le_of_ble_eq_true rfl) dX6_scale_39 ⟨Nat.le_refl _, Nat.le_refl _⟩) (fun r_10 F_9 hp_11 H locs hZ => ?_)
      obtain ⟨pb_16, hpb_16⟩ : ∃ y, y = sPB ((sh (iN d)).2.1) sc 0 (iN q) := ⟨_, rfl⟩
      rw [← hpb_16] at hp_11
      obtain ⟨rfl, hX_13, hf_14⟩ := hp_11
      have hf_15 : fr56 F F_9 := fun q hq => (hf_14 q hq).trans (fr56_rf q hq)
      refine lv_istore (lv' := [(4, .int pb_16.2.1), (3, .int (sStR sh d)), (0, .ref (ad 0)), (1, .int d), (2, .int q)]) hx hb dX6_scale_42 hl (by decide) rfl (fun ls hl => ?_)
      refine lv_aload_n hx hb dX6_scale_44 rfl (lv_at hl 2 rfl) ?_
      refine zget hC hZ fX6_25 (zlt hn rfl) hX_13.1 rfl dX6_scale_45 ?_
      refine lv_iload_n hx hb dX6_scale_48 rfl (lv_at hl 3 rfl) ?_
      refine zaald hC hZ (zlt hn rfl) hX_13.2.2.2.1 (C := RX4) rfl hs_8.1.1 hs_8.1.2 (by decide) rfl dX6_scale_49 ?_
      refine zget hC hZ fX6_163 (by have := hs_8.1.2; omega) (hX_13.2.2.2.2.1 (iN d) hs_8.1.2).1 rfl dX6_scale_50 ?_
      refine lv_aload_n hx hb dX6_scale_53 rfl (lv_at hl 2 rfl) ?_
      refine zget hC hZ fX6_10 (zlt hn rfl) hX_13.1 rfl dX6_scale_54 ?_
      refine zget hC hZ fX6_97 (zlt hn rfl) hX_13.2.1.1 rfl dX6_scale_57 ?_
      refine zgoi hZ hA (zrunV (As := [.ref (ad 2)]) (rest := []) (k := 26 + 3 * (iN d) + 1) hC hZ (c_X5_kick l D cy n ad F_9 H.size (26 + 3 * (iN d) + 1) (sh (iN d)).2.1 (by have := hs_8.1.2; omega) (hX_13.2.2.2.2.1 (iN d) hs_8.1.2).2.1 2 sc.1 (zlt hn rfl) hX_13.2.1.2.1) mX5_kick vX5_kick kX6_166 (zRj_of rfl) (by have := hs_8.1.2; omega) (hX_13.2.2.2.2.1 (iN d) hs_8.1.2).2.1 rfl rfl hl.1 rfl (Nat.le_of_ble_eq_true rfl) dX6_scale_60 ⟨Nat.le_refl _, Nat.le_refl _⟩) (fun r_18 F_17 hp_19 H locs hZ => ?_)
      obtain ⟨rfl, rfl⟩ := hp_19
      refine lv_istore (lv' := [(5, .int (sKick (sh (iN d)).2.1 sc.1)), (4, .int pb_16.2.1), (3, .int (sStR sh d)), (0, .ref (ad 0)), (1, .int d), (2, .int q)]) hx hb dX6_scale_63 hl (by decide) rfl (fun ls hl => ?_)
      refine lv_aload_n hx hb dX6_scale_65 rfl (lv_at hl 3 rfl) ?_
      refine zget hC hZ fX6_10 (zlt hn rfl) hX_13.1 rfl dX6_scale_66 ?_
      refine zget hC hZ fX6_109 (zlt hn rfl) hX_13.2.1.1 rfl dX6_scale_69 ?_
      refine lv_aload_n hx hb dX6_scale_72 rfl (lv_at hl 3 rfl) ?_
      refine zget hC hZ fX6_57 (zlt hn rfl) hX_13.1 rfl dX6_scale_73 ?_
      refine zget hC hZ fX6_89 (zlt hn rfl) hX_13.2.2.2.2.2.2.2.2.2 rfl dX6_scale_76 ?_
      refine lv_isub hx hb dX6_scale_79 ?_
      refine lv_iconst (v := 2) hx hb dX6_scale_80 (by decide) ?_
      refine lv_imul hx hb dX6_scale_81 ?_
      refine lv_iload hx hb dX6_scale_82 (lv_at hl 1 rfl) ?_
      refine lv_iload hx hb dX6_scale_84 (lv_at hl 1 rfl) ?_
      refine lv_imul hx hb dX6_scale_86 ?_
      refine lv_iload hx hb dX6_scale_87 (lv_at hl 0 rfl) ?_
      refine lv_imul hx hb dX6_scale_89 ?_
      refine lv_sipush (v := 10000) hx hb dX6_scale_90 (by decide) ?_
      refine lv_idiv hx hb dX6_scale_93 (by decide) ?_
      refine lv_iadd hx hb dX6_scale_94 ?_
      have hv_21 : (((sc.2.1 - pb_16.2.2.2.1) * 2) + (((pb_16.2.1 * pb_16.2.1) * (sKick (sh (iN d)).2.1 sc.1)) / 10000)) = sScale (sh (iN d)).2.1 sc q := by unfold sScale; rw [← hpb_16]
      have hq_20 : (((sc.2.1 - pb_16.2.2.2.1) * 2) + (((pb_16.2.1 * pb_16.2.1) * (sKick (sh (iN d)).2.1 sc.1)) / 10000)) = zr (bIn q 0 500) (sStR sh d) (sScale (sh (iN d)).2.1 sc q) := hv_21.trans (zr_ok b_4 c_22).symm
      exact zireti hC hZ hr hlocks ⟨hq_20, pb_16, hX_13, hf_15⟩ dX6_scale_95
    · refine lv_iload_n hx hb dX6_scale_25 rfl (lv_at hl 0 rfl) ?_
      have hq_22 : (sStR sh d) = zr (bIn q 0 500) (sStR sh d) (sScale (sh (iN d)).2.1 sc q) := (zr_rf b_4 c_22).symm
      exact zireti hC hZ hr hlocks ⟨hq_22, mi, hX, fr56_rf⟩ dX6_scale_26
  · rw [if_neg b_4] at hp_3
    subst hp_3
    refine lv_if_eq (tgt := 19) hx hb dX6_scale_8 (by decide) (fun _ => ?_) (fun h => absurd (by decide) h)
    refine lv_iconst (v := (-1)) hx hb dX6_scale_19 (by decide) ?_
    refine lv_istore_n (lv' := [(3, .int (-1)), (0, .ref (ad 0)), (1, .int d), (2, .int q)]) hx hb dX6_scale_20 rfl hl (by decide) rfl (fun ls hl => ?_)
    refine lv_iload_n hx hb dX6_scale_21 rfl (lv_at hl 0 rfl) ?_
    refine lv_if_eq (tgt := 27) hx hb dX6_scale_22 (by decide) (fun h => absurd h (by decide)) (fun _ => ?_)
    refine lv_iload_n hx hb dX6_scale_25 rfl (lv_at hl 0 rfl) ?_
    have hq_23 : (-1 : Int32) = zr (bIn q 0 500) (sStR sh d) (sScale (sh (iN d)).2.1 sc q) := (zr_no b_4).symm
    exact zireti hC hZ hr hlocks ⟨hq_23, mi, hX, fr56_rf⟩ dX6_scale_26

theorem mX6_rested : zMd yX6_rested cX6_rested 6 (some .int) 1 := ⟨by decide +kernel, gt_of 528 (by decide +kernel) rfl, gt_of 44 (by decide +kernel) rfl, by decide⟩
theorem dX6_rested_0 : decode cX6_rested 0 = .ok (.aload_n 0, 1) := by decide +kernel
theorem dX6_rested_1 : decode cX6_rested 1 = .ok (.iload_n 1, 1) := by decide +kernel
theorem dX6_rested_2 : decode cX6_rested 2 = .ok (.invokevirtual 160, 3) := by decide +kernel
theorem dX6_rested_5 : decode cX6_rested 5 = .ok (.istore_n 2, 1) := by decide +kernel
theorem dX6_rested_6 : decode cX6_rested 6 = .ok (.iload_n 2, 1) := by decide +kernel
theorem dX6_rested_7 : decode cX6_rested 7 = .ok (.ifCond .eq 5, 3) := by decide +kernel
theorem dX6_rested_12 : decode cX6_rested 12 = .ok (.aload_n 0, 1) := by decide +kernel
theorem dX6_rested_13 : decode cX6_rested 13 = .ok (.getfield 57, 3) := by decide +kernel
theorem dX6_rested_16 : decode cX6_rested 16 = .ok (.invokevirtual 184, 3) := by decide +kernel
theorem dX6_rested_19 : decode cX6_rested 19 = .ok (.aload_n 0, 1) := by decide +kernel
theorem dX6_rested_20 : decode cX6_rested 20 = .ok (.getfield 10, 3) := by decide +kernel
theorem dX6_rested_23 : decode cX6_rested 23 = .ok (.aload_n 0, 1) := by decide +kernel
theorem dX6_rested_24 : decode cX6_rested 24 = .ok (.getfield 57, 3) := by decide +kernel
theorem dX6_rested_27 : decode cX6_rested 27 = .ok (.aload_n 0, 1) := by decide +kernel
theorem dX6_rested_28 : decode cX6_rested 28 = .ok (.getfield 25, 3) := by decide +kernel
theorem dX6_rested_31 : decode cX6_rested 31 = .ok (.iload_n 1, 1) := by decide +kernel
theorem dX6_rested_32 : decode cX6_rested 32 = .ok (.aaload, 1) := by decide +kernel
theorem dX6_rested_33 : decode cX6_rested 33 = .ok (.getfield 163, 3) := by decide +kernel
theorem dX6_rested_36 : decode cX6_rested 36 = .ok (.invokevirtual 180, 3) := by decide +kernel
theorem dX6_rested_39 : decode cX6_rested 39 = .ok (.iconst 1, 1) := by decide +kernel
theorem dX6_rested_40 : decode cX6_rested 40 = .ok (.istore_n 3, 1) := by decide +kernel
theorem dX6_rested_41 : decode cX6_rested 41 = .ok (.iload_n 3, 1) := by decide +kernel
theorem dX6_rested_42 : decode cX6_rested 42 = .ok (.sipush 500, 3) := by decide +kernel
theorem dX6_rested_45 : decode cX6_rested 45 = .ok (.if_icmp .gt 73, 3) := by decide +kernel
theorem dX6_rested_118 : decode cX6_rested 118 = .ok (.bipush (-4), 2) := by decide +kernel
theorem dX6_rested_120 : decode cX6_rested 120 = .ok (.ireturn, 1) := by decide +kernel
theorem dX6_rested_48 : decode cX6_rested 48 = .ok (.aload_n 0, 1) := by decide +kernel
theorem dX6_rested_49 : decode cX6_rested 49 = .ok (.getfield 57, 3) := by decide +kernel
theorem dX6_rested_52 : decode cX6_rested 52 = .ok (.getfield 187, 3) := by decide +kernel
theorem dX6_rested_55 : decode cX6_rested 55 = .ok (.istore 4, 2) := by decide +kernel
theorem dX6_rested_57 : decode cX6_rested 57 = .ok (.aload_n 0, 1) := by decide +kernel
theorem dX6_rested_58 : decode cX6_rested 58 = .ok (.getfield 57, 3) := by decide +kernel
theorem dX6_rested_61 : decode cX6_rested 61 = .ok (.getfield 190, 3) := by decide +kernel
theorem dX6_rested_64 : decode cX6_rested 64 = .ok (.istore 5, 2) := by decide +kernel
theorem dX6_rested_66 : decode cX6_rested 66 = .ok (.aload_n 0, 1) := by decide +kernel
theorem dX6_rested_67 : decode cX6_rested 67 = .ok (.getfield 10, 3) := by decide +kernel
theorem dX6_rested_70 : decode cX6_rested 70 = .ok (.aload_n 0, 1) := by decide +kernel
theorem dX6_rested_71 : decode cX6_rested 71 = .ok (.getfield 57, 3) := by decide +kernel
theorem dX6_rested_74 : decode cX6_rested 74 = .ok (.aload_n 0, 1) := by decide +kernel
theorem dX6_rested_75 : decode cX6_rested 75 = .ok (.getfield 25, 3) := by decide +kernel
theorem dX6_rested_78 : decode cX6_rested 78 = .ok (.iload_n 1, 1) := by decide +kernel
theorem dX6_rested_79 : decode cX6_rested 79 = .ok (.aaload, 1) := by decide +kernel
theorem dX6_rested_80 : decode cX6_rested 80 = .ok (.getfield 163, 3) := by decide +kernel
theorem dX6_rested_83 : decode cX6_rested 83 = .ok (.invokevirtual 180, 3) := by decide +kernel
theorem dX6_rested_86 : decode cX6_rested 86 = .ok (.aload_n 0, 1) := by decide +kernel
theorem dX6_rested_87 : decode cX6_rested 87 = .ok (.getfield 57, 3) := by decide +kernel
theorem dX6_rested_90 : decode cX6_rested 90 = .ok (.getfield 187, 3) := by decide +kernel
theorem dX6_rested_93 : decode cX6_rested 93 = .ok (.iload 4, 2) := by decide +kernel
theorem dX6_rested_95 : decode cX6_rested 95 = .ok (.if_icmp .ne 17, 3) := by decide +kernel
theorem dX6_rested_112 : decode cX6_rested 112 = .ok (.iinc 3 1, 3) := by decide +kernel
theorem dX6_rested_115 : decode cX6_rested 115 = .ok (.goto (-74), 3) := by decide +kernel
theorem dX6_rested_98 : decode cX6_rested 98 = .ok (.aload_n 0, 1) := by decide +kernel
theorem dX6_rested_99 : decode cX6_rested 99 = .ok (.getfield 57, 3) := by decide +kernel
theorem dX6_rested_102 : decode cX6_rested 102 = .ok (.getfield 190, 3) := by decide +kernel
theorem dX6_rested_105 : decode cX6_rested 105 = .ok (.iload 5, 2) := by decide +kernel
theorem dX6_rested_107 : decode cX6_rested 107 = .ok (.if_icmp .ne 5, 3) := by decide +kernel
theorem dX6_rested_110 : decode cX6_rested 110 = .ok (.iload_n 3, 1) := by decide +kernel
theorem dX6_rested_111 : decode cX6_rested 111 = .ok (.ireturn, 1) := by decide +kernel
theorem dX6_rested_10 : decode cX6_rested 10 = .ok (.iload_n 2, 1) := by decide +kernel
theorem dX6_rested_11 : decode cX6_rested 11 = .ok (.ireturn, 1) := by decide +kernel
set_option maxRecDepth 100000 in
theorem c_X6_rested (l : Launch) (D : va_G) (cy : Nat → Nat) (n : Nat) (ad : Nat → Nat) (F : Nat → va_E) (sz : Nat) (pic : Int32) (sc ps : Scn) (sh : Nat → Shf) (rd : Rdr) (dr : Stg) (fa : Tal) (mi : Crs) (hn : 56 ≤ n) (hX : RX ad cy F pic sc ps sh rd dr fa mi) (d : Int32) : Met l yX6_rested (zw yX6_rested cX6_rested 6 (some .int)) (rmL 4) (zPc D cy n ad F sz [.ref (ad 0), .int d]) (va_Qi (fun r F1 => r = zr True (sStR sh d) (sRested (sh (iN d)).2.1 sc) ∧ ∃ mi1, RX ad cy F1 pic sc ps sh rd dr fa mi1 ∧ fr56 F F1) (zB D n ad) (zA n ad sz)) 0 0 (zA n ad sz) := by
  refine zmet (by decide +kernel) (Nat.le_of_ble_eq_true rfl) (fun p e s m args below meth c ls hC hsz hZ hA hr hlocks hnm hl => ?_)
  have hC : zC p m c cX6_rested 6 s args RX6 D cy := hC
  have hx := hC.1.1
  have hb := hC.1.2.1
  have hl : lv_has ls 6 [(0, .ref (ad 0)), (1, .int d)] := hl
  refine lv_aload_n hx hb dX6_rested_0 rfl (lv_at hl 0 rfl) ?_
  refine lv_iload_n hx hb dX6_rested_1 rfl (lv_at hl 1 rfl) ?_
  refine zgoi hZ hA (zrunV (As := [.int d]) (rest := []) (k := 0) hC hZ (c_X6_storyRefusal l D cy n ad F s.heap.size pic sc ps sh rd dr fa mi hn hX d) mX6_storyRefusal vX6_storyRefusal kX6_160 (zRj_of rfl) (zlt hn rfl) hX.1 rfl rfl hl.1 rfl (Nat.le_of_ble_eq_true rfl) dX6_rested_2 ⟨Nat.le_refl _, Nat.le_refl _⟩) (fun r_2 F_1 hp_3 H locs hZ => ?_)
  obtain ⟨rfl, rfl⟩ := hp_3
  refine lv_istore_n (lv' := [(2, .int (sStR sh d)), (0, .ref (ad 0)), (1, .int d)]) hx hb dX6_rested_5 rfl hl (by decide) rfl (fun ls hl => ?_)
  refine lv_iload_n hx hb dX6_rested_6 rfl (lv_at hl 0 rfl) ?_
  refine lv_if_eq (tgt := 12) hx hb dX6_rested_7 (by decide) (fun c_7 => ?_) (fun c_7 => ?_)
  · refine lv_aload_n hx hb dX6_rested_12 rfl (lv_at hl 1 rfl) ?_
    refine zget hC hZ fX6_57 (zlt hn rfl) hX.1 rfl dX6_rested_13 ?_
    refine zgov hZ hA (zrunV (As := []) (rest := []) (k := 55) hC hZ (c_X0_clear l D cy n ad F H.size 55 mi (zlt hn rfl) hX.2.2.2.2.2.2.2.2.2) mX0_clear vX0_clear kX6_184 (zRj_of rfl) (zlt hn rfl) hX.2.2.2.2.2.2.2.2.2 rfl rfl hl.1 rfl (Nat.le_of_ble_eq_true rfl) dX6_rested_16 ⟨Nat.le_refl _, Nat.le_refl _⟩) (fun F_4 hp_6 H locs hZ => ?_)
    have hX_7 := rx_mind hX hp_6
    have hf_8 := fr56_up fr56_rf hp_6 (by decide)
    have hX_7 : RX ad cy F_4 pic sc ps sh rd dr fa (0, 0, 0, 0, 0) := hX_7
    refine lv_aload_n hx hb dX6_rested_19 rfl (lv_at hl 1 rfl) ?_
    refine zget hC hZ fX6_10 (zlt hn rfl) hX_7.1 rfl dX6_rested_20 ?_
    refine lv_aload_n hx hb dX6_rested_23 rfl (lv_at hl 1 rfl) ?_
    refine zget hC hZ fX6_57 (zlt hn rfl) hX_7.1 rfl dX6_rested_24 ?_
    refine lv_aload_n hx hb dX6_rested_27 rfl (lv_at hl 1 rfl) ?_
    refine zget hC hZ fX6_25 (zlt hn rfl) hX_7.1 rfl dX6_rested_28 ?_
    refine lv_iload_n hx hb dX6_rested_31 rfl (lv_at hl 2 rfl) ?_
    have hs_9 := sStR_0 c_7
    refine zaald hC hZ (zlt hn rfl) hX_7.2.2.2.1 (C := RX4) rfl hs_9.1.1 hs_9.1.2 (by decide) rfl dX6_rested_32 ?_
    refine zget hC hZ fX6_163 (by have := hs_9.1.2; omega) (hX_7.2.2.2.2.1 (iN d) hs_9.1.2).1 rfl dX6_rested_33 ?_
    refine zgov hZ hA (zrunV (As := [.ref (ad 55), .ref (ad (26 + 3 * (iN d) + 1))]) (rest := []) (k := 1) hC hZ (c_X2_step l D cy n ad F_4 H.size 1 sc (by omega) hX_7.2.1 55 (0, 0, 0, 0, 0) (zlt hn rfl) hX_7.2.2.2.2.2.2.2.2.2 (26 + 3 * (iN d) + 1) (sh (iN d)).2.1 (by have := hs_9.1.2; omega) (hX_7.2.2.2.2.1 (iN d) hs_9.1.2).2.1) mX2_step vX2_step kX6_180 (zRj_of rfl) (zlt hn rfl) hX_7.2.1.1 rfl rfl hl.1 rfl (Nat.le_of_ble_eq_true rfl) dX6_rested_36 ⟨Nat.le_refl _, Nat.le_refl _⟩) (fun F_10 hp_12 H locs hZ => ?_)
    have hX_13 := rx_mind hX_7 hp_12
    have hf_14 := fr56_up hf_8 hp_12 (by decide)
    have hX_13 : RX ad cy F_10 pic sc ps sh rd dr fa (sStep (sKick (sh (iN d)).2.1 sc.1) (sLess (sh (iN d)).2.1 sc.1) sc.1.2.2.2 sc.2.1 (0, 0, 0, 0, 0)) := hX_13
    refine lv_iconst (v := 1) hx hb dX6_rested_39 (by decide) ?_
    refine lv_istore_n (lv' := [(3, .int 1), (2, .int (sStR sh d)), (0, .ref (ad 0)), (1, .int d)]) hx hb dX6_rested_40 rfl hl (by decide) rfl (fun ls hl => ?_)
    refine zlp (X := Nat) 41 (fun _ => []) (fun x ls F1 => lv_has ls 6 [(3, .int (nI (x + 1))), (2, .int (sStR sh d)), (0, .ref (ad 0)), (1, .int d)] ∧ RX ad cy F1 pic sc ps sh rd dr fa (sIt (sF (sh (iN d)).2.1 sc) (x + 1) sCC) ∧ fr56 F F1 ∧ x ≤ 500 ∧ zfind (sRestP (sh (iN d)).2.1 sc) (500 - x) (x + 1) = sRested (sh (iN d)).2.1 sc) (fun x => 500 - x) ?_ 0 hZ ⟨hl, hX_13, hf_14, (Nat.zero_le _), rfl⟩
    intro j ih ls F3 H locs hZ hφ
    obtain ⟨hl, hXl, hfl, hj, hT⟩ := hφ
    have hl : lv_has ls 6 [(3, .int (nI (j + 1))), (2, .int (sStR sh d)), (0, .ref (ad 0)), (1, .int d)] := hl
    have hX41 : RX ad cy F3 pic sc ps sh rd dr fa (sIt (sF (sh (iN d)).2.1 sc) (j + 1) sCC) := hXl
    have hj : j ≤ 500 := hj
    have hT : zfind (sRestP (sh (iN d)).2.1 sc) (500 - j) (j + 1) = sRested (sh (iN d)).2.1 sc := hT
    refine lv_iload_n hx hb dX6_rested_41 rfl (lv_at hl 0 rfl) ?_
    refine lv_sipush (v := 500) hx hb dX6_rested_42 (by decide) ?_
    refine lv_icmp_gt (tgt := 118) hx hb dX6_rested_45 (by decide) (fun c_45 => ?_) (fun c_45 => ?_)
    · refine lv_bipush (v := (-4)) hx hb dX6_rested_118 (by decide) ?_
      have hj5 : j = 500 := by rcases Nat.lt_or_ge j 500 with h | h; exact absurd c_45 (nI_nlt (a := 500) (b := j + 1) (by omega) (by omega)); omega
      have hv_16 : (-4 : Int32) = sRested (sh (iN d)).2.1 sc := by rw [← hT, hj5]; rfl
      have hq_15 : (-4 : Int32) = zr (True) (sStR sh d) (sRested (sh (iN d)).2.1 sc) := hv_16.trans (zr_ok trivial c_7).symm
      exact zireti hC hZ hr hlocks ⟨hq_15, (sIt (sF (sh (iN d)).2.1 sc) (j + 1) sCC), hX41, hfl⟩ dX6_rested_120
    · refine lv_aload_n hx hb dX6_rested_48 rfl (lv_at hl 2 rfl) ?_
      refine zget hC hZ fX6_57 (zlt hn rfl) hX41.1 rfl dX6_rested_49 ?_
      refine zget hC hZ fX6_187 (zlt hn rfl) hX41.2.2.2.2.2.2.2.2.2 rfl dX6_rested_52 ?_
      refine lv_istore (lv' := [(4, .int ((sIt (sF (sh (iN d)).2.1 sc) (j + 1) sCC).2.1)), (3, .int (nI (j + 1))), (2, .int (sStR sh d)), (0, .ref (ad 0)), (1, .int d)]) hx hb dX6_rested_55 hl (by decide) rfl (fun ls hl => ?_)
      refine lv_aload_n hx hb dX6_rested_57 rfl (lv_at hl 3 rfl) ?_
      refine zget hC hZ fX6_57 (zlt hn rfl) hX41.1 rfl dX6_rested_58 ?_
      refine zget hC hZ fX6_190 (zlt hn rfl) hX41.2.2.2.2.2.2.2.2.2 rfl dX6_rested_61 ?_
      refine lv_istore (lv' := [(5, .int ((sIt (sF (sh (iN d)).2.1 sc) (j + 1) sCC).2.2.1)), (4, .int ((sIt (sF (sh (iN d)).2.1 sc) (j + 1) sCC).2.1)), (3, .int (nI (j + 1))), (2, .int (sStR sh d)), (0, .ref (ad 0)), (1, .int d)]) hx hb dX6_rested_64 hl (by decide) rfl (fun ls hl => ?_)
      refine lv_aload_n hx hb dX6_rested_66 rfl (lv_at hl 4 rfl) ?_
      refine zget hC hZ fX6_10 (zlt hn rfl) hX41.1 rfl dX6_rested_67 ?_
      refine lv_aload_n hx hb dX6_rested_70 rfl (lv_at hl 4 rfl) ?_
      refine zget hC hZ fX6_57 (zlt hn rfl) hX41.1 rfl dX6_rested_71 ?_
      refine lv_aload_n hx hb dX6_rested_74 rfl (lv_at hl 4 rfl) ?_
      refine zget hC hZ fX6_25 (zlt hn rfl) hX41.1 rfl dX6_rested_75 ?_
      refine lv_iload_n hx hb dX6_rested_78 rfl (lv_at hl 5 rfl) ?_
      refine zaald hC hZ (zlt hn rfl) hX41.2.2.2.1 (C := RX4) rfl hs_9.1.1 hs_9.1.2 (by decide) rfl dX6_rested_79 ?_
      refine zget hC hZ fX6_163 (by have := hs_9.1.2; omega) (hX41.2.2.2.2.1 (iN d) hs_9.1.2).1 rfl dX6_rested_80 ?_
      refine zgov hZ hA (zrunV (As := [.ref (ad 55), .ref (ad (26 + 3 * (iN d) + 1))]) (rest := []) (k := 1) hC hZ (c_X2_step l D cy n ad F3 H.size 1 sc (by omega) hX41.2.1 55 (sIt (sF (sh (iN d)).2.1 sc) (j + 1) sCC) (zlt hn rfl) hX41.2.2.2.2.2.2.2.2.2 (26 + 3 * (iN d) + 1) (sh (iN d)).2.1 (by have := hs_9.1.2; omega) (hX41.2.2.2.2.1 (iN d) hs_9.1.2).2.1) mX2_step vX2_step kX6_180 (zRj_of rfl) (zlt hn rfl) hX41.2.1.1 rfl rfl hl.1 rfl (Nat.le_of_ble_eq_true rfl) dX6_rested_83 ⟨Nat.le_refl _, Nat.le_refl _⟩) (fun F_17 hp_19 H locs hZ => ?_)
      have hX_20 := rx_mind hX41 hp_19
      have hf_21 := fr56_up hfl hp_19 (by decide)
      have hX_20 : RX ad cy F_17 pic sc ps sh rd dr fa (sStep (sKick (sh (iN d)).2.1 sc.1) (sLess (sh (iN d)).2.1 sc.1) sc.1.2.2.2 sc.2.1 (sIt (sF (sh (iN d)).2.1 sc) (j + 1) sCC)) := hX_20
      refine lv_aload_n hx hb dX6_rested_86 rfl (lv_at hl 4 rfl) ?_
      refine zget hC hZ fX6_57 (zlt hn rfl) hX_20.1 rfl dX6_rested_87 ?_
      refine zget hC hZ fX6_187 (zlt hn rfl) hX_20.2.2.2.2.2.2.2.2.2 rfl dX6_rested_90 ?_
      refine lv_iload hx hb dX6_rested_93 (lv_at hl 1 rfl) ?_
      refine lv_icmp_ne (tgt := 112) hx hb dX6_rested_95 (by decide) (fun c_95 => ?_) (fun c_95 => ?_)
      · refine lv_iinc (v := nI (j + 1 + 1)) (lv' := [(3, .int (nI (j + 1 + 1))), (5, .int ((sIt (sF (sh (iN d)).2.1 sc) (j + 1) sCC).2.2.1)), (4, .int ((sIt (sF (sh (iN d)).2.1 sc) (j + 1) sCC).2.1)), (2, .int (sStR sh d)), (0, .ref (ad 0)), (1, .int d)]) hx hb dX6_rested_112 hl (k := 2) rfl (nI_1 (j + 1)) (by decide) rfl (fun ls hl => ?_)
        refine lv_goto (tgt := 41) hx hb dX6_rested_115 (by decide) ?_
        have hlt : j < 500 := by rcases Nat.lt_or_ge j 500 with h | h; exact h; exact absurd (nI_lt (a := 500) (b := j + 1) (by omega) (by omega)) c_45
        have hnx := zfind_next (P := sRestP (sh (iN d)).2.1 sc) (f := 500 - (j + 1)) (g := 500 - j) (i := j + 1) (by omega) (fun h => c_95 (of_decide_eq_true h).1)
        exact ih (j + 1) ls _ H locs (by show 500 - (j + 1) < 500 - j; omega) hZ ⟨(lv_sub hl [0, 3, 4, 5] rfl), hX_20, hf_21, hlt, (hnx.symm.trans hT)⟩
      · refine lv_aload_n hx hb dX6_rested_98 rfl (lv_at hl 4 rfl) ?_
        refine zget hC hZ fX6_57 (zlt hn rfl) hX_20.1 rfl dX6_rested_99 ?_
        refine zget hC hZ fX6_190 (zlt hn rfl) hX_20.2.2.2.2.2.2.2.2.2 rfl dX6_rested_102 ?_
        refine lv_iload hx hb dX6_rested_105 (lv_at hl 0 rfl) ?_
        refine lv_icmp_ne (tgt := 112) hx hb dX6_rested_107 (by decide) (fun c_107 => ?_) (fun c_107 => ?_)
        · refine lv_iinc (v := nI (j + 1 + 1)) (lv' := [(3, .int (nI (j + 1 + 1))), (5, .int ((sIt (sF (sh (iN d)).2.1 sc) (j + 1) sCC).2.2.1)), (4, .int ((sIt (sF (sh (iN d)).2.1 sc) (j + 1) sCC).2.1)), (2, .int (sStR sh d)), (0, .ref (ad 0)), (1, .int d)]) hx hb dX6_rested_112 hl (k := 2) rfl (nI_1 (j + 1)) (by decide) rfl (fun ls hl => ?_)
          refine lv_goto (tgt := 41) hx hb dX6_rested_115 (by decide) ?_
          have hlt : j < 500 := by rcases Nat.lt_or_ge j 500 with h | h; exact h; exact absurd (nI_lt (a := 500) (b := j + 1) (by omega) (by omega)) c_45
          have hnx := zfind_next (P := sRestP (sh (iN d)).2.1 sc) (f := 500 - (j + 1)) (g := 500 - j) (i := j + 1) (by omega) (fun h => c_107 (of_decide_eq_true h).2)
          exact ih (j + 1) ls _ H locs (by show 500 - (j + 1) < 500 - j; omega) hZ ⟨(lv_sub hl [0, 3, 4, 5] rfl), hX_20, hf_21, hlt, (hnx.symm.trans hT)⟩
        · refine lv_iload_n hx hb dX6_rested_110 rfl (lv_at hl 2 rfl) ?_
          have hlt : j < 500 := by rcases Nat.lt_or_ge j 500 with h | h; exact h; exact absurd (nI_lt (a := 500) (b := j + 1) (by omega) (by omega)) c_45
          have hv_23 : nI (j + 1) = sRested (sh (iN d)).2.1 sc := by rw [← hT]; exact (zfind_hit (f := 500 - (j + 1)) (by omega) (decide_eq_true ⟨c_95, c_107⟩)).symm
          have hq_22 : nI (j + 1) = zr (True) (sStR sh d) (sRested (sh (iN d)).2.1 sc) := hv_23.trans (zr_ok trivial c_7).symm
          exact zireti hC hZ hr hlocks ⟨hq_22, (sStep (sKick (sh (iN d)).2.1 sc.1) (sLess (sh (iN d)).2.1 sc.1) sc.1.2.2.2 sc.2.1 (sIt (sF (sh (iN d)).2.1 sc) (j + 1) sCC)), hX_20, hf_21⟩ dX6_rested_111
  · refine lv_iload_n hx hb dX6_rested_10 rfl (lv_at hl 0 rfl) ?_
    have hq_24 : (sStR sh d) = zr (True) (sStR sh d) (sRested (sh (iN d)).2.1 sc) := (zr_rf trivial c_7).symm
    exact zireti hC hZ hr hlocks ⟨hq_24, mi, hX, fr56_rf⟩ dX6_rested_11

theorem mX6_when : zMd yX6_when cX6_when 4 (some .int) 1 := ⟨by decide +kernel, gt_of 532 (by decide +kernel) rfl, gt_of 44 (by decide +kernel) rfl, by decide⟩
theorem dX6_when_0 : decode cX6_when 0 = .ok (.aload_n 0, 1) := by decide +kernel
theorem dX6_when_1 : decode cX6_when 1 = .ok (.iload_n 1, 1) := by decide +kernel
theorem dX6_when_2 : decode cX6_when 2 = .ok (.invokevirtual 160, 3) := by decide +kernel
theorem dX6_when_5 : decode cX6_when 5 = .ok (.istore_n 2, 1) := by decide +kernel
theorem dX6_when_6 : decode cX6_when 6 = .ok (.iload_n 2, 1) := by decide +kernel
theorem dX6_when_7 : decode cX6_when 7 = .ok (.ifCond .eq 5, 3) := by decide +kernel
theorem dX6_when_12 : decode cX6_when 12 = .ok (.aload_n 0, 1) := by decide +kernel
theorem dX6_when_13 : decode cX6_when 13 = .ok (.getfield 57, 3) := by decide +kernel
theorem dX6_when_16 : decode cX6_when 16 = .ok (.invokevirtual 184, 3) := by decide +kernel
theorem dX6_when_19 : decode cX6_when 19 = .ok (.iconst 1, 1) := by decide +kernel
theorem dX6_when_20 : decode cX6_when 20 = .ok (.istore_n 3, 1) := by decide +kernel
theorem dX6_when_21 : decode cX6_when 21 = .ok (.iload_n 3, 1) := by decide +kernel
theorem dX6_when_22 : decode cX6_when 22 = .ok (.sipush 2000, 3) := by decide +kernel
theorem dX6_when_25 : decode cX6_when 25 = .ok (.if_icmp .gt 48, 3) := by decide +kernel
theorem dX6_when_73 : decode cX6_when 73 = .ok (.bipush (-4), 2) := by decide +kernel
theorem dX6_when_75 : decode cX6_when 75 = .ok (.ireturn, 1) := by decide +kernel
theorem dX6_when_28 : decode cX6_when 28 = .ok (.aload_n 0, 1) := by decide +kernel
theorem dX6_when_29 : decode cX6_when 29 = .ok (.getfield 10, 3) := by decide +kernel
theorem dX6_when_32 : decode cX6_when 32 = .ok (.aload_n 0, 1) := by decide +kernel
theorem dX6_when_33 : decode cX6_when 33 = .ok (.getfield 57, 3) := by decide +kernel
theorem dX6_when_36 : decode cX6_when 36 = .ok (.aload_n 0, 1) := by decide +kernel
theorem dX6_when_37 : decode cX6_when 37 = .ok (.getfield 25, 3) := by decide +kernel
theorem dX6_when_40 : decode cX6_when 40 = .ok (.iload_n 1, 1) := by decide +kernel
theorem dX6_when_41 : decode cX6_when 41 = .ok (.aaload, 1) := by decide +kernel
theorem dX6_when_42 : decode cX6_when 42 = .ok (.getfield 163, 3) := by decide +kernel
theorem dX6_when_45 : decode cX6_when 45 = .ok (.invokevirtual 180, 3) := by decide +kernel
theorem dX6_when_48 : decode cX6_when 48 = .ok (.aload_n 0, 1) := by decide +kernel
theorem dX6_when_49 : decode cX6_when 49 = .ok (.getfield 57, 3) := by decide +kernel
theorem dX6_when_52 : decode cX6_when 52 = .ok (.getfield 89, 3) := by decide +kernel
theorem dX6_when_55 : decode cX6_when 55 = .ok (.aload_n 0, 1) := by decide +kernel
theorem dX6_when_56 : decode cX6_when 56 = .ok (.getfield 10, 3) := by decide +kernel
theorem dX6_when_59 : decode cX6_when 59 = .ok (.getfield 109, 3) := by decide +kernel
theorem dX6_when_62 : decode cX6_when 62 = .ok (.if_icmp .lt 5, 3) := by decide +kernel
theorem dX6_when_67 : decode cX6_when 67 = .ok (.iinc 3 1, 3) := by decide +kernel
theorem dX6_when_70 : decode cX6_when 70 = .ok (.goto (-49), 3) := by decide +kernel
theorem dX6_when_65 : decode cX6_when 65 = .ok (.iload_n 3, 1) := by decide +kernel
theorem dX6_when_66 : decode cX6_when 66 = .ok (.ireturn, 1) := by decide +kernel
theorem dX6_when_10 : decode cX6_when 10 = .ok (.iload_n 2, 1) := by decide +kernel
theorem dX6_when_11 : decode cX6_when 11 = .ok (.ireturn, 1) := by decide +kernel
set_option maxRecDepth 100000 in
theorem c_X6_when (l : Launch) (D : va_G) (cy : Nat → Nat) (n : Nat) (ad : Nat → Nat) (F : Nat → va_E) (sz : Nat) (pic : Int32) (sc ps : Scn) (sh : Nat → Shf) (rd : Rdr) (dr : Stg) (fa : Tal) (mi : Crs) (hn : 56 ≤ n) (hX : RX ad cy F pic sc ps sh rd dr fa mi) (d : Int32) : Met l yX6_when (zw yX6_when cX6_when 4 (some .int)) (rmL 4) (zPc D cy n ad F sz [.ref (ad 0), .int d]) (va_Qi (fun r F1 => r = zr True (sStR sh d) (sWhen (sh (iN d)).2.1 sc) ∧ ∃ mi1, RX ad cy F1 pic sc ps sh rd dr fa mi1 ∧ fr56 F F1) (zB D n ad) (zA n ad sz)) 0 0 (zA n ad sz) := by
  refine zmet (by decide +kernel) (Nat.le_of_ble_eq_true rfl) (fun p e s m args below meth c ls hC hsz hZ hA hr hlocks hnm hl => ?_)
  have hC : zC p m c cX6_when 4 s args RX6 D cy := hC
  have hx := hC.1.1
  have hb := hC.1.2.1
  have hl : lv_has ls 4 [(0, .ref (ad 0)), (1, .int d)] := hl
  refine lv_aload_n hx hb dX6_when_0 rfl (lv_at hl 0 rfl) ?_
  refine lv_iload_n hx hb dX6_when_1 rfl (lv_at hl 1 rfl) ?_
  refine zgoi hZ hA (zrunV (As := [.int d]) (rest := []) (k := 0) hC hZ (c_X6_storyRefusal l D cy n ad F s.heap.size pic sc ps sh rd dr fa mi hn hX d) mX6_storyRefusal vX6_storyRefusal kX6_160 (zRj_of rfl) (zlt hn rfl) hX.1 rfl rfl hl.1 rfl (Nat.le_of_ble_eq_true rfl) dX6_when_2 ⟨Nat.le_refl _, Nat.le_refl _⟩) (fun r_2 F_1 hp_3 H locs hZ => ?_)
  obtain ⟨rfl, rfl⟩ := hp_3
  refine lv_istore_n (lv' := [(2, .int (sStR sh d)), (0, .ref (ad 0)), (1, .int d)]) hx hb dX6_when_5 rfl hl (by decide) rfl (fun ls hl => ?_)
  refine lv_iload_n hx hb dX6_when_6 rfl (lv_at hl 0 rfl) ?_
  refine lv_if_eq (tgt := 12) hx hb dX6_when_7 (by decide) (fun c_7 => ?_) (fun c_7 => ?_)
  · refine lv_aload_n hx hb dX6_when_12 rfl (lv_at hl 1 rfl) ?_
    refine zget hC hZ fX6_57 (zlt hn rfl) hX.1 rfl dX6_when_13 ?_
    refine zgov hZ hA (zrunV (As := []) (rest := []) (k := 55) hC hZ (c_X0_clear l D cy n ad F H.size 55 mi (zlt hn rfl) hX.2.2.2.2.2.2.2.2.2) mX0_clear vX0_clear kX6_184 (zRj_of rfl) (zlt hn rfl) hX.2.2.2.2.2.2.2.2.2 rfl rfl hl.1 rfl (Nat.le_of_ble_eq_true rfl) dX6_when_16 ⟨Nat.le_refl _, Nat.le_refl _⟩) (fun F_4 hp_6 H locs hZ => ?_)
    have hX_7 := rx_mind hX hp_6
    have hf_8 := fr56_up fr56_rf hp_6 (by decide)
    have hX_7 : RX ad cy F_4 pic sc ps sh rd dr fa (0, 0, 0, 0, 0) := hX_7
    refine lv_iconst (v := 1) hx hb dX6_when_19 (by decide) ?_
    refine lv_istore_n (lv' := [(3, .int 1), (2, .int (sStR sh d)), (0, .ref (ad 0)), (1, .int d)]) hx hb dX6_when_20 rfl hl (by decide) rfl (fun ls hl => ?_)
    refine zlp (X := Nat) 21 (fun _ => []) (fun x ls F1 => lv_has ls 4 [(3, .int (nI (x + 1))), (2, .int (sStR sh d)), (0, .ref (ad 0)), (1, .int d)] ∧ RX ad cy F1 pic sc ps sh rd dr fa (sIt (sF (sh (iN d)).2.1 sc) x sCC) ∧ fr56 F F1 ∧ x ≤ 2000 ∧ zfind (sWhenP (sh (iN d)).2.1 sc) (2000 - x) (x + 1) = sWhen (sh (iN d)).2.1 sc) (fun x => 2000 - x) ?_ 0 hZ ⟨hl, hX_7, hf_8, (Nat.zero_le _), rfl⟩
    intro j ih ls F3 H locs hZ hφ
    obtain ⟨hl, hXl, hfl, hj, hT⟩ := hφ
    have hl : lv_has ls 4 [(3, .int (nI (j + 1))), (2, .int (sStR sh d)), (0, .ref (ad 0)), (1, .int d)] := hl
    have hX21 : RX ad cy F3 pic sc ps sh rd dr fa (sIt (sF (sh (iN d)).2.1 sc) j sCC) := hXl
    have hj : j ≤ 2000 := hj
    have hT : zfind (sWhenP (sh (iN d)).2.1 sc) (2000 - j) (j + 1) = sWhen (sh (iN d)).2.1 sc := hT
    refine lv_iload_n hx hb dX6_when_21 rfl (lv_at hl 0 rfl) ?_
    refine lv_sipush (v := 2000) hx hb dX6_when_22 (by decide) ?_
    refine lv_icmp_gt (tgt := 73) hx hb dX6_when_25 (by decide) (fun c_25 => ?_) (fun c_25 => ?_)
    · refine lv_bipush (v := (-4)) hx hb dX6_when_73 (by decide) ?_
      have hj5 : j = 2000 := by rcases Nat.lt_or_ge j 2000 with h | h; exact absurd c_25 (nI_nlt (a := 2000) (b := j + 1) (by omega) (by omega)); omega
      have hv_10 : (-4 : Int32) = sWhen (sh (iN d)).2.1 sc := by rw [← hT, hj5]; rfl
      have hq_9 : (-4 : Int32) = zr (True) (sStR sh d) (sWhen (sh (iN d)).2.1 sc) := hv_10.trans (zr_ok trivial c_7).symm
      exact zireti hC hZ hr hlocks ⟨hq_9, (sIt (sF (sh (iN d)).2.1 sc) j sCC), hX21, hfl⟩ dX6_when_75
    · refine lv_aload_n hx hb dX6_when_28 rfl (lv_at hl 2 rfl) ?_
      refine zget hC hZ fX6_10 (zlt hn rfl) hX21.1 rfl dX6_when_29 ?_
      refine lv_aload_n hx hb dX6_when_32 rfl (lv_at hl 2 rfl) ?_
      refine zget hC hZ fX6_57 (zlt hn rfl) hX21.1 rfl dX6_when_33 ?_
      refine lv_aload_n hx hb dX6_when_36 rfl (lv_at hl 2 rfl) ?_
      refine zget hC hZ fX6_25 (zlt hn rfl) hX21.1 rfl dX6_when_37 ?_
      refine lv_iload_n hx hb dX6_when_40 rfl (lv_at hl 3 rfl) ?_
      have hs_11 := sStR_0 c_7
      refine zaald hC hZ (zlt hn rfl) hX21.2.2.2.1 (C := RX4) rfl hs_11.1.1 hs_11.1.2 (by decide) rfl dX6_when_41 ?_
      refine zget hC hZ fX6_163 (by have := hs_11.1.2; omega) (hX21.2.2.2.2.1 (iN d) hs_11.1.2).1 rfl dX6_when_42 ?_
      refine zgov hZ hA (zrunV (As := [.ref (ad 55), .ref (ad (26 + 3 * (iN d) + 1))]) (rest := []) (k := 1) hC hZ (c_X2_step l D cy n ad F3 H.size 1 sc (by omega) hX21.2.1 55 (sIt (sF (sh (iN d)).2.1 sc) j sCC) (zlt hn rfl) hX21.2.2.2.2.2.2.2.2.2 (26 + 3 * (iN d) + 1) (sh (iN d)).2.1 (by have := hs_11.1.2; omega) (hX21.2.2.2.2.1 (iN d) hs_11.1.2).2.1) mX2_step vX2_step kX6_180 (zRj_of rfl) (zlt hn rfl) hX21.2.1.1 rfl rfl hl.1 rfl (Nat.le_of_ble_eq_true rfl) dX6_when_45 ⟨Nat.le_refl _, Nat.le_refl _⟩) (fun F_12 hp_14 H locs hZ => ?_)
      have hX_15 := rx_mind hX21 hp_14
      have hf_16 := fr56_up hfl hp_14 (by decide)
      have hX_15 : RX ad cy F_12 pic sc ps sh rd dr fa (sStep (sKick (sh (iN d)).2.1 sc.1) (sLess (sh (iN d)).2.1 sc.1) sc.1.2.2.2 sc.2.1 (sIt (sF (sh (iN d)).2.1 sc) j sCC)) := hX_15
      refine lv_aload_n hx hb dX6_when_48 rfl (lv_at hl 2 rfl) ?_
      refine zget hC hZ fX6_57 (zlt hn rfl) hX_15.1 rfl dX6_when_49 ?_
      refine zget hC hZ fX6_89 (zlt hn rfl) hX_15.2.2.2.2.2.2.2.2.2 rfl dX6_when_52 ?_
      refine lv_aload_n hx hb dX6_when_55 rfl (lv_at hl 2 rfl) ?_
      refine zget hC hZ fX6_10 (zlt hn rfl) hX_15.1 rfl dX6_when_56 ?_
      refine zget hC hZ fX6_109 (zlt hn rfl) hX_15.2.1.1 rfl dX6_when_59 ?_
      refine lv_icmp_lt (tgt := 67) hx hb dX6_when_62 (by decide) (fun c_62 => ?_) (fun c_62 => ?_)
      · refine lv_iinc (v := nI (j + 1 + 1)) (lv' := [(3, .int (nI (j + 1 + 1))), (2, .int (sStR sh d)), (0, .ref (ad 0)), (1, .int d)]) hx hb dX6_when_67 hl (k := 0) rfl (nI_1 (j + 1)) (by decide) rfl (fun ls hl => ?_)
        refine lv_goto (tgt := 21) hx hb dX6_when_70 (by decide) ?_
        have hlt : j < 2000 := by rcases Nat.lt_or_ge j 2000 with h | h; exact h; exact absurd (nI_lt (a := 2000) (b := j + 1) (by omega) (by omega)) c_25
        have hnx := zfind_next (P := sWhenP (sh (iN d)).2.1 sc) (f := 2000 - (j + 1)) (g := 2000 - j) (i := j + 1) (by omega) (fun h => absurd (of_decide_eq_true h) (Int32.not_le.mpr c_62))
        exact ih (j + 1) ls _ H locs (by show 2000 - (j + 1) < 2000 - j; omega) hZ ⟨hl, hX_15, hf_16, hlt, (hnx.symm.trans hT)⟩
      · refine lv_iload_n hx hb dX6_when_65 rfl (lv_at hl 0 rfl) ?_
        have hlt : j < 2000 := by rcases Nat.lt_or_ge j 2000 with h | h; exact h; exact absurd (nI_lt (a := 2000) (b := j + 1) (by omega) (by omega)) c_25
        have hv_18 : nI (j + 1) = sWhen (sh (iN d)).2.1 sc := by rw [← hT]; exact (zfind_hit (f := 2000 - (j + 1)) (by omega) (decide_eq_true (Int32.not_lt.mp c_62))).symm
        have hq_17 : nI (j + 1) = zr (True) (sStR sh d) (sWhen (sh (iN d)).2.1 sc) := hv_18.trans (zr_ok trivial c_7).symm
        exact zireti hC hZ hr hlocks ⟨hq_17, (sStep (sKick (sh (iN d)).2.1 sc.1) (sLess (sh (iN d)).2.1 sc.1) sc.1.2.2.2 sc.2.1 (sIt (sF (sh (iN d)).2.1 sc) j sCC)), hX_15, hf_16⟩ dX6_when_66
  · refine lv_iload_n hx hb dX6_when_10 rfl (lv_at hl 0 rfl) ?_
    have hq_19 : (sStR sh d) = zr (True) (sStR sh d) (sWhen (sh (iN d)).2.1 sc) := (zr_rf trivial c_7).symm
    exact zireti hC hZ hr hlocks ⟨hq_19, mi, hX, fr56_rf⟩ dX6_when_11
end
section
theorem mX6_unlikeness : zMd yX6_unlikeness cX6_unlikeness 5 (some .int) 3 := ⟨by decide +kernel, gt_of 466 (by decide +kernel) rfl, gt_of 44 (by decide +kernel) rfl, by decide⟩
theorem dX6_unlikeness_0 : decode cX6_unlikeness 0 = .ok (.aload_n 0, 1) := by decide +kernel
theorem dX6_unlikeness_1 : decode cX6_unlikeness 1 = .ok (.aload_n 2, 1) := by decide +kernel
theorem dX6_unlikeness_2 : decode cX6_unlikeness 2 = .ok (.invokevirtual 205, 3) := by decide +kernel
theorem dX6_unlikeness_5 : decode cX6_unlikeness 5 = .ok (.istore_n 3, 1) := by decide +kernel
theorem dX6_unlikeness_6 : decode cX6_unlikeness 6 = .ok (.aload_n 1, 1) := by decide +kernel
theorem dX6_unlikeness_7 : decode cX6_unlikeness 7 = .ok (.aload_n 2, 1) := by decide +kernel
theorem dX6_unlikeness_8 : decode cX6_unlikeness 8 = .ok (.invokevirtual 205, 3) := by decide +kernel
theorem dX6_unlikeness_11 : decode cX6_unlikeness 11 = .ok (.istore 4, 2) := by decide +kernel
theorem dX6_unlikeness_13 : decode cX6_unlikeness 13 = .ok (.iload_n 3, 1) := by decide +kernel
theorem dX6_unlikeness_14 : decode cX6_unlikeness 14 = .ok (.ifCond .lt 8, 3) := by decide +kernel
theorem dX6_unlikeness_22 : decode cX6_unlikeness 22 = .ok (.bipush (-4), 2) := by decide +kernel
theorem dX6_unlikeness_24 : decode cX6_unlikeness 24 = .ok (.ireturn, 1) := by decide +kernel
theorem dX6_unlikeness_17 : decode cX6_unlikeness 17 = .ok (.iload 4, 2) := by decide +kernel
theorem dX6_unlikeness_19 : decode cX6_unlikeness 19 = .ok (.ifCond .ge 6, 3) := by decide +kernel
theorem dX6_unlikeness_25 : decode cX6_unlikeness 25 = .ok (.iload_n 3, 1) := by decide +kernel
theorem dX6_unlikeness_26 : decode cX6_unlikeness 26 = .ok (.iload 4, 2) := by decide +kernel
theorem dX6_unlikeness_28 : decode cX6_unlikeness 28 = .ok (.isub, 1) := by decide +kernel
theorem dX6_unlikeness_29 : decode cX6_unlikeness 29 = .ok (.invokestatic 214, 3) := by decide +kernel
theorem kX6_214 : zMath RX6 214 Lib.Math.abs.name Lib.Math.abs.code 1 (some .int) := ⟨gt_of 467 (by decide +kernel) rfl, gt_of 468 (by decide +kernel) rfl, gt_of 52 (by decide +kernel) rfl, gt_of 469 (by decide +kernel) rfl⟩
theorem dX6_unlikeness_32 : decode cX6_unlikeness 32 = .ok (.ireturn, 1) := by decide +kernel
set_option maxRecDepth 100000 in
theorem c_X6_unlikeness (l : Launch) (D : va_G) (cy : Nat → Nat) (n : Nat) (ad : Nat → Nat) (F : Nat → va_E) (sz : Nat) (k : Nat) (t : Tal) (hk : k < n) (hFk : F k = oTale t) (j : Nat) (u : Tal) (hj : j < n) (hFj : F j = oTale u) (i : Nat) (b : Stg) (hi : i < n) (hFi : F i = oSetting b) (gt : gT t) (gu : gT u) (gb : gS b) : Met l yX6_unlikeness (zw yX6_unlikeness cX6_unlikeness 5 (some .int)) (rmL 5) (zPc D cy n ad F sz [.ref (ad k), .ref (ad j), .ref (ad i)]) (va_Qi (fun r F1 => r = sUnl t u b ∧ F = F1) (zB D n ad) (zA n ad sz)) 0 0 (zA n ad sz) := by
  refine zmet (by decide +kernel) (Nat.le_of_ble_eq_true rfl) (fun p e s m args below meth c ls hC hsz hZ hA hr hlocks hnm hl => ?_)
  have hC : zC p m c cX6_unlikeness 5 s args RX6 D cy := hC
  have hx := hC.1.1
  have hb := hC.1.2.1
  have hl : lv_has ls 5 [(0, .ref (ad k)), (1, .ref (ad j)), (2, .ref (ad i))] := hl
  refine lv_aload_n hx hb dX6_unlikeness_0 rfl (lv_at hl 0 rfl) ?_
  refine lv_aload_n hx hb dX6_unlikeness_1 rfl (lv_at hl 2 rfl) ?_
  refine zgoi hZ hA (zrunV (As := [.ref (ad i)]) (rest := []) (k := k) hC hZ (c_X5_arch l D cy n ad F s.heap.size k t hk hFk i b hi hFi gt gb) mX5_arch vX5_arch kX6_205 (zRj_of rfl) hk hFk rfl rfl hl.1 rfl (Nat.le_of_ble_eq_true rfl) dX6_unlikeness_2 ⟨Nat.le_refl _, Nat.le_refl _⟩) (fun r_2 F_1 hp_3 H locs hZ => ?_)
  obtain ⟨rfl, rfl⟩ := hp_3
  refine lv_istore_n (lv' := [(3, .int (sArchAt t b 0)), (0, .ref (ad k)), (1, .ref (ad j)), (2, .ref (ad i))]) hx hb dX6_unlikeness_5 rfl hl (by decide) rfl (fun ls hl => ?_)
  refine lv_aload_n hx hb dX6_unlikeness_6 rfl (lv_at hl 2 rfl) ?_
  refine lv_aload_n hx hb dX6_unlikeness_7 rfl (lv_at hl 3 rfl) ?_
  refine zgoi hZ hA (zrunV (As := [.ref (ad i)]) (rest := []) (k := j) hC hZ (c_X5_arch l D cy n ad F H.size j u hj hFj i b hi hFi gu gb) mX5_arch vX5_arch kX6_205 (zRj_of rfl) hj hFj rfl rfl hl.1 rfl (Nat.le_of_ble_eq_true rfl) dX6_unlikeness_8 ⟨Nat.le_refl _, Nat.le_refl _⟩) (fun r_5 F_4 hp_6 H locs hZ => ?_)
  obtain ⟨rfl, rfl⟩ := hp_6
  refine lv_istore (lv' := [(4, .int (sArchAt u b 0)), (3, .int (sArchAt t b 0)), (0, .ref (ad k)), (1, .ref (ad j)), (2, .ref (ad i))]) hx hb dX6_unlikeness_11 hl (by decide) rfl (fun ls hl => ?_)
  refine lv_iload_n hx hb dX6_unlikeness_13 rfl (lv_at hl 1 rfl) ?_
  refine lv_if_lt (tgt := 22) hx hb dX6_unlikeness_14 (by decide) (fun c_14 => ?_) (fun c_14 => ?_)
  · refine lv_bipush (v := (-4)) hx hb dX6_unlikeness_22 (by decide) ?_
    have hq : (-4 : Int32) = sUnl t u b := (if_pos (Or.inl c_14)).symm
    exact zireti hC hZ hr hlocks ⟨hq, rfl⟩ dX6_unlikeness_24
  · refine lv_iload hx hb dX6_unlikeness_17 (lv_at hl 0 rfl) ?_
    refine lv_if_ge (tgt := 25) hx hb dX6_unlikeness_19 (by decide) (fun c_19 => ?_) (fun c_19 => ?_)
    · refine lv_iload_n hx hb dX6_unlikeness_25 rfl (lv_at hl 1 rfl) ?_
      refine lv_iload hx hb dX6_unlikeness_26 (lv_at hl 0 rfl) ?_
      refine lv_isub hx hb dX6_unlikeness_28 ?_
      refine zabs hC kX6_214 hl.1 (zRj_of rfl) (Nat.le_of_ble_eq_true rfl) ⟨Nat.le_refl _, Nat.le_refl _⟩ dX6_unlikeness_29 ?_
      have hq : (if 0 ≤ ((sArchAt t b 0) - (sArchAt u b 0)) then ((sArchAt t b 0) - (sArchAt u b 0)) else 0 - ((sArchAt t b 0) - (sArchAt u b 0))) = sUnl t u b := (if_neg (fun h => h.elim c_14 (Int32.not_lt.mpr c_19))).symm
      exact zireti hC hZ hr hlocks ⟨hq, rfl⟩ dX6_unlikeness_32
    · refine lv_bipush (v := (-4)) hx hb dX6_unlikeness_22 (by decide) ?_
      have hq : (-4 : Int32) = sUnl t u b := (if_pos (Or.inr (Int32.not_le.mp c_19))).symm
      exact zireti hC hZ hr hlocks ⟨hq, rfl⟩ dX6_unlikeness_24

theorem mX6_parts : zMd yX6_parts cX6_parts 9 (some .int) 3 := ⟨by decide +kernel, gt_of 459 (by decide +kernel) rfl, gt_of 44 (by decide +kernel) rfl, by decide⟩
theorem dX6_parts_0 : decode cX6_parts 0 = .ok (.iload_n 3, 1) := by decide +kernel
theorem dX6_parts_1 : decode cX6_parts 1 = .ok (.iconst 0, 1) := by decide +kernel
theorem dX6_parts_2 : decode cX6_parts 2 = .ok (.iconst 1, 1) := by decide +kernel
theorem dX6_parts_3 : decode cX6_parts 3 = .ok (.invokestatic 115, 3) := by decide +kernel
theorem dX6_parts_6 : decode cX6_parts 6 = .ok (.ifCond .eq 19, 3) := by decide +kernel
theorem dX6_parts_9 : decode cX6_parts 9 = .ok (.aload_n 0, 1) := by decide +kernel
theorem dX6_parts_10 : decode cX6_parts 10 = .ok (.iload_n 1, 1) := by decide +kernel
theorem dX6_parts_11 : decode cX6_parts 11 = .ok (.invokevirtual 160, 3) := by decide +kernel
theorem dX6_parts_14 : decode cX6_parts 14 = .ok (.aload_n 0, 1) := by decide +kernel
theorem dX6_parts_15 : decode cX6_parts 15 = .ok (.iload_n 2, 1) := by decide +kernel
theorem dX6_parts_16 : decode cX6_parts 16 = .ok (.invokevirtual 160, 3) := by decide +kernel
theorem dX6_parts_19 : decode cX6_parts 19 = .ok (.invokestatic 207, 3) := by decide +kernel
theorem dX6_parts_22 : decode cX6_parts 22 = .ok (.goto 4, 3) := by decide +kernel
theorem dX6_parts_26 : decode cX6_parts 26 = .ok (.istore 4, 2) := by decide +kernel
theorem dX6_parts_28 : decode cX6_parts 28 = .ok (.iload 4, 2) := by decide +kernel
theorem dX6_parts_30 : decode cX6_parts 30 = .ok (.ifCond .eq 6, 3) := by decide +kernel
theorem dX6_parts_36 : decode cX6_parts 36 = .ok (.bipush (-4), 2) := by decide +kernel
theorem dX6_parts_38 : decode cX6_parts 38 = .ok (.istore 5, 2) := by decide +kernel
theorem dX6_parts_40 : decode cX6_parts 40 = .ok (.bipush (-4), 2) := by decide +kernel
theorem dX6_parts_42 : decode cX6_parts 42 = .ok (.istore 6, 2) := by decide +kernel
theorem dX6_parts_44 : decode cX6_parts 44 = .ok (.iconst 0, 1) := by decide +kernel
theorem dX6_parts_45 : decode cX6_parts 45 = .ok (.istore 7, 2) := by decide +kernel
theorem dX6_parts_47 : decode cX6_parts 47 = .ok (.iload 7, 2) := by decide +kernel
theorem dX6_parts_49 : decode cX6_parts 49 = .ok (.aload_n 0, 1) := by decide +kernel
theorem dX6_parts_50 : decode cX6_parts 50 = .ok (.getfield 10, 3) := by decide +kernel
theorem dX6_parts_53 : decode cX6_parts 53 = .ok (.getfield 150, 3) := by decide +kernel
theorem dX6_parts_56 : decode cX6_parts 56 = .ok (.if_icmp .ge 64, 3) := by decide +kernel
theorem dX6_parts_120 : decode cX6_parts 120 = .ok (.iload_n 3, 1) := by decide +kernel
theorem dX6_parts_121 : decode cX6_parts 121 = .ok (.ifCond .ne 8, 3) := by decide +kernel
theorem dX6_parts_129 : decode cX6_parts 129 = .ok (.iload 5, 2) := by decide +kernel
theorem dX6_parts_131 : decode cX6_parts 131 = .ok (.ireturn, 1) := by decide +kernel
theorem dX6_parts_124 : decode cX6_parts 124 = .ok (.iload 6, 2) := by decide +kernel
theorem dX6_parts_126 : decode cX6_parts 126 = .ok (.goto 5, 3) := by decide +kernel
theorem dX6_parts_59 : decode cX6_parts 59 = .ok (.iload 7, 2) := by decide +kernel
theorem dX6_parts_61 : decode cX6_parts 61 = .ok (.bipush 8, 2) := by decide +kernel
theorem dX6_parts_63 : decode cX6_parts 63 = .ok (.if_icmp .ge 57, 3) := by decide +kernel
theorem dX6_parts_66 : decode cX6_parts 66 = .ok (.aload_n 0, 1) := by decide +kernel
theorem dX6_parts_67 : decode cX6_parts 67 = .ok (.getfield 25, 3) := by decide +kernel
theorem dX6_parts_70 : decode cX6_parts 70 = .ok (.iload_n 1, 1) := by decide +kernel
theorem dX6_parts_71 : decode cX6_parts 71 = .ok (.aaload, 1) := by decide +kernel
theorem dX6_parts_72 : decode cX6_parts 72 = .ok (.getfield 163, 3) := by decide +kernel
theorem dX6_parts_75 : decode cX6_parts 75 = .ok (.aload_n 0, 1) := by decide +kernel
theorem dX6_parts_76 : decode cX6_parts 76 = .ok (.getfield 25, 3) := by decide +kernel
theorem dX6_parts_79 : decode cX6_parts 79 = .ok (.iload_n 2, 1) := by decide +kernel
theorem dX6_parts_80 : decode cX6_parts 80 = .ok (.aaload, 1) := by decide +kernel
theorem dX6_parts_81 : decode cX6_parts 81 = .ok (.getfield 163, 3) := by decide +kernel
theorem dX6_parts_84 : decode cX6_parts 84 = .ok (.aload_n 0, 1) := by decide +kernel
theorem dX6_parts_85 : decode cX6_parts 85 = .ok (.getfield 10, 3) := by decide +kernel
theorem dX6_parts_88 : decode cX6_parts 88 = .ok (.getfield 156, 3) := by decide +kernel
theorem dX6_parts_91 : decode cX6_parts 91 = .ok (.iload 7, 2) := by decide +kernel
theorem dX6_parts_93 : decode cX6_parts 93 = .ok (.aaload, 1) := by decide +kernel
theorem dX6_parts_94 : decode cX6_parts 94 = .ok (.invokestatic 210, 3) := by decide +kernel
theorem kX6_210 : zLk RX6 210 yX6_unlikeness := Or.inl (gt_of 464 (by decide +kernel) rfl)
theorem sX6_unlikeness : Cond.static yX6_unlikeness ∈ gtbl := gt_of 465 (by decide +kernel) rfl
theorem dX6_parts_97 : decode cX6_parts 97 = .ok (.istore 8, 2) := by decide +kernel
theorem dX6_parts_99 : decode cX6_parts 99 = .ok (.iload 8, 2) := by decide +kernel
theorem dX6_parts_101 : decode cX6_parts 101 = .ok (.iload 5, 2) := by decide +kernel
theorem dX6_parts_103 : decode cX6_parts 103 = .ok (.if_icmp .le 11, 3) := by decide +kernel
theorem dX6_parts_114 : decode cX6_parts 114 = .ok (.iinc 7 1, 3) := by decide +kernel
theorem dX6_parts_117 : decode cX6_parts 117 = .ok (.goto (-70), 3) := by decide +kernel
theorem dX6_parts_106 : decode cX6_parts 106 = .ok (.iload 8, 2) := by decide +kernel
theorem dX6_parts_108 : decode cX6_parts 108 = .ok (.istore 5, 2) := by decide +kernel
theorem dX6_parts_110 : decode cX6_parts 110 = .ok (.iload 7, 2) := by decide +kernel
theorem dX6_parts_112 : decode cX6_parts 112 = .ok (.istore 6, 2) := by decide +kernel
theorem dX6_parts_33 : decode cX6_parts 33 = .ok (.iload 4, 2) := by decide +kernel
theorem dX6_parts_35 : decode cX6_parts 35 = .ok (.ireturn, 1) := by decide +kernel
theorem dX6_parts_25 : decode cX6_parts 25 = .ok (.iconst (-1), 1) := by decide +kernel
set_option maxRecDepth 100000 in
theorem c_X6_parts (l : Launch) (D : va_G) (cy : Nat → Nat) (n : Nat) (ad : Nat → Nat) (F : Nat → va_E) (sz : Nat) (pic : Int32) (sc ps : Scn) (sh : Nat → Shf) (rd : Rdr) (dr : Stg) (fa : Tal) (mi : Crs) (hn : 56 ≤ n) (hX : RX ad cy F pic sc ps sh rd dr fa mi) (hG : gX sc ps sh) (d e0 what : Int32) : Met l yX6_parts (zw yX6_parts cX6_parts 9 (some .int)) (rmL 6) (zPc D cy n ad F sz [.ref (ad 0), .int d, .int e0, .int what]) (va_Qi (fun r F1 => r = zr (bIn what 0 1) (sFirst (sStR sh d) (sStR sh e0)) (sParts (sh (iN d)).2.1 (sh (iN e0)).2.1 sc what) ∧ RX ad cy F1 pic sc ps sh rd dr fa mi ∧ fr56 F F1) (zB D n ad) (zA n ad sz)) 0 0 (zA n ad sz) := by
  refine zmet (by decide +kernel) (Nat.le_of_ble_eq_true rfl) (fun p e s m args below meth c ls hC hsz hZ hA hr hlocks hnm hl => ?_)
  have hC : zC p m c cX6_parts 9 s args RX6 D cy := hC
  have hx := hC.1.1
  have hb := hC.1.2.1
  have hl : lv_has ls 9 [(0, .ref (ad 0)), (1, .int d), (2, .int e0), (3, .int what)] := hl
  refine lv_iload_n hx hb dX6_parts_0 rfl (lv_at hl 3 rfl) ?_
  refine lv_iconst (v := 0) hx hb dX6_parts_1 (by decide) ?_
  refine lv_iconst (v := 1) hx hb dX6_parts_2 (by decide) ?_
  refine zgoi hZ hA (zrunS (As := [.int what, .int 0, .int 1]) (rest := []) hC hZ (c_X6_isWithin l D cy n ad F s.heap.size what 0 1) mX6_isWithin sX6_isWithin kX6_115 (zRj_of rfl) rfl hl.1 rfl (Nat.le_of_ble_eq_true rfl) dX6_parts_3 ⟨Nat.le_refl _, Nat.le_refl _⟩) (fun r_2 F_1 hp_3 H locs hZ => ?_)
  obtain ⟨hp_3, rfl⟩ := hp_3
  by_cases b_4 : bIn what 0 1
  · rw [if_pos b_4] at hp_3
    subst hp_3
    refine lv_if_eq (tgt := 25) hx hb dX6_parts_6 (by decide) (fun h => absurd h (by decide)) (fun _ => ?_)
    refine lv_aload_n hx hb dX6_parts_9 rfl (lv_at hl 0 rfl) ?_
    refine lv_iload_n hx hb dX6_parts_10 rfl (lv_at hl 1 rfl) ?_
    refine zgoi hZ hA (zrunV (As := [.int d]) (rest := []) (k := 0) hC hZ (c_X6_storyRefusal l D cy n ad F H.size pic sc ps sh rd dr fa mi hn hX d) mX6_storyRefusal vX6_storyRefusal kX6_160 (zRj_of rfl) (zlt hn rfl) hX.1 rfl rfl hl.1 rfl (Nat.le_of_ble_eq_true rfl) dX6_parts_11 ⟨Nat.le_refl _, Nat.le_refl _⟩) (fun r_6 F_5 hp_7 H locs hZ => ?_)
    obtain ⟨rfl, rfl⟩ := hp_7
    refine lv_aload_n hx hb dX6_parts_14 rfl (lv_at hl 0 rfl) ?_
    refine lv_iload_n hx hb dX6_parts_15 rfl (lv_at hl 2 rfl) ?_
    refine zgoi hZ hA (zrunV (As := [.int e0]) (rest := [.int (sStR sh d)]) (k := 0) hC hZ (c_X6_storyRefusal l D cy n ad F H.size pic sc ps sh rd dr fa mi hn hX e0) mX6_storyRefusal vX6_storyRefusal kX6_160 (zRj_of rfl) (zlt hn rfl) hX.1 rfl rfl hl.1 rfl (Nat.le_of_ble_eq_true rfl) dX6_parts_16 ⟨Nat.le_refl _, Nat.le_refl _⟩) (fun r_9 F_8 hp_10 H locs hZ => ?_)
    obtain ⟨rfl, rfl⟩ := hp_10
    refine zgoi hZ hA (zrunS (As := [.int (sStR sh d), .int (sStR sh e0)]) (rest := []) hC hZ (c_X6_firstRefusal l D cy n ad F H.size (sStR sh d) (sStR sh e0)) mX6_firstRefusal sX6_firstRefusal kX6_207 (zRj_of rfl) rfl hl.1 rfl (Nat.le_of_ble_eq_true rfl) dX6_parts_19 ⟨Nat.le_refl _, Nat.le_refl _⟩) (fun r_12 F_11 hp_13 H locs hZ => ?_)
    obtain ⟨rfl, rfl⟩ := hp_13
    refine lv_goto (tgt := 26) hx hb dX6_parts_22 (by decide) ?_
    refine lv_istore (lv' := [(4, .int (sFirst (sStR sh d) (sStR sh e0))), (0, .ref (ad 0)), (1, .int d), (2, .int e0), (3, .int what)]) hx hb dX6_parts_26 hl (by decide) rfl (fun ls hl => ?_)
    refine lv_iload hx hb dX6_parts_28 (lv_at hl 0 rfl) ?_
    refine lv_if_eq (tgt := 36) hx hb dX6_parts_30 (by decide) (fun c_30 => ?_) (fun c_30 => ?_)
    · refine lv_bipush (v := (-4)) hx hb dX6_parts_36 (by decide) ?_
      refine lv_istore (lv' := [(5, .int (-4)), (4, .int (sFirst (sStR sh d) (sStR sh e0))), (0, .ref (ad 0)), (1, .int d), (2, .int e0), (3, .int what)]) hx hb dX6_parts_38 hl (by decide) rfl (fun ls hl => ?_)
      refine lv_bipush (v := (-4)) hx hb dX6_parts_40 (by decide) ?_
      refine lv_istore (lv' := [(6, .int (-4)), (5, .int (-4)), (4, .int (sFirst (sStR sh d) (sStR sh e0))), (0, .ref (ad 0)), (1, .int d), (2, .int e0), (3, .int what)]) hx hb dX6_parts_42 hl (by decide) rfl (fun ls hl => ?_)
      refine lv_iconst (v := 0) hx hb dX6_parts_44 (by decide) ?_
      refine lv_istore (lv' := [(7, .int 0), (6, .int (-4)), (5, .int (-4)), (4, .int (sFirst (sStR sh d) (sStR sh e0))), (0, .ref (ad 0)), (1, .int d), (2, .int e0), (3, .int what)]) hx hb dX6_parts_45 hl (by decide) rfl (fun ls hl => ?_)
      refine zlp (X := Nat × (Int32 × Int32)) 47 (fun _ => []) (fun x ls F1 => lv_has ls 9 [(7, .int (nI x.1)), (6, .int x.2.2), (5, .int x.2.1), (4, .int (sFirst (sStR sh d) (sStR sh e0))), (0, .ref (ad 0)), (1, .int d), (2, .int e0), (3, .int what)] ∧ RX ad cy F1 pic sc ps sh rd dr fa mi ∧ fr56 F F1 ∧ x.1 ≤ iN sc.2.2.2.1 ∧ x.2 = zfold (sPartF (sh (iN d)).2.1 (sh (iN e0)).2.1 sc.2.2.1) x.1 (-4, -4)) (fun x => iN sc.2.2.2.1 - x.1) ?_ (0, (-4, -4)) hZ ⟨hl, hX, fr56_rf, (Nat.zero_le _), rfl⟩
      intro x ih ls F3 H locs hZ hφ
      obtain ⟨i, pp⟩ := x
      obtain ⟨hl, hXl, hfl, hi, hp⟩ := hφ
      have hl : lv_has ls 9 [(7, .int (nI i)), (6, .int pp.2), (5, .int pp.1), (4, .int (sFirst (sStR sh d) (sStR sh e0))), (0, .ref (ad 0)), (1, .int d), (2, .int e0), (3, .int what)] := hl
      have hX47 : RX ad cy F3 pic sc ps sh rd dr fa mi := hXl
      have hi : i ≤ iN sc.2.2.2.1 := hi
      have hp : pp = zfold (sPartF (sh (iN d)).2.1 (sh (iN e0)).2.1 sc.2.2.1) i (-4, -4) := hp
      have htc := tc_n hG.1
      refine lv_iload hx hb dX6_parts_47 (lv_at hl 0 rfl) ?_
      refine lv_aload_n hx hb dX6_parts_49 rfl (lv_at hl 4 rfl) ?_
      refine zget hC hZ fX6_10 (zlt hn rfl) hX47.1 rfl dX6_parts_50 ?_
      refine zget hC hZ fX6_150 (zlt hn rfl) hX47.2.1.1 rfl dX6_parts_53 ?_
      refine lv_icmp_ge (tgt := 120) hx hb dX6_parts_56 (by decide) (fun c_56 => ?_) (fun c_56 => ?_)
      · refine lv_iload_n hx hb dX6_parts_120 rfl (lv_at hl 7 rfl) ?_
        refine lv_if_ne (tgt := 129) hx hb dX6_parts_121 (by decide) (fun c_121 => ?_) (fun c_121 => ?_)
        · refine lv_iload hx hb dX6_parts_129 (lv_at hl 2 rfl) ?_
          have hiq : i = iN sc.2.2.2.1 := zge htc.1 (by omega) hi c_56
          have hv_15 : pp.1 = sParts (sh (iN d)).2.1 (sh (iN e0)).2.1 sc what := by unfold sParts; rw [← hiq, ← hp]; simp [b_4, c_30, c_56, Int32.not_lt.mpr c_56, c_121]
          have hq_14 : pp.1 = zr (bIn what 0 1) ((sFirst (sStR sh d) (sStR sh e0))) (sParts (sh (iN d)).2.1 (sh (iN e0)).2.1 sc what) := hv_15.trans (zr_ok b_4 c_30).symm
          exact zireti hC hZ hr hlocks ⟨hq_14, hX47, hfl⟩ dX6_parts_131
        · refine lv_iload hx hb dX6_parts_124 (lv_at hl 1 rfl) ?_
          refine lv_goto (tgt := 131) hx hb dX6_parts_126 (by decide) ?_
          have hiq : i = iN sc.2.2.2.1 := zge htc.1 (by omega) hi c_56
          have hv_17 : pp.2 = sParts (sh (iN d)).2.1 (sh (iN e0)).2.1 sc what := by unfold sParts; rw [← hiq, ← hp]; simp [b_4, c_30, c_56, Int32.not_lt.mpr c_56, c_121]
          have hq_16 : pp.2 = zr (bIn what 0 1) ((sFirst (sStR sh d) (sStR sh e0))) (sParts (sh (iN d)).2.1 (sh (iN e0)).2.1 sc what) := hv_17.trans (zr_ok b_4 c_30).symm
          exact zireti hC hZ hr hlocks ⟨hq_16, hX47, hfl⟩ dX6_parts_131
      · refine lv_iload hx hb dX6_parts_59 (lv_at hl 0 rfl) ?_
        refine lv_bipush (v := 8) hx hb dX6_parts_61 (by decide) ?_
        have hlt0 := zlt2 htc.1 (by omega) c_56
        refine lv_icmp_ge (tgt := 120) hx hb dX6_parts_63 (by decide) (fun h => absurd h (by rw [Int32.not_le]; exact nI_lt (a := i) (b := 8) (by omega) (by omega))) (fun _ => ?_)
        refine lv_aload_n hx hb dX6_parts_66 rfl (lv_at hl 4 rfl) ?_
        refine zget hC hZ fX6_25 (zlt hn rfl) hX47.1 rfl dX6_parts_67 ?_
        refine lv_iload_n hx hb dX6_parts_70 rfl (lv_at hl 5 rfl) ?_
        have hz := sFirst_0 (sStR_le sh d) (sStR_le sh e0) c_30
        have hsd := sStR_0 hz.1
        have hse := sStR_0 hz.2
        refine zaald hC hZ (zlt hn rfl) hX47.2.2.2.1 (C := RX4) rfl hsd.1.1 hsd.1.2 (by decide) rfl dX6_parts_71 ?_
        refine zget hC hZ fX6_163 (by have := hsd.1.2; omega) (hX47.2.2.2.2.1 (iN d) hsd.1.2).1 rfl dX6_parts_72 ?_
        refine lv_aload_n hx hb dX6_parts_75 rfl (lv_at hl 4 rfl) ?_
        refine zget hC hZ fX6_25 (zlt hn rfl) hX47.1 rfl dX6_parts_76 ?_
        refine lv_iload_n hx hb dX6_parts_79 rfl (lv_at hl 6 rfl) ?_
        refine zaald hC hZ (zlt hn rfl) hX47.2.2.2.1 (C := RX4) rfl hse.1.1 hse.1.2 (by decide) rfl dX6_parts_80 ?_
        refine zget hC hZ fX6_163 (by have := hse.1.2; omega) (hX47.2.2.2.2.1 (iN e0) hse.1.2).1 rfl dX6_parts_81 ?_
        refine lv_aload_n hx hb dX6_parts_84 rfl (lv_at hl 4 rfl) ?_
        refine zget hC hZ fX6_10 (zlt hn rfl) hX47.1 rfl dX6_parts_85 ?_
        refine zget hC hZ fX6_156 (zlt hn rfl) hX47.2.1.1 rfl dX6_parts_88 ?_
        refine lv_iload hx hb dX6_parts_91 (lv_at hl 0 rfl) ?_
        have hlt := zlt2 htc.1 (by omega) c_56
        have hlt8 : i < 8 := by omega
        refine zaald hC hZ (zlt hn rfl) hX47.2.1.2.2.1 (C := RX3) rfl rfl hlt8 (by decide) rfl dX6_parts_93 ?_
        refine zgoi hZ hA (zrunS (As := [.ref (ad (26 + 3 * (iN d) + 1)), .ref (ad (26 + 3 * (iN e0) + 1)), .ref (ad (5 + i))]) (rest := []) hC hZ (c_X6_unlikeness l D cy n ad F3 H.size (26 + 3 * (iN d) + 1) (sh (iN d)).2.1 (by have := hsd.1.2; omega) (hX47.2.2.2.2.1 (iN d) hsd.1.2).2.1 (26 + 3 * (iN e0) + 1) (sh (iN e0)).2.1 (by have := hse.1.2; omega) (hX47.2.2.2.2.1 (iN e0) hse.1.2).2.1 (5 + i) (sc.2.2.1 i) (by have := hlt8; omega) (hX47.2.1.2.2.2.2 i hlt8) ((hG.2.2 _ hsd.1.2).1 hsd.2) ((hG.2.2 _ hse.1.2).1 hse.2) (hG.1.2.2.2.1 _ hlt8)) mX6_unlikeness sX6_unlikeness kX6_210 (zRj_of rfl) rfl hl.1 rfl (Nat.le_of_ble_eq_true rfl) dX6_parts_94 ⟨Nat.le_refl _, Nat.le_refl _⟩) (fun r_19 F_18 hp_20 H locs hZ => ?_)
        obtain ⟨rfl, rfl⟩ := hp_20
        refine lv_istore (lv' := [(8, .int (sUnl ((sh (iN d)).2.1) ((sh (iN e0)).2.1) (sc.2.2.1 i))), (7, .int (nI i)), (6, .int pp.2), (5, .int pp.1), (4, .int (sFirst (sStR sh d) (sStR sh e0))), (0, .ref (ad 0)), (1, .int d), (2, .int e0), (3, .int what)]) hx hb dX6_parts_97 hl (by decide) rfl (fun ls hl => ?_)
        refine lv_iload hx hb dX6_parts_99 (lv_at hl 0 rfl) ?_
        refine lv_iload hx hb dX6_parts_101 (lv_at hl 3 rfl) ?_
        refine lv_icmp_le (tgt := 114) hx hb dX6_parts_103 (by decide) (fun c_103 => ?_) (fun c_103 => ?_)
        · refine lv_iinc (v := nI (i + 1)) (lv' := [(7, .int (nI (i + 1))), (8, .int (sUnl ((sh (iN d)).2.1) ((sh (iN e0)).2.1) (sc.2.2.1 i))), (6, .int pp.2), (5, .int pp.1), (4, .int (sFirst (sStR sh d) (sStR sh e0))), (0, .ref (ad 0)), (1, .int d), (2, .int e0), (3, .int what)]) hx hb dX6_parts_114 hl (k := 1) rfl (nI_1 i) (by decide) rfl (fun ls hl => ?_)
          refine lv_goto (tgt := 47) hx hb dX6_parts_117 (by decide) ?_
          exact ih ((i + 1), pp) ls _ H locs (by show iN sc.2.2.2.1 - (i + 1) < iN sc.2.2.2.1 - i; omega) hZ ⟨(lv_sub hl [0, 2, 3, 4, 5, 6, 7, 8] rfl), hX47, hfl, (by omega), (by show pp = (sPartF (sh (iN d)).2.1 (sh (iN e0)).2.1 sc.2.2.1) i (zfold (sPartF (sh (iN d)).2.1 (sh (iN e0)).2.1 sc.2.2.1) i (-4, -4)); rw [← hp]; exact (if_neg (Int32.not_lt.mpr c_103)).symm)⟩
        · refine lv_iload hx hb dX6_parts_106 (lv_at hl 0 rfl) ?_
          refine lv_istore (lv' := [(5, .int (sUnl ((sh (iN d)).2.1) ((sh (iN e0)).2.1) (sc.2.2.1 i))), (8, .int (sUnl ((sh (iN d)).2.1) ((sh (iN e0)).2.1) (sc.2.2.1 i))), (7, .int (nI i)), (6, .int pp.2), (4, .int (sFirst (sStR sh d) (sStR sh e0))), (0, .ref (ad 0)), (1, .int d), (2, .int e0), (3, .int what)]) hx hb dX6_parts_108 hl (by decide) rfl (fun ls hl => ?_)
          refine lv_iload hx hb dX6_parts_110 (lv_at hl 2 rfl) ?_
          refine lv_istore (lv' := [(6, .int (nI i)), (5, .int (sUnl ((sh (iN d)).2.1) ((sh (iN e0)).2.1) (sc.2.2.1 i))), (8, .int (sUnl ((sh (iN d)).2.1) ((sh (iN e0)).2.1) (sc.2.2.1 i))), (7, .int (nI i)), (4, .int (sFirst (sStR sh d) (sStR sh e0))), (0, .ref (ad 0)), (1, .int d), (2, .int e0), (3, .int what)]) hx hb dX6_parts_112 hl (by decide) rfl (fun ls hl => ?_)
          refine lv_iinc (v := nI (i + 1)) (lv' := [(7, .int (nI (i + 1))), (6, .int (nI i)), (5, .int (sUnl ((sh (iN d)).2.1) ((sh (iN e0)).2.1) (sc.2.2.1 i))), (8, .int (sUnl ((sh (iN d)).2.1) ((sh (iN e0)).2.1) (sc.2.2.1 i))), (4, .int (sFirst (sStR sh d) (sStR sh e0))), (0, .ref (ad 0)), (1, .int d), (2, .int e0), (3, .int what)]) hx hb dX6_parts_114 hl (k := 3) rfl (nI_1 i) (by decide) rfl (fun ls hl => ?_)
          refine lv_goto (tgt := 47) hx hb dX6_parts_117 (by decide) ?_
          exact ih ((i + 1), ((sUnl ((sh (iN d)).2.1) ((sh (iN e0)).2.1) (sc.2.2.1 i)), nI i)) ls _ H locs (by show iN sc.2.2.2.1 - (i + 1) < iN sc.2.2.2.1 - i; omega) hZ ⟨(lv_sub hl [0, 1, 2, 4, 5, 6, 7, 8] rfl), hX47, hfl, (by omega), (by show ((sUnl ((sh (iN d)).2.1) ((sh (iN e0)).2.1) (sc.2.2.1 i)), nI i) = (sPartF (sh (iN d)).2.1 (sh (iN e0)).2.1 sc.2.2.1) i (zfold (sPartF (sh (iN d)).2.1 (sh (iN e0)).2.1 sc.2.2.1) i (-4, -4)); rw [← hp]; exact (if_pos (Int32.not_le.mp c_103)).symm)⟩
    · refine lv_iload hx hb dX6_parts_33 (lv_at hl 0 rfl) ?_
      have hq_21 : (sFirst (sStR sh d) (sStR sh e0)) = zr (bIn what 0 1) ((sFirst (sStR sh d) (sStR sh e0))) (sParts (sh (iN d)).2.1 (sh (iN e0)).2.1 sc what) := (zr_rf b_4 c_30).symm
      exact zireti hC hZ hr hlocks ⟨hq_21, hX, fr56_rf⟩ dX6_parts_35
  · rw [if_neg b_4] at hp_3
    subst hp_3
    refine lv_if_eq (tgt := 25) hx hb dX6_parts_6 (by decide) (fun _ => ?_) (fun h => absurd (by decide) h)
    refine lv_iconst (v := (-1)) hx hb dX6_parts_25 (by decide) ?_
    refine lv_istore (lv' := [(4, .int (-1)), (0, .ref (ad 0)), (1, .int d), (2, .int e0), (3, .int what)]) hx hb dX6_parts_26 hl (by decide) rfl (fun ls hl => ?_)
    refine lv_iload hx hb dX6_parts_28 (lv_at hl 0 rfl) ?_
    refine lv_if_eq (tgt := 36) hx hb dX6_parts_30 (by decide) (fun h => absurd h (by decide)) (fun _ => ?_)
    refine lv_iload hx hb dX6_parts_33 (lv_at hl 0 rfl) ?_
    have hq_22 : (-1 : Int32) = zr (bIn what 0 1) ((sFirst (sStR sh d) (sStR sh e0))) (sParts (sh (iN d)).2.1 (sh (iN e0)).2.1 sc what) := (zr_no b_4).symm
    exact zireti hC hZ hr hlocks ⟨hq_22, hX, fr56_rf⟩ dX6_parts_35

theorem mX6_isNear : zMd yX6_isNear cX6_isNear 3 (some .boolean) 3 := ⟨by decide +kernel, gt_of 495 (by decide +kernel) rfl, gt_of 44 (by decide +kernel) rfl, by decide⟩
theorem dX6_isNear_0 : decode cX6_isNear 0 = .ok (.iload_n 0, 1) := by decide +kernel
theorem dX6_isNear_1 : decode cX6_isNear 1 = .ok (.ifCond .lt 21, 3) := by decide +kernel
theorem dX6_isNear_22 : decode cX6_isNear 22 = .ok (.iconst 0, 1) := by decide +kernel
theorem dX6_isNear_23 : decode cX6_isNear 23 = .ok (.ireturn, 1) := by decide +kernel
theorem dX6_isNear_4 : decode cX6_isNear 4 = .ok (.iload_n 0, 1) := by decide +kernel
theorem dX6_isNear_5 : decode cX6_isNear 5 = .ok (.i2l, 1) := by decide +kernel
theorem dX6_isNear_6 : decode cX6_isNear 6 = .ok (.iload_n 1, 1) := by decide +kernel
theorem dX6_isNear_7 : decode cX6_isNear 7 = .ok (.i2l, 1) := by decide +kernel
theorem dX6_isNear_8 : decode cX6_isNear 8 = .ok (.lsub, 1) := by decide +kernel
theorem dX6_isNear_9 : decode cX6_isNear 9 = .ok (.invokestatic 239, 3) := by decide +kernel
theorem kX6_239 : zMath RX6 239 Lib.MathLoose.abs_long.x Lib.MathLoose.abs_long.code 2 (some .long) := ⟨gt_of 496 (by decide +kernel) rfl, gt_of 497 (by decide +kernel) rfl, gt_of 52 (by decide +kernel) rfl, gt_of 498 (by decide +kernel) rfl⟩
theorem dX6_isNear_12 : decode cX6_isNear 12 = .ok (.iload_n 2, 1) := by decide +kernel
theorem dX6_isNear_13 : decode cX6_isNear 13 = .ok (.i2l, 1) := by decide +kernel
theorem dX6_isNear_14 : decode cX6_isNear 14 = .ok (.lcmp, 1) := by decide +kernel
theorem dX6_isNear_15 : decode cX6_isNear 15 = .ok (.ifCond .gt 7, 3) := by decide +kernel
theorem dX6_isNear_18 : decode cX6_isNear 18 = .ok (.iconst 1, 1) := by decide +kernel
theorem dX6_isNear_19 : decode cX6_isNear 19 = .ok (.goto 4, 3) := by decide +kernel
set_option maxRecDepth 100000 in
theorem c_X6_isNear (l : Launch) (D : va_G) (cy : Nat → Nat) (n : Nat) (ad : Nat → Nat) (F : Nat → va_E) (sz : Nat) (told seen off : Int32) : Met l yX6_isNear (zw yX6_isNear cX6_isNear 3 (some .boolean)) (rmL 1) (zPc D cy n ad F sz [.int told, .int seen, .int off]) (va_Qi (fun r F1 => r = (if bNear told seen off then 1 else 0) ∧ F = F1) (zB D n ad) (zA n ad sz)) 0 0 (zA n ad sz) := by
  refine zmet (by decide +kernel) (Nat.le_of_ble_eq_true rfl) (fun p e s m args below meth c ls hC hsz hZ hA hr hlocks hnm hl => ?_)
  have hC : zC p m c cX6_isNear 3 s args RX6 D cy := hC
  have hx := hC.1.1
  have hb := hC.1.2.1
  have hl : lv_has ls 3 [(0, .int told), (1, .int seen), (2, .int off)] := hl
  refine lv_iload_n hx hb dX6_isNear_0 rfl (lv_at hl 0 rfl) ?_
  refine lv_if_lt (tgt := 22) hx hb dX6_isNear_1 (by decide) (fun c_1 => ?_) (fun c_1 => ?_)
  · refine lv_iconst (v := 0) hx hb dX6_isNear_22 (by decide) ?_
    have hq : (0 : Int32) = if bNear told seen off then 1 else 0 := (if_neg (fun h => absurd c_1 (Int32.not_lt.mpr h.1))).symm
    exact zbreti hC hZ hr hlocks rfl ⟨hq, rfl⟩ dX6_isNear_23
  · refine lv_iload_n hx hb dX6_isNear_4 rfl (lv_at hl 0 rfl) ?_
    refine lv_i2l (v := (told).toInt64) hx hb dX6_isNear_5 (by rfl) ?_
    refine lv_iload_n hx hb dX6_isNear_6 rfl (lv_at hl 1 rfl) ?_
    refine lv_i2l (v := (seen).toInt64) hx hb dX6_isNear_7 (by rfl) ?_
    refine lv_lsub hx hb dX6_isNear_8 ?_
    refine zabsl hC kX6_239 hl.1 (zRj_of rfl) (Nat.le_of_ble_eq_true rfl) ⟨Nat.le_refl _, Nat.le_refl _⟩ dX6_isNear_9 ?_
    refine lv_iload_n hx hb dX6_isNear_12 rfl (lv_at hl 2 rfl) ?_
    refine lv_i2l (v := (off).toInt64) hx hb dX6_isNear_13 (by rfl) ?_
    refine W.lcmp hx hb dX6_isNear_14 ?_
    refine lv_if_gt (tgt := 22) hx hb dX6_isNear_15 (by decide) (fun c_15 => ?_) (fun c_15 => ?_)
    · refine lv_iconst (v := 0) hx hb dX6_isNear_22 (by decide) ?_
      have hq : (0 : Int32) = if bNear told seen off then 1 else 0 := (if_neg (fun h => absurd ((lg_cmp_gt _ _).mp c_15) (Int64.not_lt.mpr h.2))).symm
      exact zbreti hC hZ hr hlocks rfl ⟨hq, rfl⟩ dX6_isNear_23
    · refine lv_iconst (v := 1) hx hb dX6_isNear_18 (by decide) ?_
      refine lv_goto (tgt := 23) hx hb dX6_isNear_19 (by decide) ?_
      have hq : (1 : Int32) = if bNear told seen off then 1 else 0 := (if_pos ⟨Int32.not_lt.mp c_1, Int64.not_lt.mp (fun h => c_15 ((lg_cmp_gt _ _).mpr h))⟩).symm
      exact zbreti hC hZ hr hlocks rfl ⟨hq, rfl⟩ dX6_isNear_23

theorem mX6_fits : zMd yX6_fits cX6_fits 5 (some .boolean) 3 := ⟨by decide +kernel, gt_of 485 (by decide +kernel) rfl, gt_of 44 (by decide +kernel) rfl, by decide⟩
theorem dX6_fits_0 : decode cX6_fits 0 = .ok (.iconst 0, 1) := by decide +kernel
theorem dX6_fits_1 : decode cX6_fits 1 = .ok (.istore 4, 2) := by decide +kernel
theorem dX6_fits_3 : decode cX6_fits 3 = .ok (.iload 4, 2) := by decide +kernel
theorem dX6_fits_5 : decode cX6_fits 5 = .ok (.aload_n 0, 1) := by decide +kernel
theorem dX6_fits_6 : decode cX6_fits 6 = .ok (.getfield 10, 3) := by decide +kernel
theorem dX6_fits_9 : decode cX6_fits 9 = .ok (.getfield 150, 3) := by decide +kernel
theorem dX6_fits_12 : decode cX6_fits 12 = .ok (.if_icmp .ge 54, 3) := by decide +kernel
theorem dX6_fits_66 : decode cX6_fits 66 = .ok (.iconst 1, 1) := by decide +kernel
theorem dX6_fits_67 : decode cX6_fits 67 = .ok (.ireturn, 1) := by decide +kernel
theorem dX6_fits_15 : decode cX6_fits 15 = .ok (.iload 4, 2) := by decide +kernel
theorem dX6_fits_17 : decode cX6_fits 17 = .ok (.bipush 8, 2) := by decide +kernel
theorem dX6_fits_19 : decode cX6_fits 19 = .ok (.if_icmp .ge 47, 3) := by decide +kernel
theorem dX6_fits_22 : decode cX6_fits 22 = .ok (.aload_n 2, 1) := by decide +kernel
theorem dX6_fits_23 : decode cX6_fits 23 = .ok (.iload 4, 2) := by decide +kernel
theorem dX6_fits_25 : decode cX6_fits 25 = .ok (.invokevirtual 231, 3) := by decide +kernel
theorem kX6_231 : zLk RX6 231 yX4_tells := Or.inl (gt_of 486 (by decide +kernel) rfl)
theorem vX4_tells : zMi yX4_tells := ⟨gt_of 487 (by decide +kernel) rfl, gt_of 488 (by decide +kernel) rfl⟩
theorem dX6_fits_28 : decode cX6_fits 28 = .ok (.ifCond .eq 32, 3) := by decide +kernel
theorem dX6_fits_31 : decode cX6_fits 31 = .ok (.aload_n 1, 1) := by decide +kernel
theorem dX6_fits_32 : decode cX6_fits 32 = .ok (.aload_n 0, 1) := by decide +kernel
theorem dX6_fits_33 : decode cX6_fits 33 = .ok (.getfield 10, 3) := by decide +kernel
theorem dX6_fits_36 : decode cX6_fits 36 = .ok (.getfield 156, 3) := by decide +kernel
theorem dX6_fits_39 : decode cX6_fits 39 = .ok (.iload 4, 2) := by decide +kernel
theorem dX6_fits_41 : decode cX6_fits 41 = .ok (.aaload, 1) := by decide +kernel
theorem dX6_fits_42 : decode cX6_fits 42 = .ok (.invokevirtual 205, 3) := by decide +kernel
theorem dX6_fits_45 : decode cX6_fits 45 = .ok (.aload_n 2, 1) := by decide +kernel
theorem dX6_fits_46 : decode cX6_fits 46 = .ok (.iload 4, 2) := by decide +kernel
theorem dX6_fits_48 : decode cX6_fits 48 = .ok (.invokevirtual 234, 3) := by decide +kernel
theorem kX6_234 : zLk RX6 234 yX4_at := Or.inl (gt_of 492 (by decide +kernel) rfl)
theorem dX6_fits_51 : decode cX6_fits 51 = .ok (.iload_n 3, 1) := by decide +kernel
theorem dX6_fits_52 : decode cX6_fits 52 = .ok (.invokestatic 236, 3) := by decide +kernel
theorem kX6_236 : zLk RX6 236 yX6_isNear := Or.inl (gt_of 493 (by decide +kernel) rfl)
theorem sX6_isNear : Cond.static yX6_isNear ∈ gtbl := gt_of 494 (by decide +kernel) rfl
theorem dX6_fits_55 : decode cX6_fits 55 = .ok (.ifCond .ne 5, 3) := by decide +kernel
theorem dX6_fits_60 : decode cX6_fits 60 = .ok (.iinc 4 1, 3) := by decide +kernel
theorem dX6_fits_63 : decode cX6_fits 63 = .ok (.goto (-60), 3) := by decide +kernel
theorem dX6_fits_58 : decode cX6_fits 58 = .ok (.iconst 0, 1) := by decide +kernel
theorem dX6_fits_59 : decode cX6_fits 59 = .ok (.ireturn, 1) := by decide +kernel
set_option maxRecDepth 100000 in
theorem c_X6_fits (l : Launch) (D : va_G) (cy : Nat → Nat) (n : Nat) (ad : Nat → Nat) (F : Nat → va_E) (sz : Nat) (pic : Int32) (sc ps : Scn) (sh : Nat → Shf) (rd : Rdr) (dr : Stg) (fa : Tal) (mi : Crs) (hn : 56 ≤ n) (hX : RX ad cy F pic sc ps sh rd dr fa mi) (hG : gX sc ps sh) (k : Nat) (t : Tal) (hk : k < n) (hFk : F k = oTale t) (gt : gT t) (j : Nat) (sf : Shf) (hj : j + 3 ≤ n) (hFj : RSh ad cy j F sf) (off : Int32) : Met l yX6_fits (zw yX6_fits cX6_fits 5 (some .boolean)) (rmL 5) (zPc D cy n ad F sz [.ref (ad 0), .ref (ad k), .ref (ad j), .int off]) (va_Qi (fun r F1 => r = (if bFits t sf sc off then 1 else 0) ∧ F = F1) (zB D n ad) (zA n ad sz)) 0 0 (zA n ad sz) := by
  refine zmet (by decide +kernel) (Nat.le_of_ble_eq_true rfl) (fun p e s m args below meth c ls hC hsz hZ hA hr hlocks hnm hl => ?_)
  have hC : zC p m c cX6_fits 5 s args RX6 D cy := hC
  have hx := hC.1.1
  have hb := hC.1.2.1
  have hl : lv_has ls 5 [(0, .ref (ad 0)), (1, .ref (ad k)), (2, .ref (ad j)), (3, .int off)] := hl
  refine lv_iconst (v := 0) hx hb dX6_fits_0 (by decide) ?_
  refine lv_istore (lv' := [(4, .int 0), (0, .ref (ad 0)), (1, .ref (ad k)), (2, .ref (ad j)), (3, .int off)]) hx hb dX6_fits_1 hl (by decide) rfl (fun ls hl => ?_)
  refine zlp (X := Nat) 3 (fun _ => []) (fun i ls F1 => lv_has ls 5 [(4, .int (nI i)), (0, .ref (ad 0)), (1, .ref (ad k)), (2, .ref (ad j)), (3, .int off)] ∧ F = F1 ∧ i ≤ iN sc.2.2.2.1 ∧ ∀ j, j < i → bFit t sf.2.2.1 sf.2.2.2.1 sf.2.2.2.2 sc.2.2.1 off j) (fun i => iN sc.2.2.2.1 - i) ?_ 0 hZ ⟨hl, rfl, Nat.zero_le _, fun j hj => absurd hj (Nat.not_lt_zero _)⟩
  intro i ih ls F3 H locs hZ hφ
  obtain ⟨hl, rfl, hi, hall⟩ := hφ
  have htc := tc_n hG.1
  refine lv_iload hx hb dX6_fits_3 (lv_at hl 0 rfl) ?_
  refine lv_aload_n hx hb dX6_fits_5 rfl (lv_at hl 1 rfl) ?_
  refine zget hC hZ fX6_10 (zlt hn rfl) hX.1 rfl dX6_fits_6 ?_
  refine zget hC hZ fX6_150 (zlt hn rfl) hX.2.1.1 rfl dX6_fits_9 ?_
  refine lv_icmp_ge (tgt := 66) hx hb dX6_fits_12 (by decide) (fun c_12 => ?_) (fun c_12 => ?_)
  · refine lv_iconst (v := 1) hx hb dX6_fits_66 (by decide) ?_
    have hiq : i = iN sc.2.2.2.1 := zge htc.1 (by omega) hi c_12
    have hq : (1 : Int32) = if bFits t sf sc off then 1 else 0 := (if_pos (fun j hj => hall j (by omega))).symm
    exact zbreti hC hZ hr hlocks rfl ⟨hq, rfl⟩ dX6_fits_67
  · refine lv_iload hx hb dX6_fits_15 (lv_at hl 0 rfl) ?_
    refine lv_bipush (v := 8) hx hb dX6_fits_17 (by decide) ?_
    have hlt0 := zlt2 htc.1 (by omega) c_12
    refine lv_icmp_ge (tgt := 66) hx hb dX6_fits_19 (by decide) (fun h => absurd h (by rw [Int32.not_le]; exact nI_lt (a := i) (b := 8) (by omega) (by omega))) (fun _ => ?_)
    refine lv_aload_n hx hb dX6_fits_22 rfl (lv_at hl 3 rfl) ?_
    refine lv_iload hx hb dX6_fits_23 (lv_at hl 0 rfl) ?_
    refine zgoi hZ hA (zrunV (As := [.int (nI i)]) (rest := []) (k := j) hC hZ (c_X4_tells l D cy n ad F H.size j sf hj hFj (nI i)) mX4_tells vX4_tells kX6_231 (zRj_of rfl) (by omega) hFj.1 rfl rfl hl.1 rfl (Nat.le_of_ble_eq_true rfl) dX6_fits_25 ⟨Nat.le_refl _, Nat.le_refl _⟩) (fun r_2 F_1 hp_3 H locs hZ => ?_)
    obtain ⟨hp_3, rfl⟩ := hp_3
    by_cases b_4 : bTells sf.2.2.1 sf.2.2.2.1 sf.2.2.2.2 (nI i)
    · rw [if_pos b_4] at hp_3
      subst hp_3
      refine lv_if_eq (tgt := 60) hx hb dX6_fits_28 (by decide) (fun h => absurd h (by decide)) (fun _ => ?_)
      refine lv_aload_n hx hb dX6_fits_31 rfl (lv_at hl 2 rfl) ?_
      refine lv_aload_n hx hb dX6_fits_32 rfl (lv_at hl 1 rfl) ?_
      refine zget hC hZ fX6_10 (zlt hn rfl) hX.1 rfl dX6_fits_33 ?_
      refine zget hC hZ fX6_156 (zlt hn rfl) hX.2.1.1 rfl dX6_fits_36 ?_
      refine lv_iload hx hb dX6_fits_39 (lv_at hl 0 rfl) ?_
      have hlt := zlt2 htc.1 (by omega) c_12
      have hlt8 : i < 8 := by omega
      refine zaald hC hZ (zlt hn rfl) hX.2.1.2.2.1 (C := RX3) rfl rfl hlt8 (by decide) rfl dX6_fits_41 ?_
      refine zgoi hZ hA (zrunV (As := [.ref (ad (5 + i))]) (rest := []) (k := k) hC hZ (c_X5_arch l D cy n ad F H.size k t hk hFk (5 + i) (sc.2.2.1 i) (by have := hlt8; omega) (hX.2.1.2.2.2.2 i hlt8) gt (hG.1.2.2.2.1 _ hlt8)) mX5_arch vX5_arch kX6_205 (zRj_of rfl) hk hFk rfl rfl hl.1 rfl (Nat.le_of_ble_eq_true rfl) dX6_fits_42 ⟨Nat.le_refl _, Nat.le_refl _⟩) (fun r_6 F_5 hp_7 H locs hZ => ?_)
      obtain ⟨rfl, rfl⟩ := hp_7
      refine lv_aload_n hx hb dX6_fits_45 rfl (lv_at hl 3 rfl) ?_
      refine lv_iload hx hb dX6_fits_46 (lv_at hl 0 rfl) ?_
      refine zgoi hZ hA (zrunV (As := [.int (nI i)]) (rest := [.int (sArchAt t (sc.2.2.1 i) 0)]) (k := j) hC hZ (c_X4_at l D cy n ad F H.size j sf hj hFj (nI i)) mX4_at vX4_at kX6_234 (zRj_of rfl) (by omega) hFj.1 rfl rfl hl.1 rfl (Nat.le_of_ble_eq_true rfl) dX6_fits_48 ⟨Nat.le_refl _, Nat.le_refl _⟩) (fun r_9 F_8 hp_10 H locs hZ => ?_)
      obtain ⟨rfl, rfl⟩ := hp_10
      refine lv_iload_n hx hb dX6_fits_51 rfl (lv_at hl 4 rfl) ?_
      refine zgoi hZ hA (zrunS (As := [.int (sArchAt t (sc.2.2.1 i) 0), .int (sAt sf.2.2.2.1 sf.2.2.2.2 (nI i)), .int off]) (rest := []) hC hZ (c_X6_isNear l D cy n ad F H.size (sArchAt t (sc.2.2.1 i) 0) (sAt sf.2.2.2.1 sf.2.2.2.2 (nI i)) off) mX6_isNear sX6_isNear kX6_236 (zRj_of rfl) rfl hl.1 rfl (Nat.le_of_ble_eq_true rfl) dX6_fits_52 ⟨Nat.le_refl _, Nat.le_refl _⟩) (fun r_12 F_11 hp_13 H locs hZ => ?_)
      obtain ⟨hp_13, rfl⟩ := hp_13
      by_cases b_14 : bNear (sArchAt t (sc.2.2.1 i) 0) (sAt sf.2.2.2.1 sf.2.2.2.2 (nI i)) off
      · rw [if_pos b_14] at hp_13
        subst hp_13
        refine lv_if_ne (tgt := 60) hx hb dX6_fits_55 (by decide) (fun _ => ?_) (fun h => absurd h (by decide))
        refine lv_iinc (v := nI (i + 1)) (lv' := [(4, .int (nI (i + 1))), (0, .ref (ad 0)), (1, .ref (ad k)), (2, .ref (ad j)), (3, .int off)]) hx hb dX6_fits_60 hl (k := 0) rfl (nI_1 i) (by decide) rfl (fun ls hl => ?_)
        refine lv_goto (tgt := 3) hx hb dX6_fits_63 (by decide) ?_
        have hlt := zlt2 htc.1 (by omega) c_12
        exact ih (i + 1) ls _ H locs (by show iN sc.2.2.2.1 - (i + 1) < iN sc.2.2.2.1 - i; omega) hZ ⟨(lv_sub hl [0, 1, 2, 3, 4] rfl), rfl, by omega, fun jj hj9 => by rcases Nat.lt_or_ge jj i with h9 | h9; exact hall jj h9; have e9 : jj = i := (by omega); rw [e9]; exact (fun h => h.2 b_14)⟩
      · rw [if_neg b_14] at hp_13
        subst hp_13
        refine lv_if_ne (tgt := 60) hx hb dX6_fits_55 (by decide) (fun h => absurd (by decide) h) (fun _ => ?_)
        refine lv_iconst (v := 0) hx hb dX6_fits_58 (by decide) ?_
        have hq : (0 : Int32) = if bFits t sf sc off then 1 else 0 := (if_neg (fun h => h i (zlt2 htc.1 (by omega) c_12) ⟨b_4, b_14⟩)).symm
        exact zbreti hC hZ hr hlocks rfl ⟨hq, rfl⟩ dX6_fits_59
    · rw [if_neg b_4] at hp_3
      subst hp_3
      refine lv_if_eq (tgt := 60) hx hb dX6_fits_28 (by decide) (fun _ => ?_) (fun h => absurd (by decide) h)
      refine lv_iinc (v := nI (i + 1)) (lv' := [(4, .int (nI (i + 1))), (0, .ref (ad 0)), (1, .ref (ad k)), (2, .ref (ad j)), (3, .int off)]) hx hb dX6_fits_60 hl (k := 0) rfl (nI_1 i) (by decide) rfl (fun ls hl => ?_)
      refine lv_goto (tgt := 3) hx hb dX6_fits_63 (by decide) ?_
      have hlt := zlt2 htc.1 (by omega) c_12
      exact ih (i + 1) ls _ H locs (by show iN sc.2.2.2.1 - (i + 1) < iN sc.2.2.2.1 - i; omega) hZ ⟨(lv_sub hl [0, 1, 2, 3, 4] rfl), rfl, by omega, fun jj hj9 => by rcases Nat.lt_or_ge jj i with h9 | h9; exact hall jj h9; have e9 : jj = i := (by omega); rw [e9]; exact (fun h => b_4 h.1)⟩

theorem mX6_filmRefusal : zMd yX6_filmRefusal cX6_filmRefusal 3 (some .int) 1 := ⟨by decide +kernel, gt_of 477 (by decide +kernel) rfl, gt_of 44 (by decide +kernel) rfl, by decide⟩
theorem dX6_filmRefusal_0 : decode cX6_filmRefusal 0 = .ok (.aload_n 0, 1) := by decide +kernel
theorem dX6_filmRefusal_1 : decode cX6_filmRefusal 1 = .ok (.iload_n 1, 1) := by decide +kernel
theorem dX6_filmRefusal_2 : decode cX6_filmRefusal 2 = .ok (.invokevirtual 119, 3) := by decide +kernel
theorem dX6_filmRefusal_5 : decode cX6_filmRefusal 5 = .ok (.istore_n 2, 1) := by decide +kernel
theorem dX6_filmRefusal_6 : decode cX6_filmRefusal 6 = .ok (.iload_n 2, 1) := by decide +kernel
theorem dX6_filmRefusal_7 : decode cX6_filmRefusal 7 = .ok (.ifCond .eq 5, 3) := by decide +kernel
theorem dX6_filmRefusal_12 : decode cX6_filmRefusal 12 = .ok (.aload_n 0, 1) := by decide +kernel
theorem dX6_filmRefusal_13 : decode cX6_filmRefusal 13 = .ok (.getfield 25, 3) := by decide +kernel
theorem dX6_filmRefusal_16 : decode cX6_filmRefusal 16 = .ok (.iload_n 1, 1) := by decide +kernel
theorem dX6_filmRefusal_17 : decode cX6_filmRefusal 17 = .ok (.aaload, 1) := by decide +kernel
theorem dX6_filmRefusal_18 : decode cX6_filmRefusal 18 = .ok (.getfield 228, 3) := by decide +kernel
theorem fX6_228 : zFld RX6 228 4 3 := ⟨RX4, TX4, 5, rfl, inX4, by decide, rfl, Or.inr ⟨"ChainLeap", List.mem_of_getElem? (i := 184) (by decide +kernel)⟩⟩
theorem dX6_filmRefusal_21 : decode cX6_filmRefusal 21 = .ok (.aload_n 0, 1) := by decide +kernel
theorem dX6_filmRefusal_22 : decode cX6_filmRefusal 22 = .ok (.getfield 10, 3) := by decide +kernel
theorem dX6_filmRefusal_25 : decode cX6_filmRefusal 25 = .ok (.getfield 150, 3) := by decide +kernel
theorem dX6_filmRefusal_28 : decode cX6_filmRefusal 28 = .ok (.if_icmp .ne 7, 3) := by decide +kernel
theorem dX6_filmRefusal_35 : decode cX6_filmRefusal 35 = .ok (.bipush (-13), 2) := by decide +kernel
theorem dX6_filmRefusal_37 : decode cX6_filmRefusal 37 = .ok (.ireturn, 1) := by decide +kernel
theorem dX6_filmRefusal_31 : decode cX6_filmRefusal 31 = .ok (.iconst 0, 1) := by decide +kernel
theorem dX6_filmRefusal_32 : decode cX6_filmRefusal 32 = .ok (.goto 5, 3) := by decide +kernel
theorem dX6_filmRefusal_10 : decode cX6_filmRefusal 10 = .ok (.iload_n 2, 1) := by decide +kernel
theorem dX6_filmRefusal_11 : decode cX6_filmRefusal 11 = .ok (.ireturn, 1) := by decide +kernel
set_option maxRecDepth 100000 in
theorem c_X6_filmRefusal (l : Launch) (D : va_G) (cy : Nat → Nat) (n : Nat) (ad : Nat → Nat) (F : Nat → va_E) (sz : Nat) (pic : Int32) (sc ps : Scn) (sh : Nat → Shf) (rd : Rdr) (dr : Stg) (fa : Tal) (mi : Crs) (hn : 56 ≤ n) (hX : RX ad cy F pic sc ps sh rd dr fa mi) (d : Int32) : Met l yX6_filmRefusal (zw yX6_filmRefusal cX6_filmRefusal 3 (some .int)) (rmL 2) (zPc D cy n ad F sz [.ref (ad 0), .int d]) (va_Qi (fun r F1 => r = sFilmR sc sh d ∧ F = F1) (zB D n ad) (zA n ad sz)) 0 0 (zA n ad sz) := by
  refine zmet (by decide +kernel) (Nat.le_of_ble_eq_true rfl) (fun p e s m args below meth c ls hC hsz hZ hA hr hlocks hnm hl => ?_)
  have hC : zC p m c cX6_filmRefusal 3 s args RX6 D cy := hC
  have hx := hC.1.1
  have hb := hC.1.2.1
  have hl : lv_has ls 3 [(0, .ref (ad 0)), (1, .int d)] := hl
  refine lv_aload_n hx hb dX6_filmRefusal_0 rfl (lv_at hl 0 rfl) ?_
  refine lv_iload_n hx hb dX6_filmRefusal_1 rfl (lv_at hl 1 rfl) ?_
  refine zgoi hZ hA (zrunV (As := [.int d]) (rest := []) (k := 0) hC hZ (c_X6_rowRefusal l D cy n ad F s.heap.size pic sc ps sh rd dr fa mi hn hX d) mX6_rowRefusal vX6_rowRefusal kX6_119 (zRj_of rfl) (zlt hn rfl) hX.1 rfl rfl hl.1 rfl (Nat.le_of_ble_eq_true rfl) dX6_filmRefusal_2 ⟨Nat.le_refl _, Nat.le_refl _⟩) (fun r_2 F_1 hp_3 H locs hZ => ?_)
  obtain ⟨rfl, rfl⟩ := hp_3
  refine lv_istore_n (lv' := [(2, .int (sRowR sh d)), (0, .ref (ad 0)), (1, .int d)]) hx hb dX6_filmRefusal_5 rfl hl (by decide) rfl (fun ls hl => ?_)
  refine lv_iload_n hx hb dX6_filmRefusal_6 rfl (lv_at hl 0 rfl) ?_
  refine lv_if_eq (tgt := 12) hx hb dX6_filmRefusal_7 (by decide) (fun c_7 => ?_) (fun c_7 => ?_)
  · refine lv_aload_n hx hb dX6_filmRefusal_12 rfl (lv_at hl 1 rfl) ?_
    refine zget hC hZ fX6_25 (zlt hn rfl) hX.1 rfl dX6_filmRefusal_13 ?_
    refine lv_iload_n hx hb dX6_filmRefusal_16 rfl (lv_at hl 2 rfl) ?_
    have hs_4 := sRowR_0 c_7
    refine zaald hC hZ (zlt hn rfl) hX.2.2.2.1 (C := RX4) rfl hs_4.1.1 hs_4.1.2 (by decide) rfl dX6_filmRefusal_17 ?_
    refine zget hC hZ fX6_228 (by have := hs_4.1.2; omega) (hX.2.2.2.2.1 (iN d) hs_4.1.2).1 rfl dX6_filmRefusal_18 ?_
    refine lv_aload_n hx hb dX6_filmRefusal_21 rfl (lv_at hl 1 rfl) ?_
    refine zget hC hZ fX6_10 (zlt hn rfl) hX.1 rfl dX6_filmRefusal_22 ?_
    refine zget hC hZ fX6_150 (zlt hn rfl) hX.2.1.1 rfl dX6_filmRefusal_25 ?_
    refine lv_icmp_ne (tgt := 35) hx hb dX6_filmRefusal_28 (by decide) (fun c_28 => ?_) (fun c_28 => ?_)
    · refine lv_bipush (v := (-13)) hx hb dX6_filmRefusal_35 (by decide) ?_
      have hq : (-13 : Int32) = sFilmR sc sh d := by unfold sFilmR; rw [if_pos c_7, if_neg c_28]
      exact zireti hC hZ hr hlocks ⟨hq, rfl⟩ dX6_filmRefusal_37
    · refine lv_iconst (v := 0) hx hb dX6_filmRefusal_31 (by decide) ?_
      refine lv_goto (tgt := 37) hx hb dX6_filmRefusal_32 (by decide) ?_
      have hq : (0 : Int32) = sFilmR sc sh d := by unfold sFilmR; rw [if_pos c_7, if_pos c_28]
      exact zireti hC hZ hr hlocks ⟨hq, rfl⟩ dX6_filmRefusal_37
  · refine lv_iload_n hx hb dX6_filmRefusal_10 rfl (lv_at hl 0 rfl) ?_
    have hq : sRowR sh d = sFilmR sc sh d := (if_neg c_7).symm
    exact zireti hC hZ hr hlocks ⟨hq, rfl⟩ dX6_filmRefusal_11

theorem mX6_films : zMd yX6_films cX6_films 8 (some .int) 3 := ⟨by decide +kernel, gt_of 473 (by decide +kernel) rfl, gt_of 44 (by decide +kernel) rfl, by decide⟩
theorem dX6_films_0 : decode cX6_films 0 = .ok (.iload_n 2, 1) := by decide +kernel
theorem dX6_films_1 : decode cX6_films 1 = .ok (.iconst 0, 1) := by decide +kernel
theorem dX6_films_2 : decode cX6_films 2 = .ok (.bipush 40, 2) := by decide +kernel
theorem dX6_films_4 : decode cX6_films 4 = .ok (.invokestatic 115, 3) := by decide +kernel
theorem dX6_films_7 : decode cX6_films 7 = .ok (.ifCond .eq 18, 3) := by decide +kernel
theorem dX6_films_10 : decode cX6_films 10 = .ok (.iload_n 3, 1) := by decide +kernel
theorem dX6_films_11 : decode cX6_films 11 = .ok (.iconst 0, 1) := by decide +kernel
theorem dX6_films_12 : decode cX6_films 12 = .ok (.sipush 9999, 3) := by decide +kernel
theorem dX6_films_15 : decode cX6_films 15 = .ok (.invokestatic 115, 3) := by decide +kernel
theorem dX6_films_18 : decode cX6_films 18 = .ok (.ifCond .eq 7, 3) := by decide +kernel
theorem dX6_films_21 : decode cX6_films 21 = .ok (.iconst 1, 1) := by decide +kernel
theorem dX6_films_22 : decode cX6_films 22 = .ok (.goto 4, 3) := by decide +kernel
theorem dX6_films_26 : decode cX6_films 26 = .ok (.istore 4, 2) := by decide +kernel
theorem dX6_films_28 : decode cX6_films 28 = .ok (.iload 4, 2) := by decide +kernel
theorem dX6_films_30 : decode cX6_films 30 = .ok (.ifCond .eq 11, 3) := by decide +kernel
theorem dX6_films_33 : decode cX6_films 33 = .ok (.aload_n 0, 1) := by decide +kernel
theorem dX6_films_34 : decode cX6_films 34 = .ok (.iload_n 1, 1) := by decide +kernel
theorem dX6_films_35 : decode cX6_films 35 = .ok (.invokevirtual 217, 3) := by decide +kernel
theorem kX6_217 : zLk RX6 217 yX6_filmRefusal := Or.inl (gt_of 474 (by decide +kernel) rfl)
theorem vX6_filmRefusal : zMi yX6_filmRefusal := ⟨gt_of 476 (by decide +kernel) rfl, gt_of 12 (by decide +kernel) rfl⟩
theorem dX6_films_38 : decode cX6_films 38 = .ok (.goto 4, 3) := by decide +kernel
theorem dX6_films_42 : decode cX6_films 42 = .ok (.istore 5, 2) := by decide +kernel
theorem dX6_films_44 : decode cX6_films 44 = .ok (.iload 5, 2) := by decide +kernel
theorem dX6_films_46 : decode cX6_films 46 = .ok (.ifCond .eq 6, 3) := by decide +kernel
theorem dX6_films_52 : decode cX6_films 52 = .ok (.iconst 0, 1) := by decide +kernel
theorem dX6_films_53 : decode cX6_films 53 = .ok (.istore 6, 2) := by decide +kernel
theorem dX6_films_55 : decode cX6_films 55 = .ok (.iconst 0, 1) := by decide +kernel
theorem dX6_films_56 : decode cX6_films 56 = .ok (.istore 7, 2) := by decide +kernel
theorem dX6_films_58 : decode cX6_films 58 = .ok (.iload 7, 2) := by decide +kernel
theorem dX6_films_60 : decode cX6_films 60 = .ok (.bipush 8, 2) := by decide +kernel
theorem dX6_films_62 : decode cX6_films 62 = .ok (.if_icmp .ge 46, 3) := by decide +kernel
theorem dX6_films_108 : decode cX6_films 108 = .ok (.iload 6, 2) := by decide +kernel
theorem dX6_films_110 : decode cX6_films 110 = .ok (.ireturn, 1) := by decide +kernel
theorem dX6_films_65 : decode cX6_films 65 = .ok (.aload_n 0, 1) := by decide +kernel
theorem dX6_films_66 : decode cX6_films 66 = .ok (.getfield 47, 3) := by decide +kernel
theorem fX6_47 : zFld RX6 47 6 6 := ⟨RX6, TX6, 9, rfl, inX6, by decide, rfl, Or.inl (gt_of 232 (by decide +kernel) rfl)⟩
theorem dX6_films_69 : decode cX6_films 69 = .ok (.iload 7, 2) := by decide +kernel
theorem dX6_films_71 : decode cX6_films 71 = .ok (.iload_n 2, 1) := by decide +kernel
theorem dX6_films_72 : decode cX6_films 72 = .ok (.invokevirtual 220, 3) := by decide +kernel
theorem kX6_220 : zLk RX6 220 yX5_become := Or.inl (gt_of 478 (by decide +kernel) rfl)
theorem dX6_films_75 : decode cX6_films 75 = .ok (.aload_n 0, 1) := by decide +kernel
theorem dX6_films_76 : decode cX6_films 76 = .ok (.aload_n 0, 1) := by decide +kernel
theorem dX6_films_77 : decode cX6_films 77 = .ok (.getfield 47, 3) := by decide +kernel
theorem dX6_films_80 : decode cX6_films 80 = .ok (.aload_n 0, 1) := by decide +kernel
theorem dX6_films_81 : decode cX6_films 81 = .ok (.getfield 25, 3) := by decide +kernel
theorem dX6_films_84 : decode cX6_films 84 = .ok (.iload_n 1, 1) := by decide +kernel
theorem dX6_films_85 : decode cX6_films 85 = .ok (.aaload, 1) := by decide +kernel
theorem dX6_films_86 : decode cX6_films 86 = .ok (.iload_n 3, 1) := by decide +kernel
theorem dX6_films_87 : decode cX6_films 87 = .ok (.invokevirtual 224, 3) := by decide +kernel
theorem kX6_224 : zLk RX6 224 yX6_fits := Or.inl (gt_of 482 (by decide +kernel) rfl)
theorem vX6_fits : zMi yX6_fits := ⟨gt_of 484 (by decide +kernel) rfl, gt_of 13 (by decide +kernel) rfl⟩
theorem dX6_films_90 : decode cX6_films 90 = .ok (.ifCond .eq 12, 3) := by decide +kernel
theorem dX6_films_93 : decode cX6_films 93 = .ok (.iload 6, 2) := by decide +kernel
theorem dX6_films_95 : decode cX6_films 95 = .ok (.iconst 1, 1) := by decide +kernel
theorem dX6_films_96 : decode cX6_films 96 = .ok (.iload 7, 2) := by decide +kernel
theorem dX6_films_98 : decode cX6_films 98 = .ok (.ishl, 1) := by decide +kernel
theorem dX6_films_99 : decode cX6_films 99 = .ok (.ior, 1) := by decide +kernel
theorem dX6_films_100 : decode cX6_films 100 = .ok (.istore 6, 2) := by decide +kernel
theorem dX6_films_102 : decode cX6_films 102 = .ok (.iinc 7 1, 3) := by decide +kernel
theorem dX6_films_105 : decode cX6_films 105 = .ok (.goto (-47), 3) := by decide +kernel
theorem dX6_films_49 : decode cX6_films 49 = .ok (.iload 5, 2) := by decide +kernel
theorem dX6_films_51 : decode cX6_films 51 = .ok (.ireturn, 1) := by decide +kernel
theorem dX6_films_25 : decode cX6_films 25 = .ok (.iconst 0, 1) := by decide +kernel
theorem dX6_films_41 : decode cX6_films 41 = .ok (.iconst (-1), 1) := by decide +kernel
set_option maxRecDepth 100000 in
theorem c_X6_films (l : Launch) (D : va_G) (cy : Nat → Nat) (n : Nat) (ad : Nat → Nat) (F : Nat → va_E) (sz : Nat) (pic : Int32) (sc ps : Scn) (sh : Nat → Shf) (rd : Rdr) (dr : Stg) (fa : Tal) (mi : Crs) (hn : 56 ≤ n) (hX : RX ad cy F pic sc ps sh rd dr fa mi) (hG : gX sc ps sh) (d fg off : Int32) : Met l yX6_films (zw yX6_films cX6_films 8 (some .int)) (rmL 6) (zPc D cy n ad F sz [.ref (ad 0), .int d, .int fg, .int off]) (va_Qi (fun r F1 => r = zr (bIn fg 0 40 ∧ bIn off 0 9999) (sFilmR sc sh d) (zfold (sFilmF sc (sh (iN d)) fg off) 8 0) ∧ ∃ fa1, RX ad cy F1 pic sc ps sh rd dr fa1 mi ∧ fr56 F F1) (zB D n ad) (zA n ad sz)) 0 0 (zA n ad sz) := by
  refine zmet (by decide +kernel) (Nat.le_of_ble_eq_true rfl) (fun p e s m args below meth c ls hC hsz hZ hA hr hlocks hnm hl => ?_)
  have hC : zC p m c cX6_films 8 s args RX6 D cy := hC
  have hx := hC.1.1
  have hb := hC.1.2.1
  have hl : lv_has ls 8 [(0, .ref (ad 0)), (1, .int d), (2, .int fg), (3, .int off)] := hl
  refine lv_iload_n hx hb dX6_films_0 rfl (lv_at hl 2 rfl) ?_
  refine lv_iconst (v := 0) hx hb dX6_films_1 (by decide) ?_
  refine lv_bipush (v := 40) hx hb dX6_films_2 (by decide) ?_
  refine zgoi hZ hA (zrunS (As := [.int fg, .int 0, .int 40]) (rest := []) hC hZ (c_X6_isWithin l D cy n ad F s.heap.size fg 0 40) mX6_isWithin sX6_isWithin kX6_115 (zRj_of rfl) rfl hl.1 rfl (Nat.le_of_ble_eq_true rfl) dX6_films_4 ⟨Nat.le_refl _, Nat.le_refl _⟩) (fun r_2 F_1 hp_3 H locs hZ => ?_)
  obtain ⟨hp_3, rfl⟩ := hp_3
  by_cases b_4 : bIn fg 0 40
  · rw [if_pos b_4] at hp_3
    subst hp_3
    refine lv_if_eq (tgt := 25) hx hb dX6_films_7 (by decide) (fun h => absurd h (by decide)) (fun _ => ?_)
    refine lv_iload_n hx hb dX6_films_10 rfl (lv_at hl 3 rfl) ?_
    refine lv_iconst (v := 0) hx hb dX6_films_11 (by decide) ?_
    refine lv_sipush (v := 9999) hx hb dX6_films_12 (by decide) ?_
    refine zgoi hZ hA (zrunS (As := [.int off, .int 0, .int 9999]) (rest := []) hC hZ (c_X6_isWithin l D cy n ad F H.size off 0 9999) mX6_isWithin sX6_isWithin kX6_115 (zRj_of rfl) rfl hl.1 rfl (Nat.le_of_ble_eq_true rfl) dX6_films_15 ⟨Nat.le_refl _, Nat.le_refl _⟩) (fun r_6 F_5 hp_7 H locs hZ => ?_)
    obtain ⟨hp_7, rfl⟩ := hp_7
    by_cases b_8 : bIn off 0 9999
    · rw [if_pos b_8] at hp_7
      subst hp_7
      refine lv_if_eq (tgt := 25) hx hb dX6_films_18 (by decide) (fun h => absurd h (by decide)) (fun _ => ?_)
      refine lv_iconst (v := 1) hx hb dX6_films_21 (by decide) ?_
      refine lv_goto (tgt := 26) hx hb dX6_films_22 (by decide) ?_
      refine lv_istore (lv' := [(4, .int 1), (0, .ref (ad 0)), (1, .int d), (2, .int fg), (3, .int off)]) hx hb dX6_films_26 hl (by decide) rfl (fun ls hl => ?_)
      refine lv_iload hx hb dX6_films_28 (lv_at hl 0 rfl) ?_
      refine lv_if_eq (tgt := 41) hx hb dX6_films_30 (by decide) (fun h => absurd h (by decide)) (fun _ => ?_)
      refine lv_aload_n hx hb dX6_films_33 rfl (lv_at hl 1 rfl) ?_
      refine lv_iload_n hx hb dX6_films_34 rfl (lv_at hl 2 rfl) ?_
      refine zgoi hZ hA (zrunV (As := [.int d]) (rest := []) (k := 0) hC hZ (c_X6_filmRefusal l D cy n ad F H.size pic sc ps sh rd dr fa mi hn hX d) mX6_filmRefusal vX6_filmRefusal kX6_217 (zRj_of rfl) (zlt hn rfl) hX.1 rfl rfl hl.1 rfl (Nat.le_of_ble_eq_true rfl) dX6_films_35 ⟨Nat.le_refl _, Nat.le_refl _⟩) (fun r_10 F_9 hp_11 H locs hZ => ?_)
      obtain ⟨rfl, rfl⟩ := hp_11
      refine lv_goto (tgt := 42) hx hb dX6_films_38 (by decide) ?_
      refine lv_istore (lv' := [(5, .int (sFilmR sc sh d)), (4, .int 1), (0, .ref (ad 0)), (1, .int d), (2, .int fg), (3, .int off)]) hx hb dX6_films_42 hl (by decide) rfl (fun ls hl => ?_)
      refine lv_iload hx hb dX6_films_44 (lv_at hl 0 rfl) ?_
      refine lv_if_eq (tgt := 52) hx hb dX6_films_46 (by decide) (fun c_46 => ?_) (fun c_46 => ?_)
      · refine lv_iconst (v := 0) hx hb dX6_films_52 (by decide) ?_
        refine lv_istore (lv' := [(6, .int 0), (5, .int (sFilmR sc sh d)), (4, .int 1), (0, .ref (ad 0)), (1, .int d), (2, .int fg), (3, .int off)]) hx hb dX6_films_53 hl (by decide) rfl (fun ls hl => ?_)
        refine lv_iconst (v := 0) hx hb dX6_films_55 (by decide) ?_
        refine lv_istore (lv' := [(7, .int 0), (6, .int 0), (5, .int (sFilmR sc sh d)), (4, .int 1), (0, .ref (ad 0)), (1, .int d), (2, .int fg), (3, .int off)]) hx hb dX6_films_56 hl (by decide) rfl (fun ls hl => ?_)
        have hsf := sFilmR_0 c_46
        refine zlp (X := Nat × Int32 × Tal) 58 (fun _ => []) (fun x ls F1 => lv_has ls 8 [(7, .int (nI x.1)), (6, .int x.2.1), (5, .int (sFilmR sc sh d)), (4, .int 1), (0, .ref (ad 0)), (1, .int d), (2, .int fg), (3, .int off)] ∧ RX ad cy F1 pic sc ps sh rd dr x.2.2 mi ∧ fr56 F F1 ∧ x.1 ≤ 8 ∧ x.2.1 = zfold (sFilmF sc (sh (iN d)) fg off) x.1 0) (fun x => 8 - x.1) ?_ (0, 0, fa) hZ ⟨hl, hX, fr56_rf, (Nat.zero_le _), rfl⟩
        intro x ih ls F3 H locs hZ hφ
        obtain ⟨i, bt, fv⟩ := x
        obtain ⟨hl, hXl, hfl, hi, hp⟩ := hφ
        have hl : lv_has ls 8 [(7, .int (nI i)), (6, .int bt), (5, .int (sFilmR sc sh d)), (4, .int 1), (0, .ref (ad 0)), (1, .int d), (2, .int fg), (3, .int off)] := hl
        have hX58 : RX ad cy F3 pic sc ps sh rd dr fv mi := hXl
        have hi : i ≤ 8 := hi
        have hp : bt = zfold (sFilmF sc (sh (iN d)) fg off) i 0 := hp
        refine lv_iload hx hb dX6_films_58 (lv_at hl 0 rfl) ?_
        refine lv_bipush (v := 8) hx hb dX6_films_60 (by decide) ?_
        refine lv_icmp_ge (tgt := 108) hx hb dX6_films_62 (by decide) (fun c_62 => ?_) (fun c_62 => ?_)
        · refine lv_iload hx hb dX6_films_108 (lv_at hl 1 rfl) ?_
          have hiq : i = 8 := by have := nIge (N := 8) c_62 (by omega) rfl; omega
          have hv_13 : bt = zfold (sFilmF sc (sh (iN d)) fg off) 8 0 := by rw [hp, hiq]
          have hq_12 : bt = zr (bIn fg 0 40 ∧ bIn off 0 9999) ((sFilmR sc sh d)) (zfold (sFilmF sc (sh (iN d)) fg off) 8 0) := hv_13.trans (zr_ok ⟨b_4, b_8⟩ c_46).symm
          exact zireti hC hZ hr hlocks ⟨hq_12, fv, hX58, hfl⟩ dX6_films_110
        · refine lv_aload_n hx hb dX6_films_65 rfl (lv_at hl 4 rfl) ?_
          refine zget hC hZ fX6_47 (zlt hn rfl) hX58.1 rfl dX6_films_66 ?_
          refine lv_iload hx hb dX6_films_69 (lv_at hl 0 rfl) ?_
          refine lv_iload_n hx hb dX6_films_71 rfl (lv_at hl 6 rfl) ?_
          refine zgov hZ hA (zrunV (As := [.int (nI i), .int fg]) (rest := []) (k := 53) hC hZ (c_X5_become l D cy n ad F3 H.size 53 fv (zlt hn rfl) hX58.2.2.2.2.2.2.2.1 (nI i) fg) mX5_become vX5_become kX6_220 (zRj_of rfl) (zlt hn rfl) hX58.2.2.2.2.2.2.2.1 rfl rfl hl.1 rfl (Nat.le_of_ble_eq_true rfl) dX6_films_72 ⟨Nat.le_refl _, Nat.le_refl _⟩) (fun F_14 hp_16 H locs hZ => ?_)
          have hX_17 := rx_fancy hX58 hp_16
          have hf_18 := fr56_up hfl hp_16 (by decide)
          have hX_17 : RX ad cy F_14 pic sc ps sh rd dr (nI i, fg) mi := hX_17
          refine lv_aload_n hx hb dX6_films_75 rfl (lv_at hl 4 rfl) ?_
          refine lv_aload_n hx hb dX6_films_76 rfl (lv_at hl 4 rfl) ?_
          refine zget hC hZ fX6_47 (zlt hn rfl) hX_17.1 rfl dX6_films_77 ?_
          refine lv_aload_n hx hb dX6_films_80 rfl (lv_at hl 4 rfl) ?_
          refine zget hC hZ fX6_25 (zlt hn rfl) hX_17.1 rfl dX6_films_81 ?_
          refine lv_iload_n hx hb dX6_films_84 rfl (lv_at hl 5 rfl) ?_
          refine zaald hC hZ (zlt hn rfl) hX_17.2.2.2.1 (C := RX4) rfl hsf.1.1 hsf.1.2 (by decide) rfl dX6_films_85 ?_
          refine lv_iload_n hx hb dX6_films_86 rfl (lv_at hl 7 rfl) ?_
          refine zgoi hZ hA (zrunV (As := [.ref (ad 53), .ref (ad (26 + 3 * (iN d))), .int off]) (rest := []) (k := 0) hC hZ (c_X6_fits l D cy n ad F_14 H.size pic sc ps sh rd dr (nI i, fg) mi hn hX_17 hG 53 (nI i, fg) (zlt hn rfl) hX_17.2.2.2.2.2.2.2.1 (gTn (by have := nIlt (N := 8) c_62 (by omega) rfl; omega) b_4) (26 + 3 * (iN d)) (sh (iN d)) (by have := hsf.1.2; omega) (hX_17.2.2.2.2.1 (iN d) hsf.1.2) off) mX6_fits vX6_fits kX6_224 (zRj_of rfl) (zlt hn rfl) hX_17.1 rfl rfl hl.1 rfl (Nat.le_of_ble_eq_true rfl) dX6_films_87 ⟨Nat.le_refl _, Nat.le_refl _⟩) (fun r_20 F_19 hp_21 H locs hZ => ?_)
          obtain ⟨hp_21, rfl⟩ := hp_21
          by_cases b_22 : bFits (nI i, fg) (sh (iN d)) sc off
          · rw [if_pos b_22] at hp_21
            subst hp_21
            refine lv_if_eq (tgt := 102) hx hb dX6_films_90 (by decide) (fun h => absurd h (by decide)) (fun _ => ?_)
            refine lv_iload hx hb dX6_films_93 (lv_at hl 1 rfl) ?_
            refine lv_iconst (v := 1) hx hb dX6_films_95 (by decide) ?_
            refine lv_iload hx hb dX6_films_96 (lv_at hl 0 rfl) ?_
            refine lv_ishl hx hb dX6_films_98 ?_
            refine lv_ior hx hb dX6_films_99 ?_
            refine lv_istore (lv' := [(6, .int (bt ||| (1 <<< (nI i &&& 31)))), (7, .int (nI i)), (5, .int (sFilmR sc sh d)), (4, .int 1), (0, .ref (ad 0)), (1, .int d), (2, .int fg), (3, .int off)]) hx hb dX6_films_100 hl (by decide) rfl (fun ls hl => ?_)
            refine lv_iinc (v := nI (i + 1)) (lv' := [(7, .int (nI (i + 1))), (6, .int (bt ||| (1 <<< (nI i &&& 31)))), (5, .int (sFilmR sc sh d)), (4, .int 1), (0, .ref (ad 0)), (1, .int d), (2, .int fg), (3, .int off)]) hx hb dX6_films_102 hl (k := 1) rfl (nI_1 i) (by decide) rfl (fun ls hl => ?_)
            refine lv_goto (tgt := 58) hx hb dX6_films_105 (by decide) ?_
            have hlt := nIlt (N := 8) c_62 (by omega) rfl
            exact ih ((i + 1), (bt ||| (1 <<< (nI i &&& 31))), (nI i, fg)) ls _ H locs (by show 8 - (i + 1) < 8 - i; omega) hZ ⟨hl, hX_17, hf_18, (by omega), (by show (bt ||| (1 <<< (nI i &&& 31))) = (sFilmF sc (sh (iN d)) fg off) i (zfold (sFilmF sc (sh (iN d)) fg off) i 0); rw [← hp]; exact (if_pos b_22).symm)⟩
          · rw [if_neg b_22] at hp_21
            subst hp_21
            refine lv_if_eq (tgt := 102) hx hb dX6_films_90 (by decide) (fun _ => ?_) (fun h => absurd (by decide) h)
            refine lv_iinc (v := nI (i + 1)) (lv' := [(7, .int (nI (i + 1))), (6, .int bt), (5, .int (sFilmR sc sh d)), (4, .int 1), (0, .ref (ad 0)), (1, .int d), (2, .int fg), (3, .int off)]) hx hb dX6_films_102 hl (k := 0) rfl (nI_1 i) (by decide) rfl (fun ls hl => ?_)
            refine lv_goto (tgt := 58) hx hb dX6_films_105 (by decide) ?_
            have hlt := nIlt (N := 8) c_62 (by omega) rfl
            exact ih ((i + 1), bt, (nI i, fg)) ls _ H locs (by show 8 - (i + 1) < 8 - i; omega) hZ ⟨hl, hX_17, hf_18, (by omega), (by show bt = (sFilmF sc (sh (iN d)) fg off) i (zfold (sFilmF sc (sh (iN d)) fg off) i 0); rw [← hp]; exact (if_neg b_22).symm)⟩
      · refine lv_iload hx hb dX6_films_49 (lv_at hl 0 rfl) ?_
        have hq_23 : (sFilmR sc sh d) = zr (bIn fg 0 40 ∧ bIn off 0 9999) ((sFilmR sc sh d)) (zfold (sFilmF sc (sh (iN d)) fg off) 8 0) := (zr_rf ⟨b_4, b_8⟩ c_46).symm
        exact zireti hC hZ hr hlocks ⟨hq_23, fa, hX, fr56_rf⟩ dX6_films_51
    · rw [if_neg b_8] at hp_7
      subst hp_7
      refine lv_if_eq (tgt := 25) hx hb dX6_films_18 (by decide) (fun _ => ?_) (fun h => absurd (by decide) h)
      refine lv_iconst (v := 0) hx hb dX6_films_25 (by decide) ?_
      refine lv_istore (lv' := [(4, .int 0), (0, .ref (ad 0)), (1, .int d), (2, .int fg), (3, .int off)]) hx hb dX6_films_26 hl (by decide) rfl (fun ls hl => ?_)
      refine lv_iload hx hb dX6_films_28 (lv_at hl 0 rfl) ?_
      refine lv_if_eq (tgt := 41) hx hb dX6_films_30 (by decide) (fun _ => ?_) (fun h => absurd (by decide) h)
      refine lv_iconst (v := (-1)) hx hb dX6_films_41 (by decide) ?_
      refine lv_istore (lv' := [(5, .int (-1)), (4, .int 0), (0, .ref (ad 0)), (1, .int d), (2, .int fg), (3, .int off)]) hx hb dX6_films_42 hl (by decide) rfl (fun ls hl => ?_)
      refine lv_iload hx hb dX6_films_44 (lv_at hl 0 rfl) ?_
      refine lv_if_eq (tgt := 52) hx hb dX6_films_46 (by decide) (fun h => absurd h (by decide)) (fun _ => ?_)
      refine lv_iload hx hb dX6_films_49 (lv_at hl 0 rfl) ?_
      have hq_24 : (-1 : Int32) = zr (bIn fg 0 40 ∧ bIn off 0 9999) ((sFilmR sc sh d)) (zfold (sFilmF sc (sh (iN d)) fg off) 8 0) := (zr_no (fun h => b_8 h.2)).symm
      exact zireti hC hZ hr hlocks ⟨hq_24, fa, hX, fr56_rf⟩ dX6_films_51
  · rw [if_neg b_4] at hp_3
    subst hp_3
    refine lv_if_eq (tgt := 25) hx hb dX6_films_7 (by decide) (fun _ => ?_) (fun h => absurd (by decide) h)
    refine lv_iconst (v := 0) hx hb dX6_films_25 (by decide) ?_
    refine lv_istore (lv' := [(4, .int 0), (0, .ref (ad 0)), (1, .int d), (2, .int fg), (3, .int off)]) hx hb dX6_films_26 hl (by decide) rfl (fun ls hl => ?_)
    refine lv_iload hx hb dX6_films_28 (lv_at hl 0 rfl) ?_
    refine lv_if_eq (tgt := 41) hx hb dX6_films_30 (by decide) (fun _ => ?_) (fun h => absurd (by decide) h)
    refine lv_iconst (v := (-1)) hx hb dX6_films_41 (by decide) ?_
    refine lv_istore (lv' := [(5, .int (-1)), (4, .int 0), (0, .ref (ad 0)), (1, .int d), (2, .int fg), (3, .int off)]) hx hb dX6_films_42 hl (by decide) rfl (fun ls hl => ?_)
    refine lv_iload hx hb dX6_films_44 (lv_at hl 0 rfl) ?_
    refine lv_if_eq (tgt := 52) hx hb dX6_films_46 (by decide) (fun h => absurd h (by decide)) (fun _ => ?_)
    refine lv_iload hx hb dX6_films_49 (lv_at hl 0 rfl) ?_
    have hq_25 : (-1 : Int32) = zr (bIn fg 0 40 ∧ bIn off 0 9999) ((sFilmR sc sh d)) (zfold (sFilmF sc (sh (iN d)) fg off) 8 0) := (zr_no (fun h => b_4 h.1)).symm
    exact zireti hC hZ hr hlocks ⟨hq_25, fa, hX, fr56_rf⟩ dX6_films_51

theorem mX6_numbers : zMd yX6_numbers cX6_numbers 11 (some .int) 4 := ⟨by decide +kernel, gt_of 502 (by decide +kernel) rfl, gt_of 44 (by decide +kernel) rfl, by decide⟩
theorem dX6_numbers_0 : decode cX6_numbers 0 = .ok (.iload_n 2, 1) := by decide +kernel
theorem dX6_numbers_1 : decode cX6_numbers 1 = .ok (.iconst 0, 1) := by decide +kernel
theorem dX6_numbers_2 : decode cX6_numbers 2 = .ok (.bipush 7, 2) := by decide +kernel
theorem dX6_numbers_4 : decode cX6_numbers 4 = .ok (.invokestatic 115, 3) := by decide +kernel
theorem dX6_numbers_7 : decode cX6_numbers 7 = .ok (.ifCond .eq 28, 3) := by decide +kernel
theorem dX6_numbers_10 : decode cX6_numbers 10 = .ok (.iload_n 3, 1) := by decide +kernel
theorem dX6_numbers_11 : decode cX6_numbers 11 = .ok (.iconst 0, 1) := by decide +kernel
theorem dX6_numbers_12 : decode cX6_numbers 12 = .ok (.sipush 9999, 3) := by decide +kernel
theorem dX6_numbers_15 : decode cX6_numbers 15 = .ok (.invokestatic 115, 3) := by decide +kernel
theorem dX6_numbers_18 : decode cX6_numbers 18 = .ok (.ifCond .eq 17, 3) := by decide +kernel
theorem dX6_numbers_21 : decode cX6_numbers 21 = .ok (.iload 4, 2) := by decide +kernel
theorem dX6_numbers_23 : decode cX6_numbers 23 = .ok (.iconst 0, 1) := by decide +kernel
theorem dX6_numbers_24 : decode cX6_numbers 24 = .ok (.iconst 2, 1) := by decide +kernel
theorem dX6_numbers_25 : decode cX6_numbers 25 = .ok (.invokestatic 115, 3) := by decide +kernel
theorem dX6_numbers_28 : decode cX6_numbers 28 = .ok (.ifCond .eq 7, 3) := by decide +kernel
theorem dX6_numbers_31 : decode cX6_numbers 31 = .ok (.iconst 1, 1) := by decide +kernel
theorem dX6_numbers_32 : decode cX6_numbers 32 = .ok (.goto 4, 3) := by decide +kernel
theorem dX6_numbers_36 : decode cX6_numbers 36 = .ok (.istore 5, 2) := by decide +kernel
theorem dX6_numbers_38 : decode cX6_numbers 38 = .ok (.iload 5, 2) := by decide +kernel
theorem dX6_numbers_40 : decode cX6_numbers 40 = .ok (.ifCond .eq 11, 3) := by decide +kernel
theorem dX6_numbers_43 : decode cX6_numbers 43 = .ok (.aload_n 0, 1) := by decide +kernel
theorem dX6_numbers_44 : decode cX6_numbers 44 = .ok (.iload_n 1, 1) := by decide +kernel
theorem dX6_numbers_45 : decode cX6_numbers 45 = .ok (.invokevirtual 217, 3) := by decide +kernel
theorem dX6_numbers_48 : decode cX6_numbers 48 = .ok (.goto 4, 3) := by decide +kernel
theorem dX6_numbers_52 : decode cX6_numbers 52 = .ok (.istore 6, 2) := by decide +kernel
theorem dX6_numbers_54 : decode cX6_numbers 54 = .ok (.iload 6, 2) := by decide +kernel
theorem dX6_numbers_56 : decode cX6_numbers 56 = .ok (.ifCond .eq 6, 3) := by decide +kernel
theorem dX6_numbers_62 : decode cX6_numbers 62 = .ok (.bipush (-4), 2) := by decide +kernel
theorem dX6_numbers_64 : decode cX6_numbers 64 = .ok (.istore 7, 2) := by decide +kernel
theorem dX6_numbers_66 : decode cX6_numbers 66 = .ok (.bipush (-4), 2) := by decide +kernel
theorem dX6_numbers_68 : decode cX6_numbers 68 = .ok (.istore 8, 2) := by decide +kernel
theorem dX6_numbers_70 : decode cX6_numbers 70 = .ok (.iconst 0, 1) := by decide +kernel
theorem dX6_numbers_71 : decode cX6_numbers 71 = .ok (.istore 9, 2) := by decide +kernel
theorem dX6_numbers_73 : decode cX6_numbers 73 = .ok (.iconst 0, 1) := by decide +kernel
theorem dX6_numbers_74 : decode cX6_numbers 74 = .ok (.istore 10, 2) := by decide +kernel
theorem dX6_numbers_76 : decode cX6_numbers 76 = .ok (.iload 10, 2) := by decide +kernel
theorem dX6_numbers_78 : decode cX6_numbers 78 = .ok (.bipush 40, 2) := by decide +kernel
theorem dX6_numbers_80 : decode cX6_numbers 80 = .ok (.if_icmp .gt 58, 3) := by decide +kernel
theorem dX6_numbers_138 : decode cX6_numbers 138 = .ok (.iload 4, 2) := by decide +kernel
theorem dX6_numbers_140 : decode cX6_numbers 140 = .ok (.iconst 2, 1) := by decide +kernel
theorem dX6_numbers_141 : decode cX6_numbers 141 = .ok (.if_icmp .ne 6, 3) := by decide +kernel
theorem dX6_numbers_147 : decode cX6_numbers 147 = .ok (.iload 4, 2) := by decide +kernel
theorem dX6_numbers_149 : decode cX6_numbers 149 = .ok (.ifCond .ne 8, 3) := by decide +kernel
theorem dX6_numbers_157 : decode cX6_numbers 157 = .ok (.iload 8, 2) := by decide +kernel
theorem dX6_numbers_159 : decode cX6_numbers 159 = .ok (.ireturn, 1) := by decide +kernel
theorem dX6_numbers_152 : decode cX6_numbers 152 = .ok (.iload 7, 2) := by decide +kernel
theorem dX6_numbers_154 : decode cX6_numbers 154 = .ok (.goto 5, 3) := by decide +kernel
theorem dX6_numbers_144 : decode cX6_numbers 144 = .ok (.iload 9, 2) := by decide +kernel
theorem dX6_numbers_146 : decode cX6_numbers 146 = .ok (.ireturn, 1) := by decide +kernel
theorem dX6_numbers_83 : decode cX6_numbers 83 = .ok (.aload_n 0, 1) := by decide +kernel
theorem dX6_numbers_84 : decode cX6_numbers 84 = .ok (.getfield 47, 3) := by decide +kernel
theorem dX6_numbers_87 : decode cX6_numbers 87 = .ok (.iload_n 2, 1) := by decide +kernel
theorem dX6_numbers_88 : decode cX6_numbers 88 = .ok (.iload 10, 2) := by decide +kernel
theorem dX6_numbers_90 : decode cX6_numbers 90 = .ok (.invokevirtual 220, 3) := by decide +kernel
theorem dX6_numbers_93 : decode cX6_numbers 93 = .ok (.aload_n 0, 1) := by decide +kernel
theorem dX6_numbers_94 : decode cX6_numbers 94 = .ok (.aload_n 0, 1) := by decide +kernel
theorem dX6_numbers_95 : decode cX6_numbers 95 = .ok (.getfield 47, 3) := by decide +kernel
theorem dX6_numbers_98 : decode cX6_numbers 98 = .ok (.aload_n 0, 1) := by decide +kernel
theorem dX6_numbers_99 : decode cX6_numbers 99 = .ok (.getfield 25, 3) := by decide +kernel
theorem dX6_numbers_102 : decode cX6_numbers 102 = .ok (.iload_n 1, 1) := by decide +kernel
theorem dX6_numbers_103 : decode cX6_numbers 103 = .ok (.aaload, 1) := by decide +kernel
theorem dX6_numbers_104 : decode cX6_numbers 104 = .ok (.iload_n 3, 1) := by decide +kernel
theorem dX6_numbers_105 : decode cX6_numbers 105 = .ok (.invokevirtual 224, 3) := by decide +kernel
theorem dX6_numbers_108 : decode cX6_numbers 108 = .ok (.ifCond .eq 24, 3) := by decide +kernel
theorem dX6_numbers_111 : decode cX6_numbers 111 = .ok (.iload 9, 2) := by decide +kernel
theorem dX6_numbers_113 : decode cX6_numbers 113 = .ok (.ifCond .ne 8, 3) := by decide +kernel
theorem dX6_numbers_121 : decode cX6_numbers 121 = .ok (.iload 7, 2) := by decide +kernel
theorem dX6_numbers_123 : decode cX6_numbers 123 = .ok (.istore 7, 2) := by decide +kernel
theorem dX6_numbers_125 : decode cX6_numbers 125 = .ok (.iload 10, 2) := by decide +kernel
theorem dX6_numbers_127 : decode cX6_numbers 127 = .ok (.istore 8, 2) := by decide +kernel
theorem dX6_numbers_129 : decode cX6_numbers 129 = .ok (.iinc 9 1, 3) := by decide +kernel
theorem dX6_numbers_132 : decode cX6_numbers 132 = .ok (.iinc 10 1, 3) := by decide +kernel
theorem dX6_numbers_135 : decode cX6_numbers 135 = .ok (.goto (-59), 3) := by decide +kernel
theorem dX6_numbers_116 : decode cX6_numbers 116 = .ok (.iload 10, 2) := by decide +kernel
theorem dX6_numbers_118 : decode cX6_numbers 118 = .ok (.goto 5, 3) := by decide +kernel
theorem dX6_numbers_59 : decode cX6_numbers 59 = .ok (.iload 6, 2) := by decide +kernel
theorem dX6_numbers_61 : decode cX6_numbers 61 = .ok (.ireturn, 1) := by decide +kernel
theorem dX6_numbers_35 : decode cX6_numbers 35 = .ok (.iconst 0, 1) := by decide +kernel
theorem dX6_numbers_51 : decode cX6_numbers 51 = .ok (.iconst (-1), 1) := by decide +kernel
set_option maxRecDepth 100000 in
theorem c_X6_numbers (l : Launch) (D : va_G) (cy : Nat → Nat) (n : Nat) (ad : Nat → Nat) (F : Nat → va_E) (sz : Nat) (pic : Int32) (sc ps : Scn) (sh : Nat → Shf) (rd : Rdr) (dr : Stg) (fa : Tal) (mi : Crs) (hn : 56 ≤ n) (hX : RX ad cy F pic sc ps sh rd dr fa mi) (hG : gX sc ps sh) (d kd off what : Int32) : Met l yX6_numbers (zw yX6_numbers cX6_numbers 11 (some .int)) (rmL 6) (zPc D cy n ad F sz [.ref (ad 0), .int d, .int kd, .int off, .int what]) (va_Qi (fun r F1 => r = zr (bIn kd 0 7 ∧ bIn off 0 9999 ∧ bIn what 0 2) (sFilmR sc sh d) (sNumbers sc (sh (iN d)) kd off what) ∧ ∃ fa1, RX ad cy F1 pic sc ps sh rd dr fa1 mi ∧ fr56 F F1) (zB D n ad) (zA n ad sz)) 0 0 (zA n ad sz) := by
  refine zmet (by decide +kernel) (Nat.le_of_ble_eq_true rfl) (fun p e s m args below meth c ls hC hsz hZ hA hr hlocks hnm hl => ?_)
  have hC : zC p m c cX6_numbers 11 s args RX6 D cy := hC
  have hx := hC.1.1
  have hb := hC.1.2.1
  have hl : lv_has ls 11 [(0, .ref (ad 0)), (1, .int d), (2, .int kd), (3, .int off), (4, .int what)] := hl
  refine lv_iload_n hx hb dX6_numbers_0 rfl (lv_at hl 2 rfl) ?_
  refine lv_iconst (v := 0) hx hb dX6_numbers_1 (by decide) ?_
  refine lv_bipush (v := 7) hx hb dX6_numbers_2 (by decide) ?_
  refine zgoi hZ hA (zrunS (As := [.int kd, .int 0, .int 7]) (rest := []) hC hZ (c_X6_isWithin l D cy n ad F s.heap.size kd 0 7) mX6_isWithin sX6_isWithin kX6_115 (zRj_of rfl) rfl hl.1 rfl (Nat.le_of_ble_eq_true rfl) dX6_numbers_4 ⟨Nat.le_refl _, Nat.le_refl _⟩) (fun r_2 F_1 hp_3 H locs hZ => ?_)
  obtain ⟨hp_3, rfl⟩ := hp_3
  by_cases b_4 : bIn kd 0 7
  · rw [if_pos b_4] at hp_3
    subst hp_3
    refine lv_if_eq (tgt := 35) hx hb dX6_numbers_7 (by decide) (fun h => absurd h (by decide)) (fun _ => ?_)
    refine lv_iload_n hx hb dX6_numbers_10 rfl (lv_at hl 3 rfl) ?_
    refine lv_iconst (v := 0) hx hb dX6_numbers_11 (by decide) ?_
    refine lv_sipush (v := 9999) hx hb dX6_numbers_12 (by decide) ?_
    refine zgoi hZ hA (zrunS (As := [.int off, .int 0, .int 9999]) (rest := []) hC hZ (c_X6_isWithin l D cy n ad F H.size off 0 9999) mX6_isWithin sX6_isWithin kX6_115 (zRj_of rfl) rfl hl.1 rfl (Nat.le_of_ble_eq_true rfl) dX6_numbers_15 ⟨Nat.le_refl _, Nat.le_refl _⟩) (fun r_6 F_5 hp_7 H locs hZ => ?_)
    obtain ⟨hp_7, rfl⟩ := hp_7
    by_cases b_8 : bIn off 0 9999
    · rw [if_pos b_8] at hp_7
      subst hp_7
      refine lv_if_eq (tgt := 35) hx hb dX6_numbers_18 (by decide) (fun h => absurd h (by decide)) (fun _ => ?_)
      refine lv_iload hx hb dX6_numbers_21 (lv_at hl 4 rfl) ?_
      refine lv_iconst (v := 0) hx hb dX6_numbers_23 (by decide) ?_
      refine lv_iconst (v := 2) hx hb dX6_numbers_24 (by decide) ?_
      refine zgoi hZ hA (zrunS (As := [.int what, .int 0, .int 2]) (rest := []) hC hZ (c_X6_isWithin l D cy n ad F H.size what 0 2) mX6_isWithin sX6_isWithin kX6_115 (zRj_of rfl) rfl hl.1 rfl (Nat.le_of_ble_eq_true rfl) dX6_numbers_25 ⟨Nat.le_refl _, Nat.le_refl _⟩) (fun r_10 F_9 hp_11 H locs hZ => ?_)
      obtain ⟨hp_11, rfl⟩ := hp_11
      by_cases b_12 : bIn what 0 2
      · rw [if_pos b_12] at hp_11
        subst hp_11
        refine lv_if_eq (tgt := 35) hx hb dX6_numbers_28 (by decide) (fun h => absurd h (by decide)) (fun _ => ?_)
        refine lv_iconst (v := 1) hx hb dX6_numbers_31 (by decide) ?_
        refine lv_goto (tgt := 36) hx hb dX6_numbers_32 (by decide) ?_
        refine lv_istore (lv' := [(5, .int 1), (0, .ref (ad 0)), (1, .int d), (2, .int kd), (3, .int off), (4, .int what)]) hx hb dX6_numbers_36 hl (by decide) rfl (fun ls hl => ?_)
        refine lv_iload hx hb dX6_numbers_38 (lv_at hl 0 rfl) ?_
        refine lv_if_eq (tgt := 51) hx hb dX6_numbers_40 (by decide) (fun h => absurd h (by decide)) (fun _ => ?_)
        refine lv_aload_n hx hb dX6_numbers_43 rfl (lv_at hl 1 rfl) ?_
        refine lv_iload_n hx hb dX6_numbers_44 rfl (lv_at hl 2 rfl) ?_
        refine zgoi hZ hA (zrunV (As := [.int d]) (rest := []) (k := 0) hC hZ (c_X6_filmRefusal l D cy n ad F H.size pic sc ps sh rd dr fa mi hn hX d) mX6_filmRefusal vX6_filmRefusal kX6_217 (zRj_of rfl) (zlt hn rfl) hX.1 rfl rfl hl.1 rfl (Nat.le_of_ble_eq_true rfl) dX6_numbers_45 ⟨Nat.le_refl _, Nat.le_refl _⟩) (fun r_14 F_13 hp_15 H locs hZ => ?_)
        obtain ⟨rfl, rfl⟩ := hp_15
        refine lv_goto (tgt := 52) hx hb dX6_numbers_48 (by decide) ?_
        refine lv_istore (lv' := [(6, .int (sFilmR sc sh d)), (5, .int 1), (0, .ref (ad 0)), (1, .int d), (2, .int kd), (3, .int off), (4, .int what)]) hx hb dX6_numbers_52 hl (by decide) rfl (fun ls hl => ?_)
        refine lv_iload hx hb dX6_numbers_54 (lv_at hl 0 rfl) ?_
        refine lv_if_eq (tgt := 62) hx hb dX6_numbers_56 (by decide) (fun c_56 => ?_) (fun c_56 => ?_)
        · refine lv_bipush (v := (-4)) hx hb dX6_numbers_62 (by decide) ?_
          refine lv_istore (lv' := [(7, .int (-4)), (6, .int (sFilmR sc sh d)), (5, .int 1), (0, .ref (ad 0)), (1, .int d), (2, .int kd), (3, .int off), (4, .int what)]) hx hb dX6_numbers_64 hl (by decide) rfl (fun ls hl => ?_)
          refine lv_bipush (v := (-4)) hx hb dX6_numbers_66 (by decide) ?_
          refine lv_istore (lv' := [(8, .int (-4)), (7, .int (-4)), (6, .int (sFilmR sc sh d)), (5, .int 1), (0, .ref (ad 0)), (1, .int d), (2, .int kd), (3, .int off), (4, .int what)]) hx hb dX6_numbers_68 hl (by decide) rfl (fun ls hl => ?_)
          refine lv_iconst (v := 0) hx hb dX6_numbers_70 (by decide) ?_
          refine lv_istore (lv' := [(9, .int 0), (8, .int (-4)), (7, .int (-4)), (6, .int (sFilmR sc sh d)), (5, .int 1), (0, .ref (ad 0)), (1, .int d), (2, .int kd), (3, .int off), (4, .int what)]) hx hb dX6_numbers_71 hl (by decide) rfl (fun ls hl => ?_)
          refine lv_iconst (v := 0) hx hb dX6_numbers_73 (by decide) ?_
          refine lv_istore (lv' := [(10, .int 0), (9, .int 0), (8, .int (-4)), (7, .int (-4)), (6, .int (sFilmR sc sh d)), (5, .int 1), (0, .ref (ad 0)), (1, .int d), (2, .int kd), (3, .int off), (4, .int what)]) hx hb dX6_numbers_74 hl (by decide) rfl (fun ls hl => ?_)
          have hsf := sFilmR_0 c_56
          refine zlp (X := Nat × (Int32 × Int32 × Int32) × Tal) 76 (fun _ => []) (fun x ls F1 => lv_has ls 11 [(10, .int (nI x.1)), (9, .int x.2.1.2.2), (8, .int x.2.1.2.1), (7, .int x.2.1.1), (6, .int (sFilmR sc sh d)), (5, .int 1), (0, .ref (ad 0)), (1, .int d), (2, .int kd), (3, .int off), (4, .int what)] ∧ RX ad cy F1 pic sc ps sh rd dr x.2.2 mi ∧ fr56 F F1 ∧ x.1 ≤ 41 ∧ x.2.1 = zfold (sNumF sc (sh (iN d)) kd off) x.1 (-4, -4, 0)) (fun x => 41 - x.1) ?_ (0, (-4, -4, 0), fa) hZ ⟨hl, hX, fr56_rf, (Nat.zero_le _), rfl⟩
          intro x ih ls F3 H locs hZ hφ
          obtain ⟨i, pp, fv⟩ := x
          obtain ⟨hl, hXl, hfl, hi, hp⟩ := hφ
          have hl : lv_has ls 11 [(10, .int (nI i)), (9, .int pp.2.2), (8, .int pp.2.1), (7, .int pp.1), (6, .int (sFilmR sc sh d)), (5, .int 1), (0, .ref (ad 0)), (1, .int d), (2, .int kd), (3, .int off), (4, .int what)] := hl
          have hX76 : RX ad cy F3 pic sc ps sh rd dr fv mi := hXl
          have hi : i ≤ 41 := hi
          have hp : pp = zfold (sNumF sc (sh (iN d)) kd off) i (-4, -4, 0) := hp
          refine lv_iload hx hb dX6_numbers_76 (lv_at hl 0 rfl) ?_
          refine lv_bipush (v := 40) hx hb dX6_numbers_78 (by decide) ?_
          refine lv_icmp_gt (tgt := 138) hx hb dX6_numbers_80 (by decide) (fun c_80 => ?_) (fun c_80 => ?_)
          · refine lv_iload hx hb dX6_numbers_138 (lv_at hl 10 rfl) ?_
            refine lv_iconst (v := 2) hx hb dX6_numbers_140 (by decide) ?_
            refine lv_icmp_ne (tgt := 147) hx hb dX6_numbers_141 (by decide) (fun c_141 => ?_) (fun c_141 => ?_)
            · refine lv_iload hx hb dX6_numbers_147 (lv_at hl 10 rfl) ?_
              refine lv_if_ne (tgt := 157) hx hb dX6_numbers_149 (by decide) (fun c_149 => ?_) (fun c_149 => ?_)
              · refine lv_iload hx hb dX6_numbers_157 (lv_at hl 2 rfl) ?_
                have hiq : i = 41 := by rcases Nat.lt_or_ge i 41 with h | h; exact absurd c_80 (nI_nlt (a := 40) (b := i) (by omega) (by omega)); omega
                subst hiq
                have hv_17 : pp.2.1 = sNumbers sc (sh (iN d)) kd off what := by unfold sNumbers; rw [← hp]; simp [c_141, c_149]
                have hq_16 : pp.2.1 = zr (bIn kd 0 7 ∧ bIn off 0 9999 ∧ bIn what 0 2) ((sFilmR sc sh d)) (sNumbers sc (sh (iN d)) kd off what) := hv_17.trans (zr_ok ⟨b_4, b_8, b_12⟩ c_56).symm
                exact zireti hC hZ hr hlocks ⟨hq_16, fv, hX76, hfl⟩ dX6_numbers_159
              · refine lv_iload hx hb dX6_numbers_152 (lv_at hl 3 rfl) ?_
                refine lv_goto (tgt := 159) hx hb dX6_numbers_154 (by decide) ?_
                have hiq : i = 41 := by rcases Nat.lt_or_ge i 41 with h | h; exact absurd c_80 (nI_nlt (a := 40) (b := i) (by omega) (by omega)); omega
                subst hiq
                have hv_19 : pp.1 = sNumbers sc (sh (iN d)) kd off what := by unfold sNumbers; rw [← hp]; simp [c_141, c_149]
                have hq_18 : pp.1 = zr (bIn kd 0 7 ∧ bIn off 0 9999 ∧ bIn what 0 2) ((sFilmR sc sh d)) (sNumbers sc (sh (iN d)) kd off what) := hv_19.trans (zr_ok ⟨b_4, b_8, b_12⟩ c_56).symm
                exact zireti hC hZ hr hlocks ⟨hq_18, fv, hX76, hfl⟩ dX6_numbers_159
            · refine lv_iload hx hb dX6_numbers_144 (lv_at hl 1 rfl) ?_
              have hiq : i = 41 := by rcases Nat.lt_or_ge i 41 with h | h; exact absurd c_80 (nI_nlt (a := 40) (b := i) (by omega) (by omega)); omega
              subst hiq
              have hv_21 : pp.2.2 = sNumbers sc (sh (iN d)) kd off what := by unfold sNumbers; rw [← hp]; simp [c_141]
              have hq_20 : pp.2.2 = zr (bIn kd 0 7 ∧ bIn off 0 9999 ∧ bIn what 0 2) ((sFilmR sc sh d)) (sNumbers sc (sh (iN d)) kd off what) := hv_21.trans (zr_ok ⟨b_4, b_8, b_12⟩ c_56).symm
              exact zireti hC hZ hr hlocks ⟨hq_20, fv, hX76, hfl⟩ dX6_numbers_146
          · refine lv_aload_n hx hb dX6_numbers_83 rfl (lv_at hl 6 rfl) ?_
            refine zget hC hZ fX6_47 (zlt hn rfl) hX76.1 rfl dX6_numbers_84 ?_
            refine lv_iload_n hx hb dX6_numbers_87 rfl (lv_at hl 8 rfl) ?_
            refine lv_iload hx hb dX6_numbers_88 (lv_at hl 0 rfl) ?_
            refine zgov hZ hA (zrunV (As := [.int kd, .int (nI i)]) (rest := []) (k := 53) hC hZ (c_X5_become l D cy n ad F3 H.size 53 fv (zlt hn rfl) hX76.2.2.2.2.2.2.2.1 kd (nI i)) mX5_become vX5_become kX6_220 (zRj_of rfl) (zlt hn rfl) hX76.2.2.2.2.2.2.2.1 rfl rfl hl.1 rfl (Nat.le_of_ble_eq_true rfl) dX6_numbers_90 ⟨Nat.le_refl _, Nat.le_refl _⟩) (fun F_22 hp_24 H locs hZ => ?_)
            have hX_25 := rx_fancy hX76 hp_24
            have hf_26 := fr56_up hfl hp_24 (by decide)
            have hX_25 : RX ad cy F_22 pic sc ps sh rd dr (kd, nI i) mi := hX_25
            refine lv_aload_n hx hb dX6_numbers_93 rfl (lv_at hl 6 rfl) ?_
            refine lv_aload_n hx hb dX6_numbers_94 rfl (lv_at hl 6 rfl) ?_
            refine zget hC hZ fX6_47 (zlt hn rfl) hX_25.1 rfl dX6_numbers_95 ?_
            refine lv_aload_n hx hb dX6_numbers_98 rfl (lv_at hl 6 rfl) ?_
            refine zget hC hZ fX6_25 (zlt hn rfl) hX_25.1 rfl dX6_numbers_99 ?_
            refine lv_iload_n hx hb dX6_numbers_102 rfl (lv_at hl 7 rfl) ?_
            refine zaald hC hZ (zlt hn rfl) hX_25.2.2.2.1 (C := RX4) rfl hsf.1.1 hsf.1.2 (by decide) rfl dX6_numbers_103 ?_
            refine lv_iload_n hx hb dX6_numbers_104 rfl (lv_at hl 9 rfl) ?_
            refine zgoi hZ hA (zrunV (As := [.ref (ad 53), .ref (ad (26 + 3 * (iN d))), .int off]) (rest := []) (k := 0) hC hZ (c_X6_fits l D cy n ad F_22 H.size pic sc ps sh rd dr (kd, nI i) mi hn hX_25 hG 53 (kd, nI i) (zlt hn rfl) hX_25.2.2.2.2.2.2.2.1 (gTm (by rcases Nat.lt_or_ge i 41 with h | h; omega; exact absurd (nI_lt (a := 40) (b := i) (by omega) (by omega)) c_80) b_4) (26 + 3 * (iN d)) (sh (iN d)) (by have := hsf.1.2; omega) (hX_25.2.2.2.2.1 (iN d) hsf.1.2) off) mX6_fits vX6_fits kX6_224 (zRj_of rfl) (zlt hn rfl) hX_25.1 rfl rfl hl.1 rfl (Nat.le_of_ble_eq_true rfl) dX6_numbers_105 ⟨Nat.le_refl _, Nat.le_refl _⟩) (fun r_28 F_27 hp_29 H locs hZ => ?_)
            obtain ⟨hp_29, rfl⟩ := hp_29
            by_cases b_30 : bFits (kd, nI i) (sh (iN d)) sc off
            · rw [if_pos b_30] at hp_29
              subst hp_29
              refine lv_if_eq (tgt := 132) hx hb dX6_numbers_108 (by decide) (fun h => absurd h (by decide)) (fun _ => ?_)
              refine lv_iload hx hb dX6_numbers_111 (lv_at hl 1 rfl) ?_
              refine lv_if_ne (tgt := 121) hx hb dX6_numbers_113 (by decide) (fun c_113 => ?_) (fun c_113 => ?_)
              · refine lv_iload hx hb dX6_numbers_121 (lv_at hl 3 rfl) ?_
                refine lv_istore (lv' := [(7, .int pp.1), (10, .int (nI i)), (9, .int pp.2.2), (8, .int pp.2.1), (6, .int (sFilmR sc sh d)), (5, .int 1), (0, .ref (ad 0)), (1, .int d), (2, .int kd), (3, .int off), (4, .int what)]) hx hb dX6_numbers_123 hl (by decide) rfl (fun ls hl => ?_)
                refine lv_iload hx hb dX6_numbers_125 (lv_at hl 1 rfl) ?_
                refine lv_istore (lv' := [(8, .int (nI i)), (7, .int pp.1), (10, .int (nI i)), (9, .int pp.2.2), (6, .int (sFilmR sc sh d)), (5, .int 1), (0, .ref (ad 0)), (1, .int d), (2, .int kd), (3, .int off), (4, .int what)]) hx hb dX6_numbers_127 hl (by decide) rfl (fun ls hl => ?_)
                refine lv_iinc (v := (pp.2.2 + 1)) (lv' := [(9, .int (pp.2.2 + 1)), (8, .int (nI i)), (7, .int pp.1), (10, .int (nI i)), (6, .int (sFilmR sc sh d)), (5, .int 1), (0, .ref (ad 0)), (1, .int d), (2, .int kd), (3, .int off), (4, .int what)]) hx hb dX6_numbers_129 hl (k := 3) rfl rfl (by decide) rfl (fun ls hl => ?_)
                refine lv_iinc (v := nI (i + 1)) (lv' := [(10, .int (nI (i + 1))), (9, .int (pp.2.2 + 1)), (8, .int (nI i)), (7, .int pp.1), (6, .int (sFilmR sc sh d)), (5, .int 1), (0, .ref (ad 0)), (1, .int d), (2, .int kd), (3, .int off), (4, .int what)]) hx hb dX6_numbers_132 hl (k := 3) rfl (nI_1 i) (by decide) rfl (fun ls hl => ?_)
                refine lv_goto (tgt := 76) hx hb dX6_numbers_135 (by decide) ?_
                have hlt : i < 41 := by rcases Nat.lt_or_ge i 41 with h | h; exact h; exact absurd (nI_lt (a := 40) (b := i) (by omega) (by omega)) c_80
                exact ih ((i + 1), (pp.1, nI i, (pp.2.2 + 1)), (kd, nI i)) ls _ H locs (by show 41 - (i + 1) < 41 - i; omega) hZ ⟨hl, hX_25, hf_26, (by omega), (by show (pp.1, nI i, (pp.2.2 + 1)) = (sNumF sc (sh (iN d)) kd off) i (zfold (sNumF sc (sh (iN d)) kd off) i (-4, -4, 0)); rw [← hp]; refine Eq.symm ((if_pos b_30).trans ?_); rw [if_neg c_113])⟩
              · refine lv_iload hx hb dX6_numbers_116 (lv_at hl 0 rfl) ?_
                refine lv_goto (tgt := 123) hx hb dX6_numbers_118 (by decide) ?_
                refine lv_istore (lv' := [(7, .int (nI i)), (10, .int (nI i)), (9, .int pp.2.2), (8, .int pp.2.1), (6, .int (sFilmR sc sh d)), (5, .int 1), (0, .ref (ad 0)), (1, .int d), (2, .int kd), (3, .int off), (4, .int what)]) hx hb dX6_numbers_123 hl (by decide) rfl (fun ls hl => ?_)
                refine lv_iload hx hb dX6_numbers_125 (lv_at hl 1 rfl) ?_
                refine lv_istore (lv' := [(8, .int (nI i)), (7, .int (nI i)), (10, .int (nI i)), (9, .int pp.2.2), (6, .int (sFilmR sc sh d)), (5, .int 1), (0, .ref (ad 0)), (1, .int d), (2, .int kd), (3, .int off), (4, .int what)]) hx hb dX6_numbers_127 hl (by decide) rfl (fun ls hl => ?_)
                refine lv_iinc (v := (pp.2.2 + 1)) (lv' := [(9, .int (pp.2.2 + 1)), (8, .int (nI i)), (7, .int (nI i)), (10, .int (nI i)), (6, .int (sFilmR sc sh d)), (5, .int 1), (0, .ref (ad 0)), (1, .int d), (2, .int kd), (3, .int off), (4, .int what)]) hx hb dX6_numbers_129 hl (k := 3) rfl rfl (by decide) rfl (fun ls hl => ?_)
                refine lv_iinc (v := nI (i + 1)) (lv' := [(10, .int (nI (i + 1))), (9, .int (pp.2.2 + 1)), (8, .int (nI i)), (7, .int (nI i)), (6, .int (sFilmR sc sh d)), (5, .int 1), (0, .ref (ad 0)), (1, .int d), (2, .int kd), (3, .int off), (4, .int what)]) hx hb dX6_numbers_132 hl (k := 3) rfl (nI_1 i) (by decide) rfl (fun ls hl => ?_)
                refine lv_goto (tgt := 76) hx hb dX6_numbers_135 (by decide) ?_
                have hlt : i < 41 := by rcases Nat.lt_or_ge i 41 with h | h; exact h; exact absurd (nI_lt (a := 40) (b := i) (by omega) (by omega)) c_80
                exact ih ((i + 1), (nI i, nI i, (pp.2.2 + 1)), (kd, nI i)) ls _ H locs (by show 41 - (i + 1) < 41 - i; omega) hZ ⟨hl, hX_25, hf_26, (by omega), (by show (nI i, nI i, (pp.2.2 + 1)) = (sNumF sc (sh (iN d)) kd off) i (zfold (sNumF sc (sh (iN d)) kd off) i (-4, -4, 0)); rw [← hp]; refine Eq.symm ((if_pos b_30).trans ?_); rw [if_pos c_113])⟩
            · rw [if_neg b_30] at hp_29
              subst hp_29
              refine lv_if_eq (tgt := 132) hx hb dX6_numbers_108 (by decide) (fun _ => ?_) (fun h => absurd (by decide) h)
              refine lv_iinc (v := nI (i + 1)) (lv' := [(10, .int (nI (i + 1))), (9, .int pp.2.2), (8, .int pp.2.1), (7, .int pp.1), (6, .int (sFilmR sc sh d)), (5, .int 1), (0, .ref (ad 0)), (1, .int d), (2, .int kd), (3, .int off), (4, .int what)]) hx hb dX6_numbers_132 hl (k := 0) rfl (nI_1 i) (by decide) rfl (fun ls hl => ?_)
              refine lv_goto (tgt := 76) hx hb dX6_numbers_135 (by decide) ?_
              have hlt : i < 41 := by rcases Nat.lt_or_ge i 41 with h | h; exact h; exact absurd (nI_lt (a := 40) (b := i) (by omega) (by omega)) c_80
              exact ih ((i + 1), pp, (kd, nI i)) ls _ H locs (by show 41 - (i + 1) < 41 - i; omega) hZ ⟨hl, hX_25, hf_26, (by omega), (by show pp = (sNumF sc (sh (iN d)) kd off) i (zfold (sNumF sc (sh (iN d)) kd off) i (-4, -4, 0)); rw [← hp]; exact (if_neg b_30).symm)⟩
        · refine lv_iload hx hb dX6_numbers_59 (lv_at hl 0 rfl) ?_
          have hq_31 : (sFilmR sc sh d) = zr (bIn kd 0 7 ∧ bIn off 0 9999 ∧ bIn what 0 2) ((sFilmR sc sh d)) (sNumbers sc (sh (iN d)) kd off what) := (zr_rf ⟨b_4, b_8, b_12⟩ c_56).symm
          exact zireti hC hZ hr hlocks ⟨hq_31, fa, hX, fr56_rf⟩ dX6_numbers_61
      · rw [if_neg b_12] at hp_11
        subst hp_11
        refine lv_if_eq (tgt := 35) hx hb dX6_numbers_28 (by decide) (fun _ => ?_) (fun h => absurd (by decide) h)
        refine lv_iconst (v := 0) hx hb dX6_numbers_35 (by decide) ?_
        refine lv_istore (lv' := [(5, .int 0), (0, .ref (ad 0)), (1, .int d), (2, .int kd), (3, .int off), (4, .int what)]) hx hb dX6_numbers_36 hl (by decide) rfl (fun ls hl => ?_)
        refine lv_iload hx hb dX6_numbers_38 (lv_at hl 0 rfl) ?_
        refine lv_if_eq (tgt := 51) hx hb dX6_numbers_40 (by decide) (fun _ => ?_) (fun h => absurd (by decide) h)
        refine lv_iconst (v := (-1)) hx hb dX6_numbers_51 (by decide) ?_
        refine lv_istore (lv' := [(6, .int (-1)), (5, .int 0), (0, .ref (ad 0)), (1, .int d), (2, .int kd), (3, .int off), (4, .int what)]) hx hb dX6_numbers_52 hl (by decide) rfl (fun ls hl => ?_)
        refine lv_iload hx hb dX6_numbers_54 (lv_at hl 0 rfl) ?_
        refine lv_if_eq (tgt := 62) hx hb dX6_numbers_56 (by decide) (fun h => absurd h (by decide)) (fun _ => ?_)
        refine lv_iload hx hb dX6_numbers_59 (lv_at hl 0 rfl) ?_
        have hq_32 : (-1 : Int32) = zr (bIn kd 0 7 ∧ bIn off 0 9999 ∧ bIn what 0 2) ((sFilmR sc sh d)) (sNumbers sc (sh (iN d)) kd off what) := (zr_no (fun h => b_12 h.2.2)).symm
        exact zireti hC hZ hr hlocks ⟨hq_32, fa, hX, fr56_rf⟩ dX6_numbers_61
    · rw [if_neg b_8] at hp_7
      subst hp_7
      refine lv_if_eq (tgt := 35) hx hb dX6_numbers_18 (by decide) (fun _ => ?_) (fun h => absurd (by decide) h)
      refine lv_iconst (v := 0) hx hb dX6_numbers_35 (by decide) ?_
      refine lv_istore (lv' := [(5, .int 0), (0, .ref (ad 0)), (1, .int d), (2, .int kd), (3, .int off), (4, .int what)]) hx hb dX6_numbers_36 hl (by decide) rfl (fun ls hl => ?_)
      refine lv_iload hx hb dX6_numbers_38 (lv_at hl 0 rfl) ?_
      refine lv_if_eq (tgt := 51) hx hb dX6_numbers_40 (by decide) (fun _ => ?_) (fun h => absurd (by decide) h)
      refine lv_iconst (v := (-1)) hx hb dX6_numbers_51 (by decide) ?_
      refine lv_istore (lv' := [(6, .int (-1)), (5, .int 0), (0, .ref (ad 0)), (1, .int d), (2, .int kd), (3, .int off), (4, .int what)]) hx hb dX6_numbers_52 hl (by decide) rfl (fun ls hl => ?_)
      refine lv_iload hx hb dX6_numbers_54 (lv_at hl 0 rfl) ?_
      refine lv_if_eq (tgt := 62) hx hb dX6_numbers_56 (by decide) (fun h => absurd h (by decide)) (fun _ => ?_)
      refine lv_iload hx hb dX6_numbers_59 (lv_at hl 0 rfl) ?_
      have hq_33 : (-1 : Int32) = zr (bIn kd 0 7 ∧ bIn off 0 9999 ∧ bIn what 0 2) ((sFilmR sc sh d)) (sNumbers sc (sh (iN d)) kd off what) := (zr_no (fun h => b_8 h.2.1)).symm
      exact zireti hC hZ hr hlocks ⟨hq_33, fa, hX, fr56_rf⟩ dX6_numbers_61
  · rw [if_neg b_4] at hp_3
    subst hp_3
    refine lv_if_eq (tgt := 35) hx hb dX6_numbers_7 (by decide) (fun _ => ?_) (fun h => absurd (by decide) h)
    refine lv_iconst (v := 0) hx hb dX6_numbers_35 (by decide) ?_
    refine lv_istore (lv' := [(5, .int 0), (0, .ref (ad 0)), (1, .int d), (2, .int kd), (3, .int off), (4, .int what)]) hx hb dX6_numbers_36 hl (by decide) rfl (fun ls hl => ?_)
    refine lv_iload hx hb dX6_numbers_38 (lv_at hl 0 rfl) ?_
    refine lv_if_eq (tgt := 51) hx hb dX6_numbers_40 (by decide) (fun _ => ?_) (fun h => absurd (by decide) h)
    refine lv_iconst (v := (-1)) hx hb dX6_numbers_51 (by decide) ?_
    refine lv_istore (lv' := [(6, .int (-1)), (5, .int 0), (0, .ref (ad 0)), (1, .int d), (2, .int kd), (3, .int off), (4, .int what)]) hx hb dX6_numbers_52 hl (by decide) rfl (fun ls hl => ?_)
    refine lv_iload hx hb dX6_numbers_54 (lv_at hl 0 rfl) ?_
    refine lv_if_eq (tgt := 62) hx hb dX6_numbers_56 (by decide) (fun h => absurd h (by decide)) (fun _ => ?_)
    refine lv_iload hx hb dX6_numbers_59 (lv_at hl 0 rfl) ?_
    have hq_34 : (-1 : Int32) = zr (bIn kd 0 7 ∧ bIn off 0 9999 ∧ bIn what 0 2) ((sFilmR sc sh d)) (sNumbers sc (sh (iN d)) kd off what) := (zr_no (fun h => b_4 h.1)).symm
    exact zireti hC hZ hr hlocks ⟨hq_34, fa, hX, fr56_rf⟩ dX6_numbers_61
end
section
theorem zi10 (a : Nat) : nI (10 * a) + Int32.ofInt 10 = nI (10 * (a + 1)) := by
  have h : Int32.ofInt 10 = nI 10 := by decide
  rw [h, nI_add]; rfl
theorem zgt100 {a : Nat} (ha : a ≤ 1000) (h : ¬ 100 < nI (10 * a)) : a ≤ 10 := by
  rcases Nat.lt_or_ge 10 a with q | q
  · exact absurd (nI_lt (a := 100) (b := 10 * a) (by omega) (by omega)) h
  · exact q
theorem zgt100' {a : Nat} (ha : a ≤ 11) (h : 100 < nI (10 * a)) : a = 11 := by
  rcases Nat.lt_or_ge a 11 with q | q
  · exact absurd h (nI_nlt (a := 100) (b := 10 * a) (by omega) (by omega))
  · omega
theorem sMostB_e {s : Stg} {a b : Nat} {v : Int32 × Int32} (hb : b < 11) (hv : v = s.2.2) : (nI (10 * a), nI (10 * b), v.1, v.2) = sMostB s (11 * a + b) := by
  unfold sMostB
  rw [show (11 * a + b) / 11 = a by omega, show (11 * a + b) % 11 = b by omega, ← hv]
theorem sMostF_p {t : Tal} {s : Stg} {a b : Nat} {bb : Stg} {p : Int32 × Int32} (hb : b < 11) (h : bb = sMostB s (11 * a + b)) (hp : p.1 < sArchAt t bb 0) : (sArchAt t bb 0, nI (10 * a) * 1000 + nI (10 * b)) = sMostF t s (11 * a + b) p := by
  unfold sMostF
  rw [← h, if_pos hp, show (11 * a + b) / 11 = a by omega, show (11 * a + b) % 11 = b by omega]
theorem sMostF_n {t : Tal} {s : Stg} {k : Nat} {bb : Stg} {p : Int32 × Int32} (h : bb = sMostB s k) (hp : ¬ p.1 < sArchAt t bb 0) : p = sMostF t s k p := by
  unfold sMostF
  rw [← h, if_neg hp]
theorem sLayF_p {t : Tal} {s : Stg} {k : Nat} {bb : Stg} {p : Int32 × Int32} (h : bb = sLayB s k) (hp : p.1 < sArchAt t bb 0) : (sArchAt t bb 0, nI k) = sLayF t s k p := by
  unfold sLayF
  rw [← h, if_pos hp]
theorem sLayF_n {t : Tal} {s : Stg} {k : Nat} {bb : Stg} {p : Int32 × Int32} (h : bb = sLayB s k) (hp : ¬ p.1 < sArchAt t bb 0) : p = sLayF t s k p := by
  unfold sLayF
  rw [← h, if_neg hp]

theorem mX6_most : zMd yX6_most cX6_most 8 (some .int) 1 := ⟨by decide +kernel, gt_of 506 (by decide +kernel) rfl, gt_of 44 (by decide +kernel) rfl, by decide⟩
theorem dX6_most_0 : decode cX6_most 0 = .ok (.aload_n 0, 1) := by decide +kernel
theorem dX6_most_1 : decode cX6_most 1 = .ok (.iload_n 1, 1) := by decide +kernel
theorem dX6_most_2 : decode cX6_most 2 = .ok (.invokevirtual 160, 3) := by decide +kernel
theorem dX6_most_5 : decode cX6_most 5 = .ok (.istore_n 2, 1) := by decide +kernel
theorem dX6_most_6 : decode cX6_most 6 = .ok (.iload_n 2, 1) := by decide +kernel
theorem dX6_most_7 : decode cX6_most 7 = .ok (.ifCond .eq 5, 3) := by decide +kernel
theorem dX6_most_12 : decode cX6_most 12 = .ok (.bipush (-4), 2) := by decide +kernel
theorem dX6_most_14 : decode cX6_most 14 = .ok (.istore_n 3, 1) := by decide +kernel
theorem dX6_most_15 : decode cX6_most 15 = .ok (.bipush (-4), 2) := by decide +kernel
theorem dX6_most_17 : decode cX6_most 17 = .ok (.istore 4, 2) := by decide +kernel
theorem dX6_most_19 : decode cX6_most 19 = .ok (.aload_n 0, 1) := by decide +kernel
theorem dX6_most_20 : decode cX6_most 20 = .ok (.getfield 40, 3) := by decide +kernel
theorem fX6_40 : zFld RX6 40 6 5 := ⟨RX6, TX6, 9, rfl, inX6, by decide, rfl, Or.inl (gt_of 231 (by decide +kernel) rfl)⟩
theorem dX6_most_23 : decode cX6_most 23 = .ok (.aload_n 0, 1) := by decide +kernel
theorem dX6_most_24 : decode cX6_most 24 = .ok (.getfield 10, 3) := by decide +kernel
theorem dX6_most_27 : decode cX6_most 27 = .ok (.getfield 97, 3) := by decide +kernel
theorem dX6_most_30 : decode cX6_most 30 = .ok (.invokevirtual 242, 3) := by decide +kernel
theorem kX6_242 : zLk RX6 242 yX3_take := Or.inl (gt_of 507 (by decide +kernel) rfl)
theorem dX6_most_33 : decode cX6_most 33 = .ok (.iconst 0, 1) := by decide +kernel
theorem dX6_most_34 : decode cX6_most 34 = .ok (.istore 5, 2) := by decide +kernel
theorem dX6_most_36 : decode cX6_most 36 = .ok (.iload 5, 2) := by decide +kernel
theorem dX6_most_38 : decode cX6_most 38 = .ok (.bipush 100, 2) := by decide +kernel
theorem dX6_most_40 : decode cX6_most 40 = .ok (.if_icmp .gt 81, 3) := by decide +kernel
theorem dX6_most_121 : decode cX6_most 121 = .ok (.iload 4, 2) := by decide +kernel
theorem dX6_most_123 : decode cX6_most 123 = .ok (.ireturn, 1) := by decide +kernel
theorem dX6_most_43 : decode cX6_most 43 = .ok (.iconst 0, 1) := by decide +kernel
theorem dX6_most_44 : decode cX6_most 44 = .ok (.istore 6, 2) := by decide +kernel
theorem dX6_most_46 : decode cX6_most 46 = .ok (.iload 6, 2) := by decide +kernel
theorem dX6_most_48 : decode cX6_most 48 = .ok (.bipush 100, 2) := by decide +kernel
theorem dX6_most_50 : decode cX6_most 50 = .ok (.if_icmp .gt 65, 3) := by decide +kernel
theorem dX6_most_115 : decode cX6_most 115 = .ok (.iinc 5 10, 3) := by decide +kernel
theorem dX6_most_118 : decode cX6_most 118 = .ok (.goto (-82), 3) := by decide +kernel
theorem dX6_most_53 : decode cX6_most 53 = .ok (.aload_n 0, 1) := by decide +kernel
theorem dX6_most_54 : decode cX6_most 54 = .ok (.getfield 40, 3) := by decide +kernel
theorem dX6_most_57 : decode cX6_most 57 = .ok (.iload 5, 2) := by decide +kernel
theorem dX6_most_59 : decode cX6_most 59 = .ok (.putfield 100, 3) := by decide +kernel
theorem dX6_most_62 : decode cX6_most 62 = .ok (.aload_n 0, 1) := by decide +kernel
theorem dX6_most_63 : decode cX6_most 63 = .ok (.getfield 40, 3) := by decide +kernel
theorem dX6_most_66 : decode cX6_most 66 = .ok (.iload 6, 2) := by decide +kernel
theorem dX6_most_68 : decode cX6_most 68 = .ok (.putfield 103, 3) := by decide +kernel
theorem dX6_most_71 : decode cX6_most 71 = .ok (.aload_n 0, 1) := by decide +kernel
theorem dX6_most_72 : decode cX6_most 72 = .ok (.getfield 25, 3) := by decide +kernel
theorem dX6_most_75 : decode cX6_most 75 = .ok (.iload_n 1, 1) := by decide +kernel
theorem dX6_most_76 : decode cX6_most 76 = .ok (.aaload, 1) := by decide +kernel
theorem dX6_most_77 : decode cX6_most 77 = .ok (.getfield 163, 3) := by decide +kernel
theorem dX6_most_80 : decode cX6_most 80 = .ok (.aload_n 0, 1) := by decide +kernel
theorem dX6_most_81 : decode cX6_most 81 = .ok (.getfield 40, 3) := by decide +kernel
theorem dX6_most_84 : decode cX6_most 84 = .ok (.invokevirtual 205, 3) := by decide +kernel
theorem dX6_most_87 : decode cX6_most 87 = .ok (.istore 7, 2) := by decide +kernel
theorem dX6_most_89 : decode cX6_most 89 = .ok (.iload 7, 2) := by decide +kernel
theorem dX6_most_91 : decode cX6_most 91 = .ok (.iload_n 3, 1) := by decide +kernel
theorem dX6_most_92 : decode cX6_most 92 = .ok (.if_icmp .le 17, 3) := by decide +kernel
theorem dX6_most_109 : decode cX6_most 109 = .ok (.iinc 6 10, 3) := by decide +kernel
theorem dX6_most_112 : decode cX6_most 112 = .ok (.goto (-66), 3) := by decide +kernel
theorem dX6_most_95 : decode cX6_most 95 = .ok (.iload 7, 2) := by decide +kernel
theorem dX6_most_97 : decode cX6_most 97 = .ok (.istore_n 3, 1) := by decide +kernel
theorem dX6_most_98 : decode cX6_most 98 = .ok (.iload 5, 2) := by decide +kernel
theorem dX6_most_100 : decode cX6_most 100 = .ok (.sipush 1000, 3) := by decide +kernel
theorem dX6_most_103 : decode cX6_most 103 = .ok (.imul, 1) := by decide +kernel
theorem dX6_most_104 : decode cX6_most 104 = .ok (.iload 6, 2) := by decide +kernel
theorem dX6_most_106 : decode cX6_most 106 = .ok (.iadd, 1) := by decide +kernel
theorem dX6_most_107 : decode cX6_most 107 = .ok (.istore 4, 2) := by decide +kernel
theorem dX6_most_10 : decode cX6_most 10 = .ok (.iload_n 2, 1) := by decide +kernel
theorem dX6_most_11 : decode cX6_most 11 = .ok (.ireturn, 1) := by decide +kernel
set_option maxRecDepth 100000 in
theorem c_X6_most (l : Launch) (D : va_G) (cy : Nat → Nat) (n : Nat) (ad : Nat → Nat) (F : Nat → va_E) (sz : Nat) (pic : Int32) (sc ps : Scn) (sh : Nat → Shf) (rd : Rdr) (dr : Stg) (fa : Tal) (mi : Crs) (hn : 56 ≤ n) (hX : RX ad cy F pic sc ps sh rd dr fa mi) (hG : gX sc ps sh) (d : Int32) : Met l yX6_most (zw yX6_most cX6_most 8 (some .int)) (rmL 5) (zPc D cy n ad F sz [.ref (ad 0), .int d]) (va_Qi (fun r F1 => r = zr True (sStR sh d) (sMost (sh (iN d)).2.1 sc.1) ∧ ∃ dr1, RX ad cy F1 pic sc ps sh rd dr1 fa mi ∧ fr56 F F1) (zB D n ad) (zA n ad sz)) 0 0 (zA n ad sz) := by
  refine zmet (by decide +kernel) (Nat.le_of_ble_eq_true rfl) (fun p e s m args below meth c ls hC hsz hZ hA hr hlocks hnm hl => ?_)
  have hC : zC p m c cX6_most 8 s args RX6 D cy := hC
  have hx := hC.1.1
  have hb := hC.1.2.1
  have hl : lv_has ls 8 [(0, .ref (ad 0)), (1, .int d)] := hl
  refine lv_aload_n hx hb dX6_most_0 rfl (lv_at hl 0 rfl) ?_
  refine lv_iload_n hx hb dX6_most_1 rfl (lv_at hl 1 rfl) ?_
  refine zgoi hZ hA (zrunV (As := [.int d]) (rest := []) (k := 0) hC hZ (c_X6_storyRefusal l D cy n ad F s.heap.size pic sc ps sh rd dr fa mi hn hX d) mX6_storyRefusal vX6_storyRefusal kX6_160 (zRj_of rfl) (zlt hn rfl) hX.1 rfl rfl hl.1 rfl (Nat.le_of_ble_eq_true rfl) dX6_most_2 ⟨Nat.le_refl _, Nat.le_refl _⟩) (fun r_2 F_1 hp_3 H locs hZ => ?_)
  obtain ⟨rfl, rfl⟩ := hp_3
  refine lv_istore_n (lv' := [(2, .int (sStR sh d)), (0, .ref (ad 0)), (1, .int d)]) hx hb dX6_most_5 rfl hl (by decide) rfl (fun ls hl => ?_)
  refine lv_iload_n hx hb dX6_most_6 rfl (lv_at hl 0 rfl) ?_
  refine lv_if_eq (tgt := 12) hx hb dX6_most_7 (by decide) (fun c_7 => ?_) (fun c_7 => ?_)
  · refine lv_bipush (v := (-4)) hx hb dX6_most_12 (by decide) ?_
    refine lv_istore_n (lv' := [(3, .int (-4)), (2, .int (sStR sh d)), (0, .ref (ad 0)), (1, .int d)]) hx hb dX6_most_14 rfl hl (by decide) rfl (fun ls hl => ?_)
    refine lv_bipush (v := (-4)) hx hb dX6_most_15 (by decide) ?_
    refine lv_istore (lv' := [(4, .int (-4)), (3, .int (-4)), (2, .int (sStR sh d)), (0, .ref (ad 0)), (1, .int d)]) hx hb dX6_most_17 hl (by decide) rfl (fun ls hl => ?_)
    refine lv_aload_n hx hb dX6_most_19 rfl (lv_at hl 3 rfl) ?_
    refine zget hC hZ fX6_40 (zlt hn rfl) hX.1 rfl dX6_most_20 ?_
    refine lv_aload_n hx hb dX6_most_23 rfl (lv_at hl 3 rfl) ?_
    refine zget hC hZ fX6_10 (zlt hn rfl) hX.1 rfl dX6_most_24 ?_
    refine zget hC hZ fX6_97 (zlt hn rfl) hX.2.1.1 rfl dX6_most_27 ?_
    refine zgov hZ hA (zrunV (As := [.ref (ad 2)]) (rest := []) (k := 52) hC hZ (c_X3_take l D cy n ad F H.size 52 dr (zlt hn rfl) hX.2.2.2.2.2.2.1 2 sc.1 (zlt hn rfl) hX.2.1.2.1 (by decide)) mX3_take vX3_take kX6_242 (zRj_of rfl) (zlt hn rfl) hX.2.2.2.2.2.2.1 rfl rfl hl.1 rfl (Nat.le_of_ble_eq_true rfl) dX6_most_30 ⟨Nat.le_refl _, Nat.le_refl _⟩) (fun F_4 hp_6 H locs hZ => ?_)
    have hX_7 := rx_draft hX hp_6
    have hf_8 := fr56_up fr56_rf hp_6 (by decide)
    have hX_7 : RX ad cy F_4 pic sc ps sh rd sc.1 fa mi := hX_7
    refine lv_iconst (v := 0) hx hb dX6_most_33 (by decide) ?_
    refine lv_istore (lv' := [(5, .int 0), (4, .int (-4)), (3, .int (-4)), (2, .int (sStR sh d)), (0, .ref (ad 0)), (1, .int d)]) hx hb dX6_most_34 hl (by decide) rfl (fun ls hl => ?_)
    have hs_9 := sStR_0 c_7
    refine zlp (X := Nat × (Int32 × Int32) × Stg) 36 (fun _ => []) (fun x ls F1 => lv_has ls 8 [(5, .int (nI (10 * x.1))), (4, .int x.2.1.2), (3, .int x.2.1.1), (2, .int (sStR sh d)), (0, .ref (ad 0)), (1, .int d)] ∧ RX ad cy F1 pic sc ps sh rd x.2.2 fa mi ∧ fr56 F F1 ∧ x.1 ≤ 11 ∧ x.2.1 = zfold (sMostF (sh (iN d)).2.1 sc.1) (11 * x.1) (-4, -4) ∧ x.2.2.2.2 = sc.1.2.2) (fun x => 11 - x.1) ?_ (0, (-4, -4), sc.1) hZ ⟨hl, hX_7, hf_8, (Nat.zero_le _), rfl, rfl⟩
    intro x ih36 ls F3_36 H locs hZ hφ
    obtain ⟨a, pp, dv⟩ := x
    obtain ⟨hl, hXl, hfl36, ha, hp, hdv⟩ := hφ
    have hl : lv_has ls 8 [(5, .int (nI (10 * a))), (4, .int pp.2), (3, .int pp.1), (2, .int (sStR sh d)), (0, .ref (ad 0)), (1, .int d)] := hl
    have hX36 : RX ad cy F3_36 pic sc ps sh rd dv fa mi := hXl
    have ha : a ≤ 11 := ha
    have hp : pp = zfold (sMostF (sh (iN d)).2.1 sc.1) (11 * a) (-4, -4) := hp
    have hdv : dv.2.2 = sc.1.2.2 := hdv
    refine lv_iload hx hb dX6_most_36 (lv_at hl 0 rfl) ?_
    refine lv_bipush (v := 100) hx hb dX6_most_38 (by decide) ?_
    refine lv_icmp_gt (tgt := 121) hx hb dX6_most_40 (by decide) (fun c_40 => ?_) (fun c_40 => ?_)
    · refine lv_iload hx hb dX6_most_121 (lv_at hl 1 rfl) ?_
      have ha11 : a = 11 := zgt100' ha c_40
      have hv_11 : pp.2 = sMost (sh (iN d)).2.1 sc.1 := by unfold sMost; rw [hp, ha11]
      have hq_10 : pp.2 = zr (True) (sStR sh d) (sMost (sh (iN d)).2.1 sc.1) := hv_11.trans (zr_ok trivial c_7).symm
      exact zireti hC hZ hr hlocks ⟨hq_10, dv, hX36, hfl36⟩ dX6_most_123
    · refine lv_iconst (v := 0) hx hb dX6_most_43 (by decide) ?_
      refine lv_istore (lv' := [(6, .int 0), (5, .int (nI (10 * a))), (4, .int pp.2), (3, .int pp.1), (2, .int (sStR sh d)), (0, .ref (ad 0)), (1, .int d)]) hx hb dX6_most_44 hl (by decide) rfl (fun ls hl => ?_)
      refine zlp (X := Nat × (Int32 × Int32) × Stg) 46 (fun _ => []) (fun x ls F1 => lv_has ls 8 [(6, .int (nI (10 * x.1))), (5, .int (nI (10 * a))), (4, .int x.2.1.2), (3, .int x.2.1.1), (2, .int (sStR sh d)), (0, .ref (ad 0)), (1, .int d)] ∧ RX ad cy F1 pic sc ps sh rd x.2.2 fa mi ∧ fr56 F F1 ∧ x.1 ≤ 11 ∧ x.2.1 = zfold (sMostF (sh (iN d)).2.1 sc.1) (11 * a + x.1) (-4, -4) ∧ x.2.2.2.2 = sc.1.2.2) (fun x => 11 - x.1) ?_ (0, pp, dv) hZ ⟨hl, hX36, hfl36, (Nat.zero_le _), hp, hdv⟩
      intro x ih46 ls F3_46 H locs hZ hφ
      obtain ⟨b, qq, ev⟩ := x
      obtain ⟨hl, hXl, hfl46, hb0, hq, hev⟩ := hφ
      have hl : lv_has ls 8 [(6, .int (nI (10 * b))), (5, .int (nI (10 * a))), (4, .int qq.2), (3, .int qq.1), (2, .int (sStR sh d)), (0, .ref (ad 0)), (1, .int d)] := hl
      have hX46 : RX ad cy F3_46 pic sc ps sh rd ev fa mi := hXl
      have hb0 : b ≤ 11 := hb0
      have hq : qq = zfold (sMostF (sh (iN d)).2.1 sc.1) (11 * a + b) (-4, -4) := hq
      have hev : ev.2.2 = sc.1.2.2 := hev
      refine lv_iload hx hb dX6_most_46 (lv_at hl 0 rfl) ?_
      refine lv_bipush (v := 100) hx hb dX6_most_48 (by decide) ?_
      refine lv_icmp_gt (tgt := 115) hx hb dX6_most_50 (by decide) (fun c_50 => ?_) (fun c_50 => ?_)
      · refine lv_iinc (v := nI (10 * (a + 1))) (lv' := [(5, .int (nI (10 * (a + 1)))), (6, .int (nI (10 * b))), (4, .int qq.2), (3, .int qq.1), (2, .int (sStR sh d)), (0, .ref (ad 0)), (1, .int d)]) hx hb dX6_most_115 hl (k := 1) rfl (zi10 a) (by decide) rfl (fun ls hl => ?_)
        refine lv_goto (tgt := 36) hx hb dX6_most_118 (by decide) ?_
        have hb11 : b = 11 := zgt100' hb0 c_50
        have ha10 : a ≤ 10 := zgt100 (by omega) c_40
        exact ih36 ((a + 1), qq, ev) ls _ H locs (by show 11 - (a + 1) < 11 - a; omega) hZ ⟨(lv_sub hl [0, 2, 3, 4, 5, 6] rfl), hX46, hfl46, (by omega), (by rw [hq, hb11]; rfl), hev⟩
      · refine lv_aload_n hx hb dX6_most_53 rfl (lv_at hl 5 rfl) ?_
        refine zget hC hZ fX6_40 (zlt hn rfl) hX46.1 rfl dX6_most_54 ?_
        refine lv_iload hx hb dX6_most_57 (lv_at hl 1 rfl) ?_
        refine zput (E := oSetting (nI (10 * a), ev.2.1, ev.2.2.1, ev.2.2.2)) hC hZ pX6_100 (zlt hn rfl) hX46.2.2.2.2.2.2.1 rfl rfl rfl (Nat.le_of_ble_eq_true rfl) dX6_most_59 (fun F_12 hF_13 H locs hZ => ?_)
        have hX_14 := rx_draft hX46 hF_13
        have hf_15 := fr56_up hfl46 hF_13 (by decide)
        have hX_14 : RX ad cy F_12 pic sc ps sh rd (nI (10 * a), ev.2.1, ev.2.2.1, ev.2.2.2) fa mi := hX_14
        refine lv_aload_n hx hb dX6_most_62 rfl (lv_at hl 5 rfl) ?_
        refine zget hC hZ fX6_40 (zlt hn rfl) hX_14.1 rfl dX6_most_63 ?_
        refine lv_iload hx hb dX6_most_66 (lv_at hl 0 rfl) ?_
        refine zput (E := oSetting ((nI (10 * a)), nI (10 * b), ev.2.2.1, ev.2.2.2)) hC hZ pX6_103 (zlt hn rfl) hX_14.2.2.2.2.2.2.1 rfl rfl rfl (Nat.le_of_ble_eq_true rfl) dX6_most_68 (fun F_16 hF_17 H locs hZ => ?_)
        have hX_18 := rx_draft hX_14 hF_17
        have hf_19 := fr56_up hf_15 hF_17 (by decide)
        have hX_18 : RX ad cy F_16 pic sc ps sh rd ((nI (10 * a)), nI (10 * b), ev.2.2.1, ev.2.2.2) fa mi := hX_18
        have hb10 : b ≤ 10 := zgt100 (by omega) c_50
        have ha10 : a ≤ 10 := zgt100 (by omega) c_40
        obtain ⟨bb, hbb⟩ : ∃ y : Stg, y = ((nI (10 * a)), nI (10 * b), ev.2.2.1, ev.2.2.2) := ⟨_, rfl⟩
        have hbm : bb = sMostB sc.1 (11 * a + b) := by rw [hbb]; exact sMostB_e (by omega) hev
        have hgb : gS bb := by have h := gSm hG.1.1 (x := 10 * a) (y := 10 * b) (by omega) (by omega); rw [← hev] at h; rw [hbb]; exact h
        have hXb : RX ad cy F_16 pic sc ps sh rd bb fa mi := by rw [hbb]; exact hX_18
        refine lv_aload_n hx hb dX6_most_71 rfl (lv_at hl 5 rfl) ?_
        refine zget hC hZ fX6_25 (zlt hn rfl) hXb.1 rfl dX6_most_72 ?_
        refine lv_iload_n hx hb dX6_most_75 rfl (lv_at hl 6 rfl) ?_
        refine zaald hC hZ (zlt hn rfl) hXb.2.2.2.1 (C := RX4) rfl hs_9.1.1 hs_9.1.2 (by decide) rfl dX6_most_76 ?_
        refine zget hC hZ fX6_163 (by have := hs_9.1.2; omega) (hXb.2.2.2.2.1 (iN d) hs_9.1.2).1 rfl dX6_most_77 ?_
        refine lv_aload_n hx hb dX6_most_80 rfl (lv_at hl 5 rfl) ?_
        refine zget hC hZ fX6_40 (zlt hn rfl) hXb.1 rfl dX6_most_81 ?_
        refine zgoi hZ hA (zrunV (As := [.ref (ad 52)]) (rest := []) (k := 26 + 3 * (iN d) + 1) hC hZ (c_X5_arch l D cy n ad F_16 H.size (26 + 3 * (iN d) + 1) (sh (iN d)).2.1 (by have := hs_9.1.2; omega) (hXb.2.2.2.2.1 (iN d) hs_9.1.2).2.1 52 bb (zlt hn rfl) hXb.2.2.2.2.2.2.1 ((hG.2.2 _ hs_9.1.2).1 hs_9.2) hgb) mX5_arch vX5_arch kX6_205 (zRj_of rfl) (by have := hs_9.1.2; omega) (hXb.2.2.2.2.1 (iN d) hs_9.1.2).2.1 rfl rfl hl.1 rfl (Nat.le_of_ble_eq_true rfl) dX6_most_84 ⟨Nat.le_refl _, Nat.le_refl _⟩) (fun r_21 F_20 hp_22 H locs hZ => ?_)
        obtain ⟨rfl, rfl⟩ := hp_22
        refine lv_istore (lv' := [(7, .int (sArchAt (sh (iN d)).2.1 bb 0)), (6, .int (nI (10 * b))), (5, .int (nI (10 * a))), (4, .int qq.2), (3, .int qq.1), (2, .int (sStR sh d)), (0, .ref (ad 0)), (1, .int d)]) hx hb dX6_most_87 hl (by decide) rfl (fun ls hl => ?_)
        refine lv_iload hx hb dX6_most_89 (lv_at hl 0 rfl) ?_
        refine lv_iload_n hx hb dX6_most_91 rfl (lv_at hl 4 rfl) ?_
        refine lv_icmp_le (tgt := 109) hx hb dX6_most_92 (by decide) (fun c_92 => ?_) (fun c_92 => ?_)
        · refine lv_iinc (v := nI (10 * (b + 1))) (lv' := [(6, .int (nI (10 * (b + 1)))), (7, .int (sArchAt (sh (iN d)).2.1 bb 0)), (5, .int (nI (10 * a))), (4, .int qq.2), (3, .int qq.1), (2, .int (sStR sh d)), (0, .ref (ad 0)), (1, .int d)]) hx hb dX6_most_109 hl (k := 1) rfl (zi10 b) (by decide) rfl (fun ls hl => ?_)
          refine lv_goto (tgt := 46) hx hb dX6_most_112 (by decide) ?_
          have hb10 : b ≤ 10 := zgt100 (by omega) c_50
          exact ih46 ((b + 1), qq, bb) ls _ H locs (by show 11 - (b + 1) < 11 - b; omega) hZ ⟨(lv_sub hl [0, 2, 3, 4, 5, 6, 7] rfl), hXb, hf_19, (by omega), (by show qq = (sMostF (sh (iN d)).2.1 sc.1) (11 * a + b) (zfold (sMostF (sh (iN d)).2.1 sc.1) (11 * a + b) (-4, -4)); rw [← hq]; exact sMostF_n hbm (Int32.not_lt.mpr c_92)), (by rw [hbb]; exact hev)⟩
        · refine lv_iload hx hb dX6_most_95 (lv_at hl 0 rfl) ?_
          refine lv_istore_n (lv' := [(3, .int (sArchAt (sh (iN d)).2.1 bb 0)), (7, .int (sArchAt (sh (iN d)).2.1 bb 0)), (6, .int (nI (10 * b))), (5, .int (nI (10 * a))), (4, .int qq.2), (2, .int (sStR sh d)), (0, .ref (ad 0)), (1, .int d)]) hx hb dX6_most_97 rfl hl (by decide) rfl (fun ls hl => ?_)
          refine lv_iload hx hb dX6_most_98 (lv_at hl 3 rfl) ?_
          refine lv_sipush (v := 1000) hx hb dX6_most_100 (by decide) ?_
          refine lv_imul hx hb dX6_most_103 ?_
          refine lv_iload hx hb dX6_most_104 (lv_at hl 2 rfl) ?_
          refine lv_iadd hx hb dX6_most_106 ?_
          refine lv_istore (lv' := [(4, .int ((nI (10 * a) * 1000) + nI (10 * b))), (3, .int (sArchAt (sh (iN d)).2.1 bb 0)), (7, .int (sArchAt (sh (iN d)).2.1 bb 0)), (6, .int (nI (10 * b))), (5, .int (nI (10 * a))), (2, .int (sStR sh d)), (0, .ref (ad 0)), (1, .int d)]) hx hb dX6_most_107 hl (by decide) rfl (fun ls hl => ?_)
          refine lv_iinc (v := nI (10 * (b + 1))) (lv' := [(6, .int (nI (10 * (b + 1)))), (4, .int ((nI (10 * a) * 1000) + nI (10 * b))), (3, .int (sArchAt (sh (iN d)).2.1 bb 0)), (7, .int (sArchAt (sh (iN d)).2.1 bb 0)), (5, .int (nI (10 * a))), (2, .int (sStR sh d)), (0, .ref (ad 0)), (1, .int d)]) hx hb dX6_most_109 hl (k := 3) rfl (zi10 b) (by decide) rfl (fun ls hl => ?_)
          refine lv_goto (tgt := 46) hx hb dX6_most_112 (by decide) ?_
          have hb10 : b ≤ 10 := zgt100 (by omega) c_50
          exact ih46 ((b + 1), ((sArchAt (sh (iN d)).2.1 bb 0), ((nI (10 * a) * 1000) + nI (10 * b))), bb) ls _ H locs (by show 11 - (b + 1) < 11 - b; omega) hZ ⟨(lv_sub hl [0, 4, 1, 2, 5, 6, 7] rfl), hXb, hf_19, (by omega), (by show _ = (sMostF (sh (iN d)).2.1 sc.1) (11 * a + b) (zfold (sMostF (sh (iN d)).2.1 sc.1) (11 * a + b) (-4, -4)); rw [← hq]; exact sMostF_p (by omega) hbm (Int32.not_le.mp c_92)), (by rw [hbb]; exact hev)⟩
  · refine lv_iload_n hx hb dX6_most_10 rfl (lv_at hl 0 rfl) ?_
    have hq_23 : (sStR sh d) = zr (True) (sStR sh d) (sMost (sh (iN d)).2.1 sc.1) := (zr_rf trivial c_7).symm
    exact zireti hC hZ hr hlocks ⟨hq_23, dr, hX, fr56_rf⟩ dX6_most_11

theorem mX6_lays : zMd yX6_lays cX6_lays 7 (some .int) 1 := ⟨by decide +kernel, gt_of 511 (by decide +kernel) rfl, gt_of 44 (by decide +kernel) rfl, by decide⟩
theorem dX6_lays_0 : decode cX6_lays 0 = .ok (.aload_n 0, 1) := by decide +kernel
theorem dX6_lays_1 : decode cX6_lays 1 = .ok (.iload_n 1, 1) := by decide +kernel
theorem dX6_lays_2 : decode cX6_lays 2 = .ok (.invokevirtual 160, 3) := by decide +kernel
theorem dX6_lays_5 : decode cX6_lays 5 = .ok (.istore_n 2, 1) := by decide +kernel
theorem dX6_lays_6 : decode cX6_lays 6 = .ok (.iload_n 2, 1) := by decide +kernel
theorem dX6_lays_7 : decode cX6_lays 7 = .ok (.ifCond .eq 5, 3) := by decide +kernel
theorem dX6_lays_12 : decode cX6_lays 12 = .ok (.bipush (-4), 2) := by decide +kernel
theorem dX6_lays_14 : decode cX6_lays 14 = .ok (.istore_n 3, 1) := by decide +kernel
theorem dX6_lays_15 : decode cX6_lays 15 = .ok (.bipush (-4), 2) := by decide +kernel
theorem dX6_lays_17 : decode cX6_lays 17 = .ok (.istore 4, 2) := by decide +kernel
theorem dX6_lays_19 : decode cX6_lays 19 = .ok (.aload_n 0, 1) := by decide +kernel
theorem dX6_lays_20 : decode cX6_lays 20 = .ok (.getfield 40, 3) := by decide +kernel
theorem dX6_lays_23 : decode cX6_lays 23 = .ok (.aload_n 0, 1) := by decide +kernel
theorem dX6_lays_24 : decode cX6_lays 24 = .ok (.getfield 10, 3) := by decide +kernel
theorem dX6_lays_27 : decode cX6_lays 27 = .ok (.getfield 97, 3) := by decide +kernel
theorem dX6_lays_30 : decode cX6_lays 30 = .ok (.invokevirtual 242, 3) := by decide +kernel
theorem dX6_lays_33 : decode cX6_lays 33 = .ok (.iconst 0, 1) := by decide +kernel
theorem dX6_lays_34 : decode cX6_lays 34 = .ok (.istore 5, 2) := by decide +kernel
theorem dX6_lays_36 : decode cX6_lays 36 = .ok (.iload 5, 2) := by decide +kernel
theorem dX6_lays_38 : decode cX6_lays 38 = .ok (.iconst 2, 1) := by decide +kernel
theorem dX6_lays_39 : decode cX6_lays 39 = .ok (.if_icmp .gt 49, 3) := by decide +kernel
theorem dX6_lays_88 : decode cX6_lays 88 = .ok (.iload 4, 2) := by decide +kernel
theorem dX6_lays_90 : decode cX6_lays 90 = .ok (.ireturn, 1) := by decide +kernel
theorem dX6_lays_42 : decode cX6_lays 42 = .ok (.aload_n 0, 1) := by decide +kernel
theorem dX6_lays_43 : decode cX6_lays 43 = .ok (.getfield 40, 3) := by decide +kernel
theorem dX6_lays_46 : decode cX6_lays 46 = .ok (.iload 5, 2) := by decide +kernel
theorem dX6_lays_48 : decode cX6_lays 48 = .ok (.putfield 106, 3) := by decide +kernel
theorem dX6_lays_51 : decode cX6_lays 51 = .ok (.aload_n 0, 1) := by decide +kernel
theorem dX6_lays_52 : decode cX6_lays 52 = .ok (.getfield 25, 3) := by decide +kernel
theorem dX6_lays_55 : decode cX6_lays 55 = .ok (.iload_n 1, 1) := by decide +kernel
theorem dX6_lays_56 : decode cX6_lays 56 = .ok (.aaload, 1) := by decide +kernel
theorem dX6_lays_57 : decode cX6_lays 57 = .ok (.getfield 163, 3) := by decide +kernel
theorem dX6_lays_60 : decode cX6_lays 60 = .ok (.aload_n 0, 1) := by decide +kernel
theorem dX6_lays_61 : decode cX6_lays 61 = .ok (.getfield 40, 3) := by decide +kernel
theorem dX6_lays_64 : decode cX6_lays 64 = .ok (.invokevirtual 205, 3) := by decide +kernel
theorem dX6_lays_67 : decode cX6_lays 67 = .ok (.istore 6, 2) := by decide +kernel
theorem dX6_lays_69 : decode cX6_lays 69 = .ok (.iload 6, 2) := by decide +kernel
theorem dX6_lays_71 : decode cX6_lays 71 = .ok (.iload_n 3, 1) := by decide +kernel
theorem dX6_lays_72 : decode cX6_lays 72 = .ok (.if_icmp .le 10, 3) := by decide +kernel
theorem dX6_lays_82 : decode cX6_lays 82 = .ok (.iinc 5 1, 3) := by decide +kernel
theorem dX6_lays_85 : decode cX6_lays 85 = .ok (.goto (-49), 3) := by decide +kernel
theorem dX6_lays_75 : decode cX6_lays 75 = .ok (.iload 6, 2) := by decide +kernel
theorem dX6_lays_77 : decode cX6_lays 77 = .ok (.istore_n 3, 1) := by decide +kernel
theorem dX6_lays_78 : decode cX6_lays 78 = .ok (.iload 5, 2) := by decide +kernel
theorem dX6_lays_80 : decode cX6_lays 80 = .ok (.istore 4, 2) := by decide +kernel
theorem dX6_lays_10 : decode cX6_lays 10 = .ok (.iload_n 2, 1) := by decide +kernel
theorem dX6_lays_11 : decode cX6_lays 11 = .ok (.ireturn, 1) := by decide +kernel
set_option maxRecDepth 100000 in
theorem c_X6_lays (l : Launch) (D : va_G) (cy : Nat → Nat) (n : Nat) (ad : Nat → Nat) (F : Nat → va_E) (sz : Nat) (pic : Int32) (sc ps : Scn) (sh : Nat → Shf) (rd : Rdr) (dr : Stg) (fa : Tal) (mi : Crs) (hn : 56 ≤ n) (hX : RX ad cy F pic sc ps sh rd dr fa mi) (hG : gX sc ps sh) (d : Int32) : Met l yX6_lays (zw yX6_lays cX6_lays 7 (some .int)) (rmL 5) (zPc D cy n ad F sz [.ref (ad 0), .int d]) (va_Qi (fun r F1 => r = zr True (sStR sh d) (sLays (sh (iN d)).2.1 sc.1) ∧ ∃ dr1, RX ad cy F1 pic sc ps sh rd dr1 fa mi ∧ fr56 F F1) (zB D n ad) (zA n ad sz)) 0 0 (zA n ad sz) := by
  refine zmet (by decide +kernel) (Nat.le_of_ble_eq_true rfl) (fun p e s m args below meth c ls hC hsz hZ hA hr hlocks hnm hl => ?_)
  have hC : zC p m c cX6_lays 7 s args RX6 D cy := hC
  have hx := hC.1.1
  have hb := hC.1.2.1
  have hl : lv_has ls 7 [(0, .ref (ad 0)), (1, .int d)] := hl
  refine lv_aload_n hx hb dX6_lays_0 rfl (lv_at hl 0 rfl) ?_
  refine lv_iload_n hx hb dX6_lays_1 rfl (lv_at hl 1 rfl) ?_
  refine zgoi hZ hA (zrunV (As := [.int d]) (rest := []) (k := 0) hC hZ (c_X6_storyRefusal l D cy n ad F s.heap.size pic sc ps sh rd dr fa mi hn hX d) mX6_storyRefusal vX6_storyRefusal kX6_160 (zRj_of rfl) (zlt hn rfl) hX.1 rfl rfl hl.1 rfl (Nat.le_of_ble_eq_true rfl) dX6_lays_2 ⟨Nat.le_refl _, Nat.le_refl _⟩) (fun r_2 F_1 hp_3 H locs hZ => ?_)
  obtain ⟨rfl, rfl⟩ := hp_3
  refine lv_istore_n (lv' := [(2, .int (sStR sh d)), (0, .ref (ad 0)), (1, .int d)]) hx hb dX6_lays_5 rfl hl (by decide) rfl (fun ls hl => ?_)
  refine lv_iload_n hx hb dX6_lays_6 rfl (lv_at hl 0 rfl) ?_
  refine lv_if_eq (tgt := 12) hx hb dX6_lays_7 (by decide) (fun c_7 => ?_) (fun c_7 => ?_)
  · refine lv_bipush (v := (-4)) hx hb dX6_lays_12 (by decide) ?_
    refine lv_istore_n (lv' := [(3, .int (-4)), (2, .int (sStR sh d)), (0, .ref (ad 0)), (1, .int d)]) hx hb dX6_lays_14 rfl hl (by decide) rfl (fun ls hl => ?_)
    refine lv_bipush (v := (-4)) hx hb dX6_lays_15 (by decide) ?_
    refine lv_istore (lv' := [(4, .int (-4)), (3, .int (-4)), (2, .int (sStR sh d)), (0, .ref (ad 0)), (1, .int d)]) hx hb dX6_lays_17 hl (by decide) rfl (fun ls hl => ?_)
    refine lv_aload_n hx hb dX6_lays_19 rfl (lv_at hl 3 rfl) ?_
    refine zget hC hZ fX6_40 (zlt hn rfl) hX.1 rfl dX6_lays_20 ?_
    refine lv_aload_n hx hb dX6_lays_23 rfl (lv_at hl 3 rfl) ?_
    refine zget hC hZ fX6_10 (zlt hn rfl) hX.1 rfl dX6_lays_24 ?_
    refine zget hC hZ fX6_97 (zlt hn rfl) hX.2.1.1 rfl dX6_lays_27 ?_
    refine zgov hZ hA (zrunV (As := [.ref (ad 2)]) (rest := []) (k := 52) hC hZ (c_X3_take l D cy n ad F H.size 52 dr (zlt hn rfl) hX.2.2.2.2.2.2.1 2 sc.1 (zlt hn rfl) hX.2.1.2.1 (by decide)) mX3_take vX3_take kX6_242 (zRj_of rfl) (zlt hn rfl) hX.2.2.2.2.2.2.1 rfl rfl hl.1 rfl (Nat.le_of_ble_eq_true rfl) dX6_lays_30 ⟨Nat.le_refl _, Nat.le_refl _⟩) (fun F_4 hp_6 H locs hZ => ?_)
    have hX_7 := rx_draft hX hp_6
    have hf_8 := fr56_up fr56_rf hp_6 (by decide)
    have hX_7 : RX ad cy F_4 pic sc ps sh rd sc.1 fa mi := hX_7
    refine lv_iconst (v := 0) hx hb dX6_lays_33 (by decide) ?_
    refine lv_istore (lv' := [(5, .int 0), (4, .int (-4)), (3, .int (-4)), (2, .int (sStR sh d)), (0, .ref (ad 0)), (1, .int d)]) hx hb dX6_lays_34 hl (by decide) rfl (fun ls hl => ?_)
    have hs_9 := sStR_0 c_7
    refine zlp (X := Nat × (Int32 × Int32) × Stg) 36 (fun _ => []) (fun x ls F1 => lv_has ls 7 [(5, .int (nI x.1)), (4, .int x.2.1.2), (3, .int x.2.1.1), (2, .int (sStR sh d)), (0, .ref (ad 0)), (1, .int d)] ∧ RX ad cy F1 pic sc ps sh rd x.2.2 fa mi ∧ fr56 F F1 ∧ x.1 ≤ 3 ∧ x.2.1 = zfold (sLayF (sh (iN d)).2.1 sc.1) x.1 (-4, -4) ∧ x.2.2.1 = sc.1.1 ∧ x.2.2.2.1 = sc.1.2.1 ∧ x.2.2.2.2.2 = sc.1.2.2.2) (fun x => 3 - x.1) ?_ (0, (-4, -4), sc.1) hZ ⟨hl, hX_7, hf_8, (Nat.zero_le _), rfl, ⟨rfl, rfl, rfl⟩⟩
    intro x ih36 ls F3_36 H locs hZ hφ
    obtain ⟨a, pp, dv⟩ := x
    obtain ⟨hl, hXl, hfl36, ha, hp, hdv⟩ := hφ
    have hl : lv_has ls 7 [(5, .int (nI a)), (4, .int pp.2), (3, .int pp.1), (2, .int (sStR sh d)), (0, .ref (ad 0)), (1, .int d)] := hl
    have hX36 : RX ad cy F3_36 pic sc ps sh rd dv fa mi := hXl
    have ha : a ≤ 3 := ha
    have hp : pp = zfold (sLayF (sh (iN d)).2.1 sc.1) a (-4, -4) := hp
    have hdv : dv.1 = sc.1.1 ∧ dv.2.1 = sc.1.2.1 ∧ dv.2.2.2 = sc.1.2.2.2 := hdv
    refine lv_iload hx hb dX6_lays_36 (lv_at hl 0 rfl) ?_
    refine lv_iconst (v := 2) hx hb dX6_lays_38 (by decide) ?_
    refine lv_icmp_gt (tgt := 88) hx hb dX6_lays_39 (by decide) (fun c_39 => ?_) (fun c_39 => ?_)
    · refine lv_iload hx hb dX6_lays_88 (lv_at hl 1 rfl) ?_
      have ha3 : a = 3 := by rcases Nat.lt_or_ge 2 a with h | h; omega; exact absurd c_39 (nI_nlt (a := 2) (b := a) h (by omega))
      have hv_11 : pp.2 = sLays (sh (iN d)).2.1 sc.1 := by unfold sLays; rw [hp, ha3]
      have hq_10 : pp.2 = zr (True) (sStR sh d) (sLays (sh (iN d)).2.1 sc.1) := hv_11.trans (zr_ok trivial c_7).symm
      exact zireti hC hZ hr hlocks ⟨hq_10, dv, hX36, hfl36⟩ dX6_lays_90
    · refine lv_aload_n hx hb dX6_lays_42 rfl (lv_at hl 4 rfl) ?_
      refine zget hC hZ fX6_40 (zlt hn rfl) hX36.1 rfl dX6_lays_43 ?_
      refine lv_iload hx hb dX6_lays_46 (lv_at hl 0 rfl) ?_
      refine zput (E := oSetting (dv.1, dv.2.1, nI a, dv.2.2.2)) hC hZ pX6_106 (zlt hn rfl) hX36.2.2.2.2.2.2.1 rfl rfl rfl (Nat.le_of_ble_eq_true rfl) dX6_lays_48 (fun F_12 hF_13 H locs hZ => ?_)
      have hX_14 := rx_draft hX36 hF_13
      have hf_15 := fr56_up hfl36 hF_13 (by decide)
      have hX_14 : RX ad cy F_12 pic sc ps sh rd (dv.1, dv.2.1, nI a, dv.2.2.2) fa mi := hX_14
      have ha2 : a ≤ 2 := by rcases Nat.lt_or_ge 2 a with h | h; exact absurd (nI_lt (a := 2) (b := a) h (by omega)) c_39; exact h
      obtain ⟨bb, hbb⟩ : ∃ y : Stg, y = (dv.1, dv.2.1, nI a, dv.2.2.2) := ⟨_, rfl⟩
      have hbm : bb = sLayB sc.1 a := by rw [hbb, hdv.1, hdv.2.1, hdv.2.2]; rfl
      have hgb : gS bb := by rw [hbm]; exact gSl hG.1.1 (by omega)
      have hXb : RX ad cy F_12 pic sc ps sh rd bb fa mi := by rw [hbb]; exact hX_14
      refine lv_aload_n hx hb dX6_lays_51 rfl (lv_at hl 4 rfl) ?_
      refine zget hC hZ fX6_25 (zlt hn rfl) hXb.1 rfl dX6_lays_52 ?_
      refine lv_iload_n hx hb dX6_lays_55 rfl (lv_at hl 5 rfl) ?_
      refine zaald hC hZ (zlt hn rfl) hXb.2.2.2.1 (C := RX4) rfl hs_9.1.1 hs_9.1.2 (by decide) rfl dX6_lays_56 ?_
      refine zget hC hZ fX6_163 (by have := hs_9.1.2; omega) (hXb.2.2.2.2.1 (iN d) hs_9.1.2).1 rfl dX6_lays_57 ?_
      refine lv_aload_n hx hb dX6_lays_60 rfl (lv_at hl 4 rfl) ?_
      refine zget hC hZ fX6_40 (zlt hn rfl) hXb.1 rfl dX6_lays_61 ?_
      refine zgoi hZ hA (zrunV (As := [.ref (ad 52)]) (rest := []) (k := 26 + 3 * (iN d) + 1) hC hZ (c_X5_arch l D cy n ad F_12 H.size (26 + 3 * (iN d) + 1) (sh (iN d)).2.1 (by have := hs_9.1.2; omega) (hXb.2.2.2.2.1 (iN d) hs_9.1.2).2.1 52 bb (zlt hn rfl) hXb.2.2.2.2.2.2.1 ((hG.2.2 _ hs_9.1.2).1 hs_9.2) hgb) mX5_arch vX5_arch kX6_205 (zRj_of rfl) (by have := hs_9.1.2; omega) (hXb.2.2.2.2.1 (iN d) hs_9.1.2).2.1 rfl rfl hl.1 rfl (Nat.le_of_ble_eq_true rfl) dX6_lays_64 ⟨Nat.le_refl _, Nat.le_refl _⟩) (fun r_17 F_16 hp_18 H locs hZ => ?_)
      obtain ⟨rfl, rfl⟩ := hp_18
      refine lv_istore (lv' := [(6, .int (sArchAt (sh (iN d)).2.1 bb 0)), (5, .int (nI a)), (4, .int pp.2), (3, .int pp.1), (2, .int (sStR sh d)), (0, .ref (ad 0)), (1, .int d)]) hx hb dX6_lays_67 hl (by decide) rfl (fun ls hl => ?_)
      refine lv_iload hx hb dX6_lays_69 (lv_at hl 0 rfl) ?_
      refine lv_iload_n hx hb dX6_lays_71 rfl (lv_at hl 3 rfl) ?_
      refine lv_icmp_le (tgt := 82) hx hb dX6_lays_72 (by decide) (fun c_72 => ?_) (fun c_72 => ?_)
      · refine lv_iinc (v := nI (a + 1)) (lv' := [(5, .int (nI (a + 1))), (6, .int (sArchAt (sh (iN d)).2.1 bb 0)), (4, .int pp.2), (3, .int pp.1), (2, .int (sStR sh d)), (0, .ref (ad 0)), (1, .int d)]) hx hb dX6_lays_82 hl (k := 1) rfl (nI_1 a) (by decide) rfl (fun ls hl => ?_)
        refine lv_goto (tgt := 36) hx hb dX6_lays_85 (by decide) ?_
        have ha2 : a ≤ 2 := by rcases Nat.lt_or_ge 2 a with h | h; exact absurd (nI_lt (a := 2) (b := a) h (by omega)) c_39; exact h
        exact ih36 ((a + 1), pp, bb) ls _ H locs (by show 3 - (a + 1) < 3 - a; omega) hZ ⟨(lv_sub hl [0, 2, 3, 4, 5, 6] rfl), hXb, hf_15, (by omega), (by show pp = (sLayF (sh (iN d)).2.1 sc.1) a (zfold (sLayF (sh (iN d)).2.1 sc.1) a (-4, -4)); rw [← hp]; exact sLayF_n hbm (Int32.not_lt.mpr c_72)), (by rw [hbm]; exact ⟨rfl, rfl, rfl⟩)⟩
      · refine lv_iload hx hb dX6_lays_75 (lv_at hl 0 rfl) ?_
        refine lv_istore_n (lv' := [(3, .int (sArchAt (sh (iN d)).2.1 bb 0)), (6, .int (sArchAt (sh (iN d)).2.1 bb 0)), (5, .int (nI a)), (4, .int pp.2), (2, .int (sStR sh d)), (0, .ref (ad 0)), (1, .int d)]) hx hb dX6_lays_77 rfl hl (by decide) rfl (fun ls hl => ?_)
        refine lv_iload hx hb dX6_lays_78 (lv_at hl 2 rfl) ?_
        refine lv_istore (lv' := [(4, .int (nI a)), (3, .int (sArchAt (sh (iN d)).2.1 bb 0)), (6, .int (sArchAt (sh (iN d)).2.1 bb 0)), (5, .int (nI a)), (2, .int (sStR sh d)), (0, .ref (ad 0)), (1, .int d)]) hx hb dX6_lays_80 hl (by decide) rfl (fun ls hl => ?_)
        refine lv_iinc (v := nI (a + 1)) (lv' := [(5, .int (nI (a + 1))), (4, .int (nI a)), (3, .int (sArchAt (sh (iN d)).2.1 bb 0)), (6, .int (sArchAt (sh (iN d)).2.1 bb 0)), (2, .int (sStR sh d)), (0, .ref (ad 0)), (1, .int d)]) hx hb dX6_lays_82 hl (k := 3) rfl (nI_1 a) (by decide) rfl (fun ls hl => ?_)
        refine lv_goto (tgt := 36) hx hb dX6_lays_85 (by decide) ?_
        have ha2 : a ≤ 2 := by rcases Nat.lt_or_ge 2 a with h | h; exact absurd (nI_lt (a := 2) (b := a) h (by omega)) c_39; exact h
        exact ih36 ((a + 1), ((sArchAt (sh (iN d)).2.1 bb 0), nI a), bb) ls _ H locs (by show 3 - (a + 1) < 3 - a; omega) hZ ⟨(lv_sub hl [0, 1, 2, 4, 5, 6] rfl), hXb, hf_15, (by omega), (by show _ = (sLayF (sh (iN d)).2.1 sc.1) a (zfold (sLayF (sh (iN d)).2.1 sc.1) a (-4, -4)); rw [← hp]; exact sLayF_p hbm (Int32.not_le.mp c_72)), (by rw [hbm]; exact ⟨rfl, rfl, rfl⟩)⟩
  · refine lv_iload_n hx hb dX6_lays_10 rfl (lv_at hl 0 rfl) ?_
    have hq_19 : (sStR sh d) = zr (True) (sStR sh d) (sLays (sh (iN d)).2.1 sc.1) := (zr_rf trivial c_7).symm
    exact zireti hC hZ hr hlocks ⟨hq_19, dr, hX, fr56_rf⟩ dX6_lays_11

theorem mX6_judge : zMd yX6_judge cX6_judge 6 (some .int) 2 := ⟨by decide +kernel, gt_of 549 (by decide +kernel) rfl, gt_of 44 (by decide +kernel) rfl, by decide⟩
theorem dX6_judge_0 : decode cX6_judge 0 = .ok (.aload_n 0, 1) := by decide +kernel
theorem dX6_judge_1 : decode cX6_judge 1 = .ok (.iload_n 1, 1) := by decide +kernel
theorem dX6_judge_2 : decode cX6_judge 2 = .ok (.invokevirtual 160, 3) := by decide +kernel
theorem dX6_judge_5 : decode cX6_judge 5 = .ok (.aload_n 0, 1) := by decide +kernel
theorem dX6_judge_6 : decode cX6_judge 6 = .ok (.iload_n 2, 1) := by decide +kernel
theorem dX6_judge_7 : decode cX6_judge 7 = .ok (.invokevirtual 119, 3) := by decide +kernel
theorem dX6_judge_10 : decode cX6_judge 10 = .ok (.invokestatic 207, 3) := by decide +kernel
theorem dX6_judge_13 : decode cX6_judge 13 = .ok (.istore_n 3, 1) := by decide +kernel
theorem dX6_judge_14 : decode cX6_judge 14 = .ok (.iload_n 3, 1) := by decide +kernel
theorem dX6_judge_15 : decode cX6_judge 15 = .ok (.ifCond .eq 5, 3) := by decide +kernel
theorem dX6_judge_20 : decode cX6_judge 20 = .ok (.aload_n 0, 1) := by decide +kernel
theorem dX6_judge_21 : decode cX6_judge 21 = .ok (.getfield 57, 3) := by decide +kernel
theorem dX6_judge_24 : decode cX6_judge 24 = .ok (.invokevirtual 184, 3) := by decide +kernel
theorem dX6_judge_27 : decode cX6_judge 27 = .ok (.aload_n 0, 1) := by decide +kernel
theorem dX6_judge_28 : decode cX6_judge 28 = .ok (.getfield 25, 3) := by decide +kernel
theorem dX6_judge_31 : decode cX6_judge 31 = .ok (.iload_n 2, 1) := by decide +kernel
theorem dX6_judge_32 : decode cX6_judge 32 = .ok (.aaload, 1) := by decide +kernel
theorem dX6_judge_33 : decode cX6_judge 33 = .ok (.astore 4, 2) := by decide +kernel
theorem dX6_judge_35 : decode cX6_judge 35 = .ok (.iconst 0, 1) := by decide +kernel
theorem dX6_judge_36 : decode cX6_judge 36 = .ok (.istore 5, 2) := by decide +kernel
theorem dX6_judge_38 : decode cX6_judge 38 = .ok (.iload 5, 2) := by decide +kernel
theorem dX6_judge_40 : decode cX6_judge 40 = .ok (.aload 4, 2) := by decide +kernel
theorem dX6_judge_42 : decode cX6_judge 42 = .ok (.getfield 228, 3) := by decide +kernel
theorem dX6_judge_45 : decode cX6_judge 45 = .ok (.if_icmp .ge 66, 3) := by decide +kernel
theorem dX6_judge_111 : decode cX6_judge 111 = .ok (.bipush (-4), 2) := by decide +kernel
theorem dX6_judge_113 : decode cX6_judge 113 = .ok (.ireturn, 1) := by decide +kernel
theorem dX6_judge_48 : decode cX6_judge 48 = .ok (.iload 5, 2) := by decide +kernel
theorem dX6_judge_50 : decode cX6_judge 50 = .ok (.bipush 100, 2) := by decide +kernel
theorem dX6_judge_52 : decode cX6_judge 52 = .ok (.if_icmp .ge 59, 3) := by decide +kernel
theorem dX6_judge_55 : decode cX6_judge 55 = .ok (.aload_n 0, 1) := by decide +kernel
theorem dX6_judge_56 : decode cX6_judge 56 = .ok (.getfield 10, 3) := by decide +kernel
theorem dX6_judge_59 : decode cX6_judge 59 = .ok (.aload_n 0, 1) := by decide +kernel
theorem dX6_judge_60 : decode cX6_judge 60 = .ok (.getfield 57, 3) := by decide +kernel
theorem dX6_judge_63 : decode cX6_judge 63 = .ok (.aload_n 0, 1) := by decide +kernel
theorem dX6_judge_64 : decode cX6_judge 64 = .ok (.getfield 25, 3) := by decide +kernel
theorem dX6_judge_67 : decode cX6_judge 67 = .ok (.iload_n 1, 1) := by decide +kernel
theorem dX6_judge_68 : decode cX6_judge 68 = .ok (.aaload, 1) := by decide +kernel
theorem dX6_judge_69 : decode cX6_judge 69 = .ok (.getfield 163, 3) := by decide +kernel
theorem dX6_judge_72 : decode cX6_judge 72 = .ok (.invokevirtual 180, 3) := by decide +kernel
theorem dX6_judge_75 : decode cX6_judge 75 = .ok (.aload 4, 2) := by decide +kernel
theorem dX6_judge_77 : decode cX6_judge 77 = .ok (.iload 5, 2) := by decide +kernel
theorem dX6_judge_79 : decode cX6_judge 79 = .ok (.invokevirtual 231, 3) := by decide +kernel
theorem dX6_judge_82 : decode cX6_judge 82 = .ok (.ifCond .eq 23, 3) := by decide +kernel
theorem dX6_judge_85 : decode cX6_judge 85 = .ok (.aload 4, 2) := by decide +kernel
theorem dX6_judge_87 : decode cX6_judge 87 = .ok (.iload 5, 2) := by decide +kernel
theorem dX6_judge_89 : decode cX6_judge 89 = .ok (.invokevirtual 234, 3) := by decide +kernel
theorem dX6_judge_92 : decode cX6_judge 92 = .ok (.aload_n 0, 1) := by decide +kernel
theorem dX6_judge_93 : decode cX6_judge 93 = .ok (.getfield 57, 3) := by decide +kernel
theorem dX6_judge_96 : decode cX6_judge 96 = .ok (.getfield 187, 3) := by decide +kernel
theorem dX6_judge_99 : decode cX6_judge 99 = .ok (.if_icmp .eq 6, 3) := by decide +kernel
theorem dX6_judge_105 : decode cX6_judge 105 = .ok (.iinc 5 1, 3) := by decide +kernel
theorem dX6_judge_108 : decode cX6_judge 108 = .ok (.goto (-70), 3) := by decide +kernel
theorem dX6_judge_102 : decode cX6_judge 102 = .ok (.iload 5, 2) := by decide +kernel
theorem dX6_judge_104 : decode cX6_judge 104 = .ok (.ireturn, 1) := by decide +kernel
theorem dX6_judge_18 : decode cX6_judge 18 = .ok (.iload_n 3, 1) := by decide +kernel
theorem dX6_judge_19 : decode cX6_judge 19 = .ok (.ireturn, 1) := by decide +kernel
set_option maxRecDepth 100000 in
theorem c_X6_judge (l : Launch) (D : va_G) (cy : Nat → Nat) (n : Nat) (ad : Nat → Nat) (F : Nat → va_E) (sz : Nat) (pic : Int32) (sc ps : Scn) (sh : Nat → Shf) (rd : Rdr) (dr : Stg) (fa : Tal) (mi : Crs) (hn : 56 ≤ n) (hX : RX ad cy F pic sc ps sh rd dr fa mi) (hG : gX sc ps sh) (d e0 : Int32) : Met l yX6_judge (zw yX6_judge cX6_judge 6 (some .int)) (rmL 4) (zPc D cy n ad F sz [.ref (ad 0), .int d, .int e0]) (va_Qi (fun r F1 => r = zr True (sFirst (sStR sh d) (sRowR sh e0)) (sJudge (sh (iN d)).2.1 sc (sh (iN e0))) ∧ ∃ mi1, RX ad cy F1 pic sc ps sh rd dr fa mi1 ∧ fr56 F F1) (zB D n ad) (zA n ad sz)) 0 0 (zA n ad sz) := by
  refine zmet (by decide +kernel) (Nat.le_of_ble_eq_true rfl) (fun p e s m args below meth c ls hC hsz hZ hA hr hlocks hnm hl => ?_)
  have hC : zC p m c cX6_judge 6 s args RX6 D cy := hC
  have hx := hC.1.1
  have hb := hC.1.2.1
  have hl : lv_has ls 6 [(0, .ref (ad 0)), (1, .int d), (2, .int e0)] := hl
  refine lv_aload_n hx hb dX6_judge_0 rfl (lv_at hl 0 rfl) ?_
  refine lv_iload_n hx hb dX6_judge_1 rfl (lv_at hl 1 rfl) ?_
  refine zgoi hZ hA (zrunV (As := [.int d]) (rest := []) (k := 0) hC hZ (c_X6_storyRefusal l D cy n ad F s.heap.size pic sc ps sh rd dr fa mi hn hX d) mX6_storyRefusal vX6_storyRefusal kX6_160 (zRj_of rfl) (zlt hn rfl) hX.1 rfl rfl hl.1 rfl (Nat.le_of_ble_eq_true rfl) dX6_judge_2 ⟨Nat.le_refl _, Nat.le_refl _⟩) (fun r_2 F_1 hp_3 H locs hZ => ?_)
  obtain ⟨rfl, rfl⟩ := hp_3
  refine lv_aload_n hx hb dX6_judge_5 rfl (lv_at hl 0 rfl) ?_
  refine lv_iload_n hx hb dX6_judge_6 rfl (lv_at hl 2 rfl) ?_
  refine zgoi hZ hA (zrunV (As := [.int e0]) (rest := [.int (sStR sh d)]) (k := 0) hC hZ (c_X6_rowRefusal l D cy n ad F H.size pic sc ps sh rd dr fa mi hn hX e0) mX6_rowRefusal vX6_rowRefusal kX6_119 (zRj_of rfl) (zlt hn rfl) hX.1 rfl rfl hl.1 rfl (Nat.le_of_ble_eq_true rfl) dX6_judge_7 ⟨Nat.le_refl _, Nat.le_refl _⟩) (fun r_5 F_4 hp_6 H locs hZ => ?_)
  obtain ⟨rfl, rfl⟩ := hp_6
  refine zgoi hZ hA (zrunS (As := [.int (sStR sh d), .int (sRowR sh e0)]) (rest := []) hC hZ (c_X6_firstRefusal l D cy n ad F H.size (sStR sh d) (sRowR sh e0)) mX6_firstRefusal sX6_firstRefusal kX6_207 (zRj_of rfl) rfl hl.1 rfl (Nat.le_of_ble_eq_true rfl) dX6_judge_10 ⟨Nat.le_refl _, Nat.le_refl _⟩) (fun r_8 F_7 hp_9 H locs hZ => ?_)
  obtain ⟨rfl, rfl⟩ := hp_9
  refine lv_istore_n (lv' := [(3, .int (sFirst (sStR sh d) (sRowR sh e0))), (0, .ref (ad 0)), (1, .int d), (2, .int e0)]) hx hb dX6_judge_13 rfl hl (by decide) rfl (fun ls hl => ?_)
  refine lv_iload_n hx hb dX6_judge_14 rfl (lv_at hl 0 rfl) ?_
  refine lv_if_eq (tgt := 20) hx hb dX6_judge_15 (by decide) (fun c_15 => ?_) (fun c_15 => ?_)
  · refine lv_aload_n hx hb dX6_judge_20 rfl (lv_at hl 1 rfl) ?_
    refine zget hC hZ fX6_57 (zlt hn rfl) hX.1 rfl dX6_judge_21 ?_
    refine zgov hZ hA (zrunV (As := []) (rest := []) (k := 55) hC hZ (c_X0_clear l D cy n ad F H.size 55 mi (zlt hn rfl) hX.2.2.2.2.2.2.2.2.2) mX0_clear vX0_clear kX6_184 (zRj_of rfl) (zlt hn rfl) hX.2.2.2.2.2.2.2.2.2 rfl rfl hl.1 rfl (Nat.le_of_ble_eq_true rfl) dX6_judge_24 ⟨Nat.le_refl _, Nat.le_refl _⟩) (fun F_10 hp_12 H locs hZ => ?_)
    have hX_13 := rx_mind hX hp_12
    have hf_14 := fr56_up fr56_rf hp_12 (by decide)
    have hX_13 : RX ad cy F_10 pic sc ps sh rd dr fa (0, 0, 0, 0, 0) := hX_13
    refine lv_aload_n hx hb dX6_judge_27 rfl (lv_at hl 1 rfl) ?_
    refine zget hC hZ fX6_25 (zlt hn rfl) hX_13.1 rfl dX6_judge_28 ?_
    refine lv_iload_n hx hb dX6_judge_31 rfl (lv_at hl 3 rfl) ?_
    have hz := sFirst_0 (sStR_le sh d) (sRowR_le sh e0) c_15
    have hsd := sStR_0 hz.1
    have hse := sRowR_0 hz.2
    refine zaald hC hZ (zlt hn rfl) hX_13.2.2.2.1 (C := RX4) rfl hse.1.1 hse.1.2 (by decide) rfl dX6_judge_32 ?_
    refine lv_astore (lv' := [(4, .ref (ad (26 + 3 * (iN e0)))), (3, .int (sFirst (sStR sh d) (sRowR sh e0))), (0, .ref (ad 0)), (1, .int d), (2, .int e0)]) hx hb dX6_judge_33 hl (by decide) rfl (fun ls hl => ?_)
    refine lv_iconst (v := 0) hx hb dX6_judge_35 (by decide) ?_
    refine lv_istore (lv' := [(5, .int 0), (4, .ref (ad (26 + 3 * (iN e0)))), (3, .int (sFirst (sStR sh d) (sRowR sh e0))), (0, .ref (ad 0)), (1, .int d), (2, .int e0)]) hx hb dX6_judge_36 hl (by decide) rfl (fun ls hl => ?_)
    have hge := hG.2.2 _ hse.1.2
    have hz0 := iN_b (N := 100) hge.2.1 hge.2.2.1
    refine zlp (X := Nat) 38 (fun _ => []) (fun x ls F1 => lv_has ls 6 [(5, .int (nI x)), (4, .ref (ad (26 + 3 * (iN e0)))), (3, .int (sFirst (sStR sh d) (sRowR sh e0))), (0, .ref (ad 0)), (1, .int d), (2, .int e0)] ∧ RX ad cy F1 pic sc ps sh rd dr fa (sIt (sF (sh (iN d)).2.1 sc) x sCC) ∧ fr56 F F1 ∧ x ≤ iN (sh (iN e0)).2.2.2.1 ∧ zfind (sJudP (sh (iN d)).2.1 sc (sh (iN e0))) (iN (sh (iN e0)).2.2.2.1 - x) x = sJudge (sh (iN d)).2.1 sc (sh (iN e0))) (fun x => iN (sh (iN e0)).2.2.2.1 - x) ?_ 0 hZ ⟨hl, hX_13, hf_14, (Nat.zero_le _), rfl⟩
    intro j ih38 ls F3_38 H locs hZ hφ
    obtain ⟨hl, hXl, hfl38, hj, hT⟩ := hφ
    have hl : lv_has ls 6 [(5, .int (nI j)), (4, .ref (ad (26 + 3 * (iN e0)))), (3, .int (sFirst (sStR sh d) (sRowR sh e0))), (0, .ref (ad 0)), (1, .int d), (2, .int e0)] := hl
    have hX38 : RX ad cy F3_38 pic sc ps sh rd dr fa (sIt (sF (sh (iN d)).2.1 sc) j sCC) := hXl
    have hj : j ≤ iN (sh (iN e0)).2.2.2.1 := hj
    have hT : zfind (sJudP (sh (iN d)).2.1 sc (sh (iN e0))) (iN (sh (iN e0)).2.2.2.1 - j) j = sJudge (sh (iN d)).2.1 sc (sh (iN e0)) := hT
    refine lv_iload hx hb dX6_judge_38 (lv_at hl 0 rfl) ?_
    refine lv_aload hx hb dX6_judge_40 (lv_at hl 1 rfl) ?_
    refine zget hC hZ fX6_228 (by have := hse.1.2; omega) (hX38.2.2.2.2.1 (iN e0) hse.1.2).1 rfl dX6_judge_42 ?_
    refine lv_icmp_ge (tgt := 111) hx hb dX6_judge_45 (by decide) (fun c_45 => ?_) (fun c_45 => ?_)
    · refine lv_bipush (v := (-4)) hx hb dX6_judge_111 (by decide) ?_
      have hjz : j = iN (sh (iN e0)).2.2.2.1 := zge hz0.1 (by omega) hj c_45
      have hv_16 : (-4 : Int32) = sJudge (sh (iN d)).2.1 sc (sh (iN e0)) := by rw [← hT, hjz, Nat.sub_self]; rfl
      have hq_15 : (-4 : Int32) = zr (True) ((sFirst (sStR sh d) (sRowR sh e0))) (sJudge (sh (iN d)).2.1 sc (sh (iN e0))) := hv_16.trans (zr_ok trivial c_15).symm
      exact zireti hC hZ hr hlocks ⟨hq_15, (sIt (sF (sh (iN d)).2.1 sc) j sCC), hX38, hfl38⟩ dX6_judge_113
    · refine lv_iload hx hb dX6_judge_48 (lv_at hl 0 rfl) ?_
      refine lv_bipush (v := 100) hx hb dX6_judge_50 (by decide) ?_
      have hlt0 := zlt2 hz0.1 (by omega) c_45
      refine lv_icmp_ge (tgt := 111) hx hb dX6_judge_52 (by decide) (fun h => absurd h (by rw [Int32.not_le]; exact nI_lt (a := j) (b := 100) (by omega) (by omega))) (fun _ => ?_)
      refine lv_aload_n hx hb dX6_judge_55 rfl (lv_at hl 3 rfl) ?_
      refine zget hC hZ fX6_10 (zlt hn rfl) hX38.1 rfl dX6_judge_56 ?_
      refine lv_aload_n hx hb dX6_judge_59 rfl (lv_at hl 3 rfl) ?_
      refine zget hC hZ fX6_57 (zlt hn rfl) hX38.1 rfl dX6_judge_60 ?_
      refine lv_aload_n hx hb dX6_judge_63 rfl (lv_at hl 3 rfl) ?_
      refine zget hC hZ fX6_25 (zlt hn rfl) hX38.1 rfl dX6_judge_64 ?_
      refine lv_iload_n hx hb dX6_judge_67 rfl (lv_at hl 4 rfl) ?_
      refine zaald hC hZ (zlt hn rfl) hX38.2.2.2.1 (C := RX4) rfl hsd.1.1 hsd.1.2 (by decide) rfl dX6_judge_68 ?_
      refine zget hC hZ fX6_163 (by have := hsd.1.2; omega) (hX38.2.2.2.2.1 (iN d) hsd.1.2).1 rfl dX6_judge_69 ?_
      refine zgov hZ hA (zrunV (As := [.ref (ad 55), .ref (ad (26 + 3 * (iN d) + 1))]) (rest := []) (k := 1) hC hZ (c_X2_step l D cy n ad F3_38 H.size 1 sc (by omega) hX38.2.1 55 (sIt (sF (sh (iN d)).2.1 sc) j sCC) (zlt hn rfl) hX38.2.2.2.2.2.2.2.2.2 (26 + 3 * (iN d) + 1) (sh (iN d)).2.1 (by have := hsd.1.2; omega) (hX38.2.2.2.2.1 (iN d) hsd.1.2).2.1) mX2_step vX2_step kX6_180 (zRj_of rfl) (zlt hn rfl) hX38.2.1.1 rfl rfl hl.1 rfl (Nat.le_of_ble_eq_true rfl) dX6_judge_72 ⟨Nat.le_refl _, Nat.le_refl _⟩) (fun F_17 hp_19 H locs hZ => ?_)
      have hX_20 := rx_mind hX38 hp_19
      have hf_21 := fr56_up hfl38 hp_19 (by decide)
      have hX_20 : RX ad cy F_17 pic sc ps sh rd dr fa (sStep (sKick (sh (iN d)).2.1 sc.1) (sLess (sh (iN d)).2.1 sc.1) sc.1.2.2.2 sc.2.1 (sIt (sF (sh (iN d)).2.1 sc) j sCC)) := hX_20
      refine lv_aload hx hb dX6_judge_75 (lv_at hl 1 rfl) ?_
      refine lv_iload hx hb dX6_judge_77 (lv_at hl 0 rfl) ?_
      refine zgoi hZ hA (zrunV (As := [.int (nI j)]) (rest := []) (k := 26 + 3 * (iN e0)) hC hZ (c_X4_tells l D cy n ad F_17 H.size (26 + 3 * (iN e0)) (sh (iN e0)) (by have := hse.1.2; omega) (hX_20.2.2.2.2.1 (iN e0) hse.1.2) (nI j)) mX4_tells vX4_tells kX6_231 (zRj_of rfl) (by have := hse.1.2; omega) (hX_20.2.2.2.2.1 (iN e0) hse.1.2).1 rfl rfl hl.1 rfl (Nat.le_of_ble_eq_true rfl) dX6_judge_79 ⟨Nat.le_refl _, Nat.le_refl _⟩) (fun r_23 F_22 hp_24 H locs hZ => ?_)
      obtain ⟨hp_24, rfl⟩ := hp_24
      by_cases b_25 : bTells (sh (iN e0)).2.2.1 (sh (iN e0)).2.2.2.1 (sh (iN e0)).2.2.2.2 (nI j)
      · rw [if_pos b_25] at hp_24
        subst hp_24
        refine lv_if_eq (tgt := 105) hx hb dX6_judge_82 (by decide) (fun h => absurd h (by decide)) (fun _ => ?_)
        refine lv_aload hx hb dX6_judge_85 (lv_at hl 1 rfl) ?_
        refine lv_iload hx hb dX6_judge_87 (lv_at hl 0 rfl) ?_
        refine zgoi hZ hA (zrunV (As := [.int (nI j)]) (rest := []) (k := 26 + 3 * (iN e0)) hC hZ (c_X4_at l D cy n ad F_17 H.size (26 + 3 * (iN e0)) (sh (iN e0)) (by have := hse.1.2; omega) (hX_20.2.2.2.2.1 (iN e0) hse.1.2) (nI j)) mX4_at vX4_at kX6_234 (zRj_of rfl) (by have := hse.1.2; omega) (hX_20.2.2.2.2.1 (iN e0) hse.1.2).1 rfl rfl hl.1 rfl (Nat.le_of_ble_eq_true rfl) dX6_judge_89 ⟨Nat.le_refl _, Nat.le_refl _⟩) (fun r_27 F_26 hp_28 H locs hZ => ?_)
        obtain ⟨rfl, rfl⟩ := hp_28
        refine lv_aload_n hx hb dX6_judge_92 rfl (lv_at hl 3 rfl) ?_
        refine zget hC hZ fX6_57 (zlt hn rfl) hX_20.1 rfl dX6_judge_93 ?_
        refine zget hC hZ fX6_187 (zlt hn rfl) hX_20.2.2.2.2.2.2.2.2.2 rfl dX6_judge_96 ?_
        refine lv_icmp_eq (tgt := 105) hx hb dX6_judge_99 (by decide) (fun c_99 => ?_) (fun c_99 => ?_)
        · refine lv_iinc (v := nI (j + 1)) (lv' := [(5, .int (nI (j + 1))), (4, .ref (ad (26 + 3 * (iN e0)))), (3, .int (sFirst (sStR sh d) (sRowR sh e0))), (0, .ref (ad 0)), (1, .int d), (2, .int e0)]) hx hb dX6_judge_105 hl (k := 0) rfl (nI_1 j) (by decide) rfl (fun ls hl => ?_)
          refine lv_goto (tgt := 38) hx hb dX6_judge_108 (by decide) ?_
          have hlt := zlt2 hz0.1 (by omega) c_45
          have hnx := zfind_next (P := sJudP (sh (iN d)).2.1 sc (sh (iN e0))) (f := iN (sh (iN e0)).2.2.2.1 - (j + 1)) (g := iN (sh (iN e0)).2.2.2.1 - j) (i := j) (by omega) (fun h => (of_decide_eq_true h).2 c_99)
          exact ih38 (j + 1) ls _ H locs (by show iN (sh (iN e0)).2.2.2.1 - (j + 1) < iN (sh (iN e0)).2.2.2.1 - j; omega) hZ ⟨hl, hX_20, hf_21, hlt, (hnx.symm.trans hT)⟩
        · refine lv_iload hx hb dX6_judge_102 (lv_at hl 0 rfl) ?_
          have hlt := zlt2 hz0.1 (by omega) c_45
          have hv_30 : nI j = sJudge (sh (iN d)).2.1 sc (sh (iN e0)) := by rw [← hT]; exact (zfind_hit (f := iN (sh (iN e0)).2.2.2.1 - (j + 1)) (by omega) (decide_eq_true ⟨b_25, c_99⟩)).symm
          have hq_29 : nI j = zr (True) ((sFirst (sStR sh d) (sRowR sh e0))) (sJudge (sh (iN d)).2.1 sc (sh (iN e0))) := hv_30.trans (zr_ok trivial c_15).symm
          exact zireti hC hZ hr hlocks ⟨hq_29, (sStep (sKick (sh (iN d)).2.1 sc.1) (sLess (sh (iN d)).2.1 sc.1) sc.1.2.2.2 sc.2.1 (sIt (sF (sh (iN d)).2.1 sc) j sCC)), hX_20, hf_21⟩ dX6_judge_104
      · rw [if_neg b_25] at hp_24
        subst hp_24
        refine lv_if_eq (tgt := 105) hx hb dX6_judge_82 (by decide) (fun _ => ?_) (fun h => absurd (by decide) h)
        refine lv_iinc (v := nI (j + 1)) (lv' := [(5, .int (nI (j + 1))), (4, .ref (ad (26 + 3 * (iN e0)))), (3, .int (sFirst (sStR sh d) (sRowR sh e0))), (0, .ref (ad 0)), (1, .int d), (2, .int e0)]) hx hb dX6_judge_105 hl (k := 0) rfl (nI_1 j) (by decide) rfl (fun ls hl => ?_)
        refine lv_goto (tgt := 38) hx hb dX6_judge_108 (by decide) ?_
        have hlt := zlt2 hz0.1 (by omega) c_45
        have hnx := zfind_next (P := sJudP (sh (iN d)).2.1 sc (sh (iN e0))) (f := iN (sh (iN e0)).2.2.2.1 - (j + 1)) (g := iN (sh (iN e0)).2.2.2.1 - j) (i := j) (by omega) (fun h => b_25 (of_decide_eq_true h).1)
        exact ih38 (j + 1) ls _ H locs (by show iN (sh (iN e0)).2.2.2.1 - (j + 1) < iN (sh (iN e0)).2.2.2.1 - j; omega) hZ ⟨hl, hX_20, hf_21, hlt, (hnx.symm.trans hT)⟩
  · refine lv_iload_n hx hb dX6_judge_18 rfl (lv_at hl 0 rfl) ?_
    have hq_31 : (sFirst (sStR sh d) (sRowR sh e0)) = zr (True) ((sFirst (sStR sh d) (sRowR sh e0))) (sJudge (sh (iN d)).2.1 sc (sh (iN e0))) := (zr_rf trivial c_15).symm
    exact zireti hC hZ hr hlocks ⟨hq_31, mi, hX, fr56_rf⟩ dX6_judge_19
end
section
/-! ===== reading goes forward ===== -/
def PR (ch : Int32 → Int32) (Z : Int) : Prop := Z ≤ 100 ∧ ∀ a, 0 ≤ (ch a).toInt → 0 ≤ a.toInt ∧ a.toInt < Z
def Gq (Z : Int) (q : Int32 × Int32) : Prop := 0 ≤ q.1.toInt ∧ q.1.toInt ≤ Z
def Adv (Z : Int) (k : Int) (q q' : Int32 × Int32) : Prop := Gq Z q' ∧ (q'.2 = 0 → q.2 = 0 ∧ q.1.toInt + k ≤ q'.1.toInt)
theorem Adv.tr {Z j k : Int} {q q' q'' : Int32 × Int32} (h1 : Adv Z j q q') (h2 : Adv Z k q' q'') : Adv Z (j + k) q q'' :=
  ⟨h2.1, fun h => by have a := h2.2 h; have b := h1.2 a.1; exact ⟨b.1, by omega⟩⟩
theorem Adv.rf {Z : Int} {q : Int32 × Int32} (h : Gq Z q) : Adv Z 0 q q := ⟨h, fun h => ⟨h, by omega⟩⟩
section ADV
variable {ch : Int32 → Int32} {Z : Int} {g v : Int32} {q : Int32 × Int32} {u : Int32 × Int32 × Int32}
theorem adv_in (hP : PR ch Z) {a : Int32} (h : 0 ≤ (ch a).toInt) : (a + 1).toInt = a.toInt + 1 ∧ 0 ≤ a.toInt ∧ a.toInt + 1 ≤ Z := by
  have h1 := hP.2 a h
  have h2 := hP.1
  exact ⟨zadd (by simp; omega) (by simp; omega), h1.1, by omega⟩
theorem adv_acc (hP : PR ch Z) (hg : 0 ≤ g.toInt) (hq : Gq Z q) (h : bAcc ch g q) : Adv Z 1 q (q.1 + 1, q.2) := by
  have h1 := adv_in hP (a := q.1) (by rw [h.2]; exact hg)
  have h2 := h1.2
  exact ⟨⟨by show 0 ≤ (q.1 + 1).toInt; omega, by show (q.1 + 1).toInt ≤ Z; omega⟩, fun h3 => ⟨h3, by show _ ≤ (q.1 + 1).toInt; omega⟩⟩
theorem adv_dig (hP : PR ch Z) (h : bDig ch q.1) : Adv Z 1 q (q.1 + 1, q.2) := by
  have h0 := i32le.mp h.1
  have e : (48 : Int32).toInt = 48 := rfl
  have h1 := adv_in hP (a := q.1) (by omega)
  have h2 := h1.2
  exact ⟨⟨by show 0 ≤ (q.1 + 1).toInt; omega, by show (q.1 + 1).toInt ≤ Z; omega⟩, fun h3 => ⟨h3, by show _ ≤ (q.1 + 1).toInt; omega⟩⟩
theorem adv_broken {k : Int} (hq : Gq Z q) : Adv Z k q (q.1, 1) := ⟨hq, fun h => absurd (show (1 : Int32) = 0 from h) (by decide)⟩
theorem adv_sAcc (hP : PR ch Z) (hg : 0 ≤ g.toInt) (hq : Gq Z q) : Adv Z 0 q (sAcc ch g q) := by
  by_cases h : bAcc ch g q
  · rw [sAcc_pos h]; have a := adv_acc hP hg hq h; exact ⟨a.1, fun h3 => ⟨(a.2 h3).1, by have := (a.2 h3).2; omega⟩⟩
  · rw [sAcc_neg h]; exact Adv.rf hq
theorem adv_sNeed (hP : PR ch Z) (hg : 0 ≤ g.toInt) (hq : Gq Z q) : Adv Z 1 q (sNeed ch g q) := by
  by_cases h : bAcc ch g q
  · rw [sNeed_pos h, sAcc_pos h]; exact adv_acc hP hg hq h
  · rw [sNeed_neg h]; exact adv_broken hq
theorem adv_sDig (hP : PR ch Z) (hq : Gq Z q) : Adv Z 1 q (sDig ch q).2 := by
  by_cases h : q.2 = 0 ∧ bDig ch q.1
  · rw [sDig_pos h.1 h.2]; exact adv_dig hP h.2
  · rw [sDig_neg h]; exact adv_broken hq
theorem adv_sMore (hP : PR ch Z) (hq : Gq Z u.2) : Adv Z 0 u.2 (sMore ch u).2 := by
  by_cases h : u.2.2 = 0 ∧ 0 < u.1 ∧ bDig ch u.2.1
  · rw [sMore_pos h.1 h.2.1 h.2.2]
    have a := adv_sDig (q := u.2) hP hq
    exact ⟨a.1, fun h3 => ⟨(a.2 h3).1, by have := (a.2 h3).2; show _ ≤ (sDig ch u.2).2.1.toInt; omega⟩⟩
  · rw [sMore_neg h]; exact Adv.rf hq
theorem adv_sNum (hP : PR ch Z) (hq : Gq Z q) : Adv Z 1 q (sNum ch q).2 := by
  unfold sNum
  have a := adv_sDig (q := q) hP hq
  have b := adv_sMore (u := sDig ch q) hP a.1
  have c := adv_sMore (u := sMore ch (sDig ch q)) hP b.1
  exact (a.tr b).tr c
theorem adv_sOpt {b : Bool} (hP : PR ch Z) (hg : 0 ≤ g.toInt) (hq : Gq Z q) : Adv Z 0 q (sOpt ch g b v q).2 := by
  by_cases h : bAcc ch g q
  · have a := adv_sAcc (q := q) hP hg hq
    cases b
    · rw [sOpt_posD h]
      have c := adv_sDig (q := sAcc ch g q) hP a.1
      have d := a.tr c
      exact ⟨d.1, fun h3 => ⟨(d.2 h3).1, by have := (d.2 h3).2; omega⟩⟩
    · rw [sOpt_posN h]
      have c := adv_sNum (q := sAcc ch g q) hP a.1
      have d := a.tr c
      exact ⟨d.1, fun h3 => ⟨(d.2 h3).1, by have := (d.2 h3).2; omega⟩⟩
  · rw [sOpt_neg h]; exact Adv.rf hq
theorem adv_sStm {t : Stg} (hP : PR ch Z) (hq : Gq Z q) : Adv Z 3 q (sStm ch t q).2 := by
  have a := adv_sNeed (g := 114) (q := q) hP (by decide) hq
  have b := adv_sNum (q := sNeed ch 114 q) hP a.1
  have c := adv_sOpt (g := 98) (b := true) (v := t.2.1) (q := (sNum ch (sNeed ch 114 q)).2) hP (by decide) b.1
  have d := adv_sOpt (g := 108) (b := false) (v := t.2.2.1) hP (by decide) c.1
  have f := adv_sOpt (g := 100) (b := true) (v := t.2.2.2) hP (by decide) d.1
  have h := adv_sNeed (g := 59) hP (by decide) f.1
  have z := ((((a.tr b).tr c).tr d).tr f).tr h
  unfold sStm
  dsimp only
  exact ⟨z.1, fun h3 => ⟨(z.2 h3).1, by have := (z.2 h3).2; omega⟩⟩
end ADV
/-- place and broken behind j STATEMENTS; the j-th setting -/
def sU (ch : Int32 → Int32) (t : Stg) : Nat → Int32 × Int32
  | 0 => (0, 0)
  | j + 1 => (sStm ch t (sU ch t j)).2
def sTS (ch : Int32 → Int32) (t : Stg) (j : Nat) : Stg := (sStm ch t (sU ch t j)).1
theorem sU_G {ch : Int32 → Int32} {Z : Int} {t : Stg} (hZ : 0 ≤ Z) (hP : PR ch Z) : ∀ j, Gq Z (sU ch t j) ∧ ((sU ch t j).2 = 0 → 3 * (j : Int) ≤ (sU ch t j).1.toInt)
  | 0 => ⟨⟨by show (0 : Int) ≤ (0 : Int32).toInt; decide, by show (0 : Int32).toInt ≤ Z; exact hZ⟩, fun _ => by show 3 * ((0 : Nat) : Int) ≤ (0 : Int32).toInt; decide⟩
  | j + 1 => by
    have ih := sU_G (t := t) hZ hP j
    have a := adv_sStm (t := t) hP ih.1
    refine ⟨a.1, fun h => ?_⟩
    have b := a.2 h
    have c := ih.2 b.1
    have d := b.2
    show 3 * ((j + 1 : Nat) : Int) ≤ (sStm ch t (sU ch t j)).2.1.toInt
    omega
theorem sU_ok {ch : Int32 → Int32} {Z : Int} {t : Stg} (hZ : 0 ≤ Z) (hP : PR ch Z) {j : Nat} (h : (sU ch t (j + 1)).2 = 0) : (sU ch t j).2 = 0 := ((adv_sStm (t := t) hP (sU_G hZ hP j).1).2 h).1
/-- how many STATEMENTS are read -/
def Stop (ch : Int32 → Int32) (t : Stg) (z : Int32) (N : Nat) : Prop := 1 ≤ N ∧ (∀ i, 1 ≤ i → i < N → (sU ch t i).2 = 0 ∧ (sU ch t i).1 < z) ∧ (¬ (sU ch t N).2 = 0 ∨ z ≤ (sU ch t N).1)
theorem Stop_uniq {ch : Int32 → Int32} {t : Stg} {z : Int32} {N M : Nat} (h : Stop ch t z N) (h' : Stop ch t z M) : N = M := by
  have key : ∀ {N M : Nat}, Stop ch t z N → Stop ch t z M → ¬ N < M := by
    intro N M h h' hl
    have a := h'.2.1 N h.1 hl
    rcases h.2.2 with b | b
    · exact b a.1
    · exact absurd a.2 (Int32.not_lt.mpr b)
  have a := key h h'
  have b := key h' h
  omega
abbrev bOk (ch : Int32 → Int32) (t : Stg) (tc : Int32) (i : Nat) : Prop := bTold (sTS ch t i) ∧ 0 ≤ tc + nI i ∧ tc + nI i < 8
/-- the first that isn't as told (f, if all are) -/
def zfb (P : Nat → Prop) [DecidablePred P] : Nat → Nat → Nat
  | 0, i => i
  | f + 1, i => if P i then zfb P f (i + 1) else i
theorem zfb_all {P : Nat → Prop} [DecidablePred P] : ∀ (f i : Nat), (∀ j, i ≤ j → j < i + f → P j) → zfb P f i = i + f
  | 0, i, _ => rfl
  | f + 1, i, h => by
    show (if P i then zfb P f (i + 1) else i) = _
    rw [if_pos (h i (Nat.le_refl i) (by omega)), zfb_all f (i + 1) (fun j h1 h2 => h j (by omega) (by omega))]
    omega
theorem zfb_at {P : Nat → Prop} [DecidablePred P] : ∀ (f i k : Nat), i ≤ k → k < i + f → (∀ j, i ≤ j → j < k → P j) → ¬ P k → zfb P f i = k
  | 0, i, k, h1, h2, _, _ => absurd h2 (by omega)
  | f + 1, i, k, h1, h2, h3, h4 => by
    show (if P i then zfb P f (i + 1) else i) = _
    by_cases e : i = k
    · subst e; rw [if_neg h4]
    · rw [if_pos (h3 i (Nat.le_refl i) (by omega))]
      exact zfb_at f (i + 1) k (by omega) (by omega) (fun j h5 h6 => h3 j (by omega) h6) h4
def sTRes (ch : Int32 → Int32) (t : Stg) (tc : Int32) (N : Nat) : Int32 :=
  if (sU ch t N).2 = 0 then (if zfb (bOk ch t tc) N 0 = N then nI N else -2000 - (sU ch t (zfb (bOk ch t tc) N 0)).1) else -1000 - (sU ch t N).1
abbrev bTGood (ch : Int32 → Int32) (t : Stg) (tc : Int32) (N : Nat) : Prop := (sU ch t N).2 = 0 ∧ zfb (bOk ch t tc) N 0 = N
theorem sNext_PR {f : Nat → Int32} {zn : Nat} (hz : zn ≤ 100) : PR (sNext f (nI zn)) (zn : Int) := by
  refine ⟨by omega, fun a h => ?_⟩
  unfold sNext at h
  by_cases c : 0 ≤ a ∧ a < nI zn ∧ a < 100
  · have h1 := i32le.mp c.1
    have h2 := i32lt.mp c.2.1
    rw [nI_toInt (by omega)] at h2
    exact ⟨h1, h2⟩
  · rw [if_neg c] at h
    exact absurd h (by decide)
theorem sNext_zcop {el g : Nat → Int32} {zn : Nat} (hz : zn ≤ 100) : sNext (zcop el g zn) (nI zn) = sNext el (nI zn) := by
  funext a
  unfold sNext
  by_cases c : 0 ≤ a ∧ a < nI zn ∧ a < 100
  · rw [if_pos c, if_pos c]
    have h1 := i32le.mp c.1
    have h2 := i32lt.mp c.2.1
    rw [nI_toInt (by omega)] at h2
    have h3 := (iN_e (i := a) h1).2
    have h4 : iN a < zn := by omega
    simp [zcop, h4]
  · rw [if_neg c, if_neg c]
theorem gS_of {b : Stg} (h : bTold b) : gS b := by
  obtain ⟨⟨h1, h2⟩, ⟨h3, h4⟩, ⟨h5, h6⟩, ⟨h7, h8⟩⟩ := h
  have a1 := i32le.mp h1
  have a2 := i32le.mp h2
  have a3 := i32le.mp h3
  have a4 := i32le.mp h4
  have a5 := i32le.mp h5
  have a6 := i32le.mp h6
  have a7 := i32le.mp h7
  have a8 := i32le.mp h8
  exact ⟨a1, a2, a3, a4, a5, a6, a7, a8⟩
section RXR
variable {ad cy : Nat → Nat} {F F1 : Nat → va_E} {pic : Int32} {sc ps : Scn} {sh : Nat → Shf} {rd : Rdr} {dr : Stg} {fa : Tal} {mi : Crs}
theorem rx_open {z : Int32} {f : Nat → Int32} (h : RX ad cy F pic sc ps sh rd dr fa mi) (hp : F1 50 = oReader ad 50 z 0 0 ∧ F1 (50 + 1) = oInts cy 100 f ∧ ∀ q, ¬ (50 ≤ q ∧ q < 50 + 2) → F1 q = F q) : RX ad cy F1 pic sc ps sh (f, z, 0, 0) dr fa mi :=
  rx_reader (rd' := (f, z, 0, 0)) h ⟨hp.1, hp.2.1⟩ hp.2.2
theorem rx_stm {u : Int32 × Int32} {t : Stg} (h : RX ad cy F pic sc ps sh rd dr fa mi) (hp : F1 50 = oReader ad 50 rd.2.1 u.1 u.2 ∧ F1 52 = oSetting t ∧ ∀ p, p ≠ 50 → p ≠ 52 → F1 p = F p) : RX ad cy F1 pic sc ps sh (rd.1, rd.2.1, u.1, u.2) t fa mi := by
  obtain ⟨h1, h2, h3, h4, h5, h6, h7, h8, h9, h10⟩ := h
  obtain ⟨p1, p2, p3⟩ := hp
  exact ⟨(p3 _ (by omega) (by omega)).trans h1, RS_fr h2 (fun q _ _ => p3 q (by omega) (by omega)), RS_fr h3 (fun q _ _ => p3 q (by omega) (by omega)), (p3 _ (by omega) (by omega)).trans h4, fun i hi => RSh_fr (h5 i hi) (fun q _ _ => p3 q (by omega) (by omega)), ⟨p1, (p3 _ (by omega) (by omega)).trans h6.2⟩, p2, (p3 _ (by omega) (by omega)).trans h8, (p3 _ (by omega) (by omega)).trans h9, (p3 _ (by omega) (by omega)).trans h10⟩
end RXR
end
section
def TI (ch : Int32 → Int32) (t : Stg) (tc : Int32) (tr0 : Nat → Stg) (j : Nat) (wv : Int32) (tr1 : Nat → Stg) : Prop :=
  ((wv = -1 ∧ ∀ i, i < j → bOk ch t tc i) ∨ (∃ k, k < j ∧ (∀ i, i < k → bOk ch t tc i) ∧ ¬ bOk ch t tc k ∧ wv = (sU ch t k).1)) ∧ (∀ i, i < iN tc → tr1 i = tr0 i) ∧ (∀ i, i < 8 → gS (tr1 i)) ∧ (wv = -1 → ∀ i, i < j → tr1 (iN tc + i) = sTS ch t i)
def TPost (ch : Int32 → Int32) (t : Stg) (z tc : Int32) (tr0 : Nat → Stg) (r : Int32) (tr1 : Nat → Stg) (tc1 : Int32) : Prop :=
  ∃ N, Stop ch t z N ∧ N ≤ 34 ∧ r = sTRes ch t tc N ∧ (∀ i, i < iN tc → tr1 i = tr0 i) ∧ (∀ i, i < 8 → gS (tr1 i)) ∧ (bTGood ch t tc N → ∀ i, i < N → tr1 (iN tc + i) = sTS ch t i) ∧ tc1 = if bTGood ch t tc N then tc + nI N else tc
section TIL
variable {ch : Int32 → Int32} {t : Stg} {z tc wv : Int32} {tr0 tr1 : Nat → Stg} {j : Nat}
theorem m1_not : ¬ (0 : Int32) ≤ -1 := by decide
theorem TI_0 (h : ∀ i, i < 8 → gS (tr0 i)) : TI ch t tc tr0 0 (-1) tr0 := ⟨Or.inl ⟨rfl, fun i hi => absurd hi (Nat.not_lt_zero _)⟩, fun _ _ => rfl, h, fun _ i hi => absurd hi (Nat.not_lt_zero _)⟩
theorem TI_skip (h : TI ch t tc tr0 j wv tr1) (hw : 0 ≤ wv) : TI ch t tc tr0 (j + 1) wv tr1 := by
  obtain ⟨h1, h2, h3, h4⟩ := h
  refine ⟨Or.inr ?_, h2, h3, fun e => absurd (e ▸ hw) m1_not⟩
  rcases h1 with ⟨e, -⟩ | ⟨k, k1, k2, k3, k4⟩
  · exact absurd (e ▸ hw) m1_not
  · exact ⟨k, by omega, k2, k3, k4⟩
theorem TI_m1 (h : TI ch t tc tr0 j wv tr1) (hw : ¬ 0 ≤ wv) (hn : ∀ k, 0 ≤ (sU ch t k).1) : wv = -1 ∧ ∀ i, i < j → bOk ch t tc i := by
  rcases h.1 with e | ⟨k, k1, k2, k3, k4⟩
  · exact e
  · exact absurd (k4 ▸ hn k) hw
theorem TI_ok (h : TI ch t tc tr0 j wv tr1) (hw : ¬ 0 ≤ wv) (hn : ∀ k, 0 ≤ (sU ch t k).1) (hok : bOk ch t tc j) (hx : iN (tc + nI j) = iN tc + j) : TI ch t tc tr0 (j + 1) wv (va_up tr1 (iN (tc + nI j)) (sTS ch t j)) := by
  have hm := TI_m1 h hw hn
  obtain ⟨h1, h2, h3, h4⟩ := h
  rw [hx]
  refine ⟨Or.inl ⟨hm.1, fun i hi => ?_⟩, fun i hi => ?_, fun i hi => ?_, fun e i hi => ?_⟩
  · by_cases e : i = j
    · rw [e]; exact hok
    · exact hm.2 i (by omega)
  · rw [va_up_ne _ _ (by omega)]; exact h2 i hi
  · by_cases e : i = iN tc + j
    · rw [e, va_up_self]; exact gS_of hok.1
    · rw [va_up_ne _ _ e]; exact h3 i hi
  · by_cases e2 : i = j
    · rw [e2, va_up_self]
    · rw [va_up_ne _ _ (by omega)]; exact h4 e i (by omega)
theorem TI_bad (h : TI ch t tc tr0 j wv tr1) (hw : ¬ 0 ≤ wv) (hn : ∀ k, 0 ≤ (sU ch t k).1) (hok : ¬ bOk ch t tc j) : TI ch t tc tr0 (j + 1) (sU ch t j).1 tr1 := by
  have hm := TI_m1 h hw hn
  obtain ⟨h1, h2, h3, h4⟩ := h
  exact ⟨Or.inr ⟨j, by omega, hm.2, hok, rfl⟩, h2, h3, fun e => absurd (e ▸ hn j) m1_not⟩
theorem TPost_broken (h : TI ch t tc tr0 j wv tr1) (hS : Stop ch t z (j + 1)) (hN : j + 1 ≤ 34) (hb : ¬ (sU ch t (j + 1)).2 = 0) : TPost ch t z tc tr0 (-1000 - (sU ch t (j + 1)).1) tr1 tc :=
  ⟨j + 1, hS, hN, (if_neg hb).symm, h.2.1, h.2.2.1, fun g => absurd g.1 hb, (if_neg (fun g => hb g.1)).symm⟩
theorem TPost_bad (h : TI ch t tc tr0 (j + 1) wv tr1) (hS : Stop ch t z (j + 1)) (hN : j + 1 ≤ 34) (hb : (sU ch t (j + 1)).2 = 0) (hw : 0 ≤ wv) : TPost ch t z tc tr0 (-2000 - wv) tr1 tc := by
  obtain ⟨h1, h2, h3, h4⟩ := h
  rcases h1 with ⟨e, -⟩ | ⟨k, k1, k2, k3, k4⟩
  · exact absurd (e ▸ hw) m1_not
  · have e : zfb (bOk ch t tc) (j + 1) 0 = k := zfb_at (j + 1) 0 k (by omega) (by omega) (fun i _ hi => k2 i hi) k3
    have ng : ¬ bTGood ch t tc (j + 1) := fun g => by have := g.2; omega
    refine ⟨j + 1, hS, hN, ?_, h2, h3, fun g => absurd g ng, (if_neg ng).symm⟩
    unfold sTRes
    rw [if_pos hb, if_neg (by omega), e, k4]
theorem TPost_good (h : TI ch t tc tr0 (j + 1) wv tr1) (hS : Stop ch t z (j + 1)) (hN : j + 1 ≤ 34) (hb : (sU ch t (j + 1)).2 = 0) (hw : ¬ 0 ≤ wv) (hn : ∀ k, 0 ≤ (sU ch t k).1) : TPost ch t z tc tr0 (nI (j + 1)) tr1 (tc + nI (j + 1)) := by
  have hm := TI_m1 h hw hn
  have e : zfb (bOk ch t tc) (j + 1) 0 = j + 1 := by rw [zfb_all (j + 1) 0 (fun i _ hi => hm.2 i (by omega))]; omega
  have g : bTGood ch t tc (j + 1) := ⟨hb, e⟩
  refine ⟨j + 1, hS, hN, ?_, h.2.1, h.2.2.1, fun _ => h.2.2.2 hm.1, (if_pos g).symm⟩
  unfold sTRes
  rw [if_pos hb, if_pos e]
theorem tc_add {m : Nat} (ht : tc = nI m) (hm : m ≤ 8) (hj : j ≤ 100) : iN (tc + nI j) = iN tc + j := by
  rw [ht, nI_add, iN_nI (by omega), iN_nI (by omega)]
end TIL
end
section
theorem mX6_readTries : zMd yX6_readTries cX6_readTries 6 (some .int) 1 := ⟨by decide +kernel, gt_of 290 (by decide +kernel) rfl, gt_of 44 (by decide +kernel) rfl, by decide⟩
theorem dX6_readTries_0 : decode cX6_readTries 0 = .ok (.iconst 0, 1) := by decide +kernel
theorem dX6_readTries_1 : decode cX6_readTries 1 = .ok (.istore_n 2, 1) := by decide +kernel
theorem dX6_readTries_2 : decode cX6_readTries 2 = .ok (.iconst (-1), 1) := by decide +kernel
theorem dX6_readTries_3 : decode cX6_readTries 3 = .ok (.istore_n 3, 1) := by decide +kernel
theorem dX6_readTries_4 : decode cX6_readTries 4 = .ok (.aload_n 0, 1) := by decide +kernel
theorem dX6_readTries_5 : decode cX6_readTries 5 = .ok (.getfield 33, 3) := by decide +kernel
theorem fX6_33 : zFld RX6 33 6 4 := ⟨RX6, TX6, 9, rfl, inX6, by decide, rfl, Or.inl (gt_of 230 (by decide +kernel) rfl)⟩
theorem dX6_readTries_8 : decode cX6_readTries 8 = .ok (.aload_n 1, 1) := by decide +kernel
theorem dX6_readTries_9 : decode cX6_readTries 9 = .ok (.invokevirtual 129, 3) := by decide +kernel
theorem kX6_129 : zLk RX6 129 yX1_open := Or.inl (gt_of 291 (by decide +kernel) rfl)
theorem vX1_open : zMi yX1_open := ⟨gt_of 292 (by decide +kernel) rfl, gt_of 293 (by decide +kernel) rfl⟩
theorem dX6_readTries_12 : decode cX6_readTries 12 = .ok (.iconst 0, 1) := by decide +kernel
theorem dX6_readTries_13 : decode cX6_readTries 13 = .ok (.istore 4, 2) := by decide +kernel
theorem dX6_readTries_15 : decode cX6_readTries 15 = .ok (.iload 4, 2) := by decide +kernel
theorem dX6_readTries_17 : decode cX6_readTries 17 = .ok (.bipush 100, 2) := by decide +kernel
theorem dX6_readTries_19 : decode cX6_readTries 19 = .ok (.if_icmp .ge 96, 3) := by decide +kernel
theorem dX6_readTries_22 : decode cX6_readTries 22 = .ok (.aload_n 0, 1) := by decide +kernel
theorem dX6_readTries_23 : decode cX6_readTries 23 = .ok (.getfield 33, 3) := by decide +kernel
theorem dX6_readTries_26 : decode cX6_readTries 26 = .ok (.getfield 133, 3) := by decide +kernel
theorem fX6_133 : zFld RX6 133 1 2 := ⟨RX1, TX1, 4, rfl, inX1, by decide, rfl, Or.inr ⟨"ChainLeap", List.mem_of_getElem? (i := 208) (by decide +kernel)⟩⟩
theorem dX6_readTries_29 : decode cX6_readTries 29 = .ok (.istore 5, 2) := by decide +kernel
theorem dX6_readTries_31 : decode cX6_readTries 31 = .ok (.aload_n 0, 1) := by decide +kernel
theorem dX6_readTries_32 : decode cX6_readTries 32 = .ok (.getfield 33, 3) := by decide +kernel
theorem dX6_readTries_35 : decode cX6_readTries 35 = .ok (.aload_n 0, 1) := by decide +kernel
theorem dX6_readTries_36 : decode cX6_readTries 36 = .ok (.getfield 10, 3) := by decide +kernel
theorem dX6_readTries_39 : decode cX6_readTries 39 = .ok (.getfield 97, 3) := by decide +kernel
theorem dX6_readTries_42 : decode cX6_readTries 42 = .ok (.aload_n 0, 1) := by decide +kernel
theorem dX6_readTries_43 : decode cX6_readTries 43 = .ok (.getfield 40, 3) := by decide +kernel
theorem dX6_readTries_46 : decode cX6_readTries 46 = .ok (.invokevirtual 136, 3) := by decide +kernel
theorem kX6_136 : zLk RX6 136 yX1_readStatement := Or.inl (gt_of 306 (by decide +kernel) rfl)
theorem vX1_readStatement : zMi yX1_readStatement := ⟨gt_of 307 (by decide +kernel) rfl, gt_of 308 (by decide +kernel) rfl⟩
theorem dX6_readTries_49 : decode cX6_readTries 49 = .ok (.aload_n 0, 1) := by decide +kernel
theorem dX6_readTries_50 : decode cX6_readTries 50 = .ok (.getfield 33, 3) := by decide +kernel
theorem dX6_readTries_53 : decode cX6_readTries 53 = .ok (.getfield 140, 3) := by decide +kernel
theorem fX6_140 : zFld RX6 140 1 3 := ⟨RX1, TX1, 4, rfl, inX1, by decide, rfl, Or.inr ⟨"ChainLeap", List.mem_of_getElem? (i := 210) (by decide +kernel)⟩⟩
theorem dX6_readTries_56 : decode cX6_readTries 56 = .ok (.ifCond .eq 15, 3) := by decide +kernel
theorem dX6_readTries_71 : decode cX6_readTries 71 = .ok (.iload_n 3, 1) := by decide +kernel
theorem dX6_readTries_72 : decode cX6_readTries 72 = .ok (.ifCond .ge 21, 3) := by decide +kernel
theorem dX6_readTries_93 : decode cX6_readTries 93 = .ok (.iinc 2 1, 3) := by decide +kernel
theorem dX6_readTries_96 : decode cX6_readTries 96 = .ok (.aload_n 0, 1) := by decide +kernel
theorem dX6_readTries_97 : decode cX6_readTries 97 = .ok (.getfield 33, 3) := by decide +kernel
theorem dX6_readTries_100 : decode cX6_readTries 100 = .ok (.invokevirtual 147, 3) := by decide +kernel
theorem kX6_147 : zLk RX6 147 yX1_isAtEnd := Or.inl (gt_of 347 (by decide +kernel) rfl)
theorem vX1_isAtEnd : zMi yX1_isAtEnd := ⟨gt_of 348 (by decide +kernel) rfl, gt_of 349 (by decide +kernel) rfl⟩
theorem dX6_readTries_103 : decode cX6_readTries 103 = .ok (.ifCond .eq 6, 3) := by decide +kernel
theorem dX6_readTries_106 : decode cX6_readTries 106 = .ok (.goto 9, 3) := by decide +kernel
theorem dX6_readTries_115 : decode cX6_readTries 115 = .ok (.iload_n 3, 1) := by decide +kernel
theorem dX6_readTries_116 : decode cX6_readTries 116 = .ok (.ifCond .lt 9, 3) := by decide +kernel
theorem dX6_readTries_119 : decode cX6_readTries 119 = .ok (.sipush (-2000), 3) := by decide +kernel
theorem dX6_readTries_122 : decode cX6_readTries 122 = .ok (.iload_n 3, 1) := by decide +kernel
theorem dX6_readTries_123 : decode cX6_readTries 123 = .ok (.isub, 1) := by decide +kernel
theorem dX6_readTries_124 : decode cX6_readTries 124 = .ok (.ireturn, 1) := by decide +kernel
theorem dX6_readTries_109 : decode cX6_readTries 109 = .ok (.iinc 4 1, 3) := by decide +kernel
theorem dX6_readTries_112 : decode cX6_readTries 112 = .ok (.goto (-97), 3) := by decide +kernel
theorem dX6_readTries_75 : decode cX6_readTries 75 = .ok (.aload_n 0, 1) := by decide +kernel
theorem dX6_readTries_76 : decode cX6_readTries 76 = .ok (.getfield 10, 3) := by decide +kernel
theorem dX6_readTries_79 : decode cX6_readTries 79 = .ok (.aload_n 0, 1) := by decide +kernel
theorem dX6_readTries_80 : decode cX6_readTries 80 = .ok (.getfield 40, 3) := by decide +kernel
theorem dX6_readTries_83 : decode cX6_readTries 83 = .ok (.iload_n 2, 1) := by decide +kernel
theorem dX6_readTries_84 : decode cX6_readTries 84 = .ok (.invokevirtual 143, 3) := by decide +kernel
theorem kX6_143 : zLk RX6 143 yX2_admits := Or.inl (gt_of 334 (by decide +kernel) rfl)
theorem vX2_admits : zMi yX2_admits := ⟨gt_of 335 (by decide +kernel) rfl, gt_of 336 (by decide +kernel) rfl⟩
theorem dX6_readTries_87 : decode cX6_readTries 87 = .ok (.ifCond .ne 6, 3) := by decide +kernel
theorem dX6_readTries_125 : decode cX6_readTries 125 = .ok (.aload_n 0, 1) := by decide +kernel
theorem dX6_readTries_126 : decode cX6_readTries 126 = .ok (.getfield 10, 3) := by decide +kernel
theorem dX6_readTries_129 : decode cX6_readTries 129 = .ok (.dup, 1) := by decide +kernel
theorem dX6_readTries_130 : decode cX6_readTries 130 = .ok (.getfield 150, 3) := by decide +kernel
theorem dX6_readTries_133 : decode cX6_readTries 133 = .ok (.iload_n 2, 1) := by decide +kernel
theorem dX6_readTries_134 : decode cX6_readTries 134 = .ok (.iadd, 1) := by decide +kernel
theorem dX6_readTries_135 : decode cX6_readTries 135 = .ok (.putfield 150, 3) := by decide +kernel
theorem dX6_readTries_138 : decode cX6_readTries 138 = .ok (.iload_n 2, 1) := by decide +kernel
theorem dX6_readTries_139 : decode cX6_readTries 139 = .ok (.ireturn, 1) := by decide +kernel
theorem dX6_readTries_90 : decode cX6_readTries 90 = .ok (.iload 5, 2) := by decide +kernel
theorem dX6_readTries_92 : decode cX6_readTries 92 = .ok (.istore_n 3, 1) := by decide +kernel
theorem dX6_readTries_59 : decode cX6_readTries 59 = .ok (.sipush (-1000), 3) := by decide +kernel
theorem dX6_readTries_62 : decode cX6_readTries 62 = .ok (.aload_n 0, 1) := by decide +kernel
theorem dX6_readTries_63 : decode cX6_readTries 63 = .ok (.getfield 33, 3) := by decide +kernel
theorem dX6_readTries_66 : decode cX6_readTries 66 = .ok (.getfield 133, 3) := by decide +kernel
theorem dX6_readTries_69 : decode cX6_readTries 69 = .ok (.isub, 1) := by decide +kernel
theorem dX6_readTries_70 : decode cX6_readTries 70 = .ok (.ireturn, 1) := by decide +kernel
set_option maxRecDepth 100000 in
theorem c_X6_readTries (l : Launch) (D : va_G) (cy : Nat → Nat) (n : Nat) (ad : Nat → Nat) (F : Nat → va_E) (sz : Nat) (pic : Int32) (sc ps : Scn) (sh : Nat → Shf) (rd : Rdr) (dr : Stg) (fa : Tal) (mi : Crs) (hn : 56 ≤ n) (hX : RX ad cy F pic sc ps sh rd dr fa mi) (hG : gX sc ps sh) (d zn : Nat) (hd : d < 8) (hzn : zn ≤ 100) (hz : (sh d).2.2.2.1 = nI zn) : Met l yX6_readTries (zw yX6_readTries cX6_readTries 6 (some .int)) (rmL 5) (zPc D cy n ad F sz [.ref (ad 0), .ref (ad (26 + 3 * d))]) (va_Qi (fun r F1 => ∃ tr1 tc1, TPost (sNext (sh d).2.2.2.2 (nI zn)) sc.1 (nI zn) sc.2.2.2.1 sc.2.2.1 r tr1 tc1 ∧ ∃ rd1 dr1, RX ad cy F1 pic (sc.1, sc.2.1, tr1, tc1, sc.2.2.2.2) ps sh rd1 dr1 fa mi ∧ fr56 F F1) (zB D n ad) (zA n ad sz)) 0 0 (zA n ad sz) := by
  refine zmet (by decide +kernel) (Nat.le_of_ble_eq_true rfl) (fun p e s m args below meth c ls hC hsz hZ hA hr hlocks hnm hl => ?_)
  have hC : zC p m c cX6_readTries 6 s args RX6 D cy := hC
  have hx := hC.1.1
  have hb := hC.1.2.1
  have hl : lv_has ls 6 [(0, .ref (ad 0)), (1, .ref (ad (26 + 3 * d)))] := hl
  have htc := tc_n hG.1
  have hPR : PR (sNext (sh d).2.2.2.2 (nI zn)) (zn : Int) := sNext_PR hzn
  have hUG := fun j => sU_G (t := sc.1) (Int.natCast_nonneg zn) hPR j
  have hU0 : ∀ k, 0 ≤ (sU (sNext (sh d).2.2.2.2 (nI zn)) sc.1 k).1 := fun k => i32le.mpr (hUG k).1.1
  have hch : sNext (zcop (sh d).2.2.2.2 rd.1 zn) (nI zn) = (sNext (sh d).2.2.2.2 (nI zn)) := sNext_zcop hzn
  refine lv_iconst (v := 0) hx hb dX6_readTries_0 (by decide) ?_
  refine lv_istore_n (lv' := [(2, .int 0), (0, .ref (ad 0)), (1, .ref (ad (26 + 3 * d)))]) hx hb dX6_readTries_1 rfl hl (by decide) rfl (fun ls hl => ?_)
  refine lv_iconst (v := (-1)) hx hb dX6_readTries_2 (by decide) ?_
  refine lv_istore_n (lv' := [(3, .int (-1)), (2, .int 0), (0, .ref (ad 0)), (1, .ref (ad (26 + 3 * d)))]) hx hb dX6_readTries_3 rfl hl (by decide) rfl (fun ls hl => ?_)
  refine lv_aload_n hx hb dX6_readTries_4 rfl (lv_at hl 2 rfl) ?_
  refine zget hC hZ fX6_33 (zlt hn rfl) hX.1 rfl dX6_readTries_5 ?_
  refine lv_aload_n hx hb dX6_readTries_8 rfl (lv_at hl 3 rfl) ?_
  refine zgov hZ hA (zrunV (As := [.ref (ad (26 + 3 * d))]) (rest := []) (k := 50) hC hZ (c_X1_open l D cy n ad F s.heap.size 50 rd.1 rd.2.1 rd.2.2 (by omega) hX.2.2.2.2.2.1.1 hX.2.2.2.2.2.1.2 (26 + 3 * d) (sh d) (by have := hd; omega) (hX.2.2.2.2.1 d hd) (by omega) zn hzn hz) mX1_open vX1_open kX6_129 (zRj_of rfl) (zlt hn rfl) hX.2.2.2.2.2.1.1 rfl rfl hl.1 rfl (Nat.le_of_ble_eq_true rfl) dX6_readTries_9 ⟨Nat.le_refl _, Nat.le_refl _⟩) (fun F_1 hp_3 H locs hZ => ?_)
  have hX_4 := rx_open hX hp_3
  have hf_5 := fr56_bl fr56_rf hp_3.2.2 (by decide)
  refine lv_iconst (v := 0) hx hb dX6_readTries_12 (by decide) ?_
  refine lv_istore (lv' := [(4, .int 0), (3, .int (-1)), (2, .int 0), (0, .ref (ad 0)), (1, .ref (ad (26 + 3 * d)))]) hx hb dX6_readTries_13 hl (by decide) rfl (fun ls hl => ?_)
  refine zlp (X := Nat × Int32 × (Nat → Stg) × Stg) 15 (fun _ => []) (fun x ls F1 => lv_has ls 6 [(4, .int (nI x.1)), (3, .int x.2.1), (2, .int (nI x.1)), (0, .ref (ad 0)), (1, .ref (ad (26 + 3 * d)))] ∧ RX ad cy F1 pic (sc.1, sc.2.1, x.2.2.1, sc.2.2.2.1, sc.2.2.2.2) ps sh (zcop (sh d).2.2.2.2 rd.1 zn, nI zn, (sU (sNext (sh d).2.2.2.2 (nI zn)) sc.1 x.1).1, (sU (sNext (sh d).2.2.2.2 (nI zn)) sc.1 x.1).2) x.2.2.2 fa mi ∧ fr56 F F1 ∧ (∀ i, 1 ≤ i → i ≤ x.1 → (sU (sNext (sh d).2.2.2.2 (nI zn)) sc.1 i).2 = 0 ∧ (sU (sNext (sh d).2.2.2.2 (nI zn)) sc.1 i).1 < nI zn) ∧ (TI (sNext (sh d).2.2.2.2 (nI zn)) sc.1 sc.2.2.2.1 sc.2.2.1 x.1 x.2.1 x.2.2.1)) (fun x => 100 - x.1) ?_ (0, (-1), sc.2.2.1, dr) hZ ⟨hl, hX_4, hf_5, (fun i h1 h2 => by omega), (TI_0 hG.1.2.2.2.1)⟩
  intro x ih15 ls F3_15 H locs hZ hφ
  obtain ⟨j, wv, tr1, dv⟩ := x
  obtain ⟨hl, hXl, hfl15, hAA, hTI⟩ := hφ
  have hl : lv_has ls 6 [(4, .int (nI j)), (3, .int wv), (2, .int (nI j)), (0, .ref (ad 0)), (1, .ref (ad (26 + 3 * d)))] := hl
  have hX15 : RX ad cy F3_15 pic (sc.1, sc.2.1, tr1, sc.2.2.2.1, sc.2.2.2.2) ps sh (zcop (sh d).2.2.2.2 rd.1 zn, nI zn, (sU (sNext (sh d).2.2.2.2 (nI zn)) sc.1 j).1, (sU (sNext (sh d).2.2.2.2 (nI zn)) sc.1 j).2) dv fa mi := hXl
  have hAA : ∀ i, 1 ≤ i → i ≤ j → (sU (sNext (sh d).2.2.2.2 (nI zn)) sc.1 i).2 = 0 ∧ (sU (sNext (sh d).2.2.2.2 (nI zn)) sc.1 i).1 < nI zn := hAA
  have hTI : TI (sNext (sh d).2.2.2.2 (nI zn)) sc.1 sc.2.2.2.1 sc.2.2.1 j wv tr1 := hTI
  have hj34 : j ≤ 33 := by rcases Nat.eq_zero_or_pos j with h | h; omega; have h1 := hAA j h (Nat.le_refl j); have h2 := (hUG j).2 h1.1; have h3 := i32lt.mp h1.2; rw [nI_toInt (by omega)] at h3; omega
  refine lv_iload hx hb dX6_readTries_15 (lv_at hl 0 rfl) ?_
  refine lv_bipush (v := 100) hx hb dX6_readTries_17 (by decide) ?_
  refine lv_icmp_ge (tgt := 115) hx hb dX6_readTries_19 (by decide) (fun h => absurd h (by rw [Int32.not_le]; exact nI_lt (a := j) (b := 100) (by omega) (by omega))) (fun _ => ?_)
  refine lv_aload_n hx hb dX6_readTries_22 rfl (lv_at hl 3 rfl) ?_
  refine zget hC hZ fX6_33 (zlt hn rfl) hX15.1 rfl dX6_readTries_23 ?_
  refine zget hC hZ fX6_133 (zlt hn rfl) hX15.2.2.2.2.2.1.1 rfl dX6_readTries_26 ?_
  refine lv_istore (lv' := [(5, .int ((sU (sNext (sh d).2.2.2.2 (nI zn)) sc.1 j).1)), (4, .int (nI j)), (3, .int wv), (2, .int (nI j)), (0, .ref (ad 0)), (1, .ref (ad (26 + 3 * d)))]) hx hb dX6_readTries_29 hl (by decide) rfl (fun ls hl => ?_)
  refine lv_aload_n hx hb dX6_readTries_31 rfl (lv_at hl 4 rfl) ?_
  refine zget hC hZ fX6_33 (zlt hn rfl) hX15.1 rfl dX6_readTries_32 ?_
  refine lv_aload_n hx hb dX6_readTries_35 rfl (lv_at hl 4 rfl) ?_
  refine zget hC hZ fX6_10 (zlt hn rfl) hX15.1 rfl dX6_readTries_36 ?_
  refine zget hC hZ fX6_97 (zlt hn rfl) hX15.2.1.1 rfl dX6_readTries_39 ?_
  refine lv_aload_n hx hb dX6_readTries_42 rfl (lv_at hl 4 rfl) ?_
  refine zget hC hZ fX6_40 (zlt hn rfl) hX15.1 rfl dX6_readTries_43 ?_
  refine zgov hZ hA (zrunV (As := [.ref (ad 2), .ref (ad 52)]) (rest := []) (k := 50) hC hZ (c_X1_readStatement l D cy n ad F3_15 H.size 50 (zcop (sh d).2.2.2.2 rd.1 zn) (nI zn) (sU (sNext (sh d).2.2.2.2 (nI zn)) sc.1 j) (by omega) hX15.2.2.2.2.2.1.1 hX15.2.2.2.2.2.1.2 2 sc.1 (zlt hn rfl) hX15.2.1.2.1 52 dv (zlt hn rfl) hX15.2.2.2.2.2.2.1 (by decide) (by decide) (by decide) (by decide)) mX1_readStatement vX1_readStatement kX6_136 (zRj_of rfl) (zlt hn rfl) hX15.2.2.2.2.2.1.1 rfl rfl hl.1 rfl (Nat.le_of_ble_eq_true rfl) dX6_readTries_46 ⟨Nat.le_refl _, Nat.le_refl _⟩) (fun F_6 hp_8 H locs hZ => ?_)
  rw [hch] at hp_8
  obtain ⟨u1, hu1⟩ : ∃ y, y = (sU (sNext (sh d).2.2.2.2 (nI zn)) sc.1 (j + 1)) := ⟨_, rfl⟩
  obtain ⟨t1, ht1⟩ : ∃ y, y = (sTS (sNext (sh d).2.2.2.2 (nI zn)) sc.1 j) := ⟨_, rfl⟩
  have hu1s : u1 = (sStm (sNext (sh d).2.2.2.2 (nI zn)) sc.1 (sU (sNext (sh d).2.2.2.2 (nI zn)) sc.1 j)).2 := hu1
  have ht1s : t1 = (sStm (sNext (sh d).2.2.2.2 (nI zn)) sc.1 (sU (sNext (sh d).2.2.2.2 (nI zn)) sc.1 j)).1 := ht1
  rw [← hu1s, ← ht1s] at hp_8
  have hX_9 : RX ad cy F_6 pic (sc.1, sc.2.1, tr1, sc.2.2.2.1, sc.2.2.2.2) ps sh (zcop (sh d).2.2.2.2 rd.1 zn, nI zn, u1.1, u1.2) t1 fa mi := rx_stm (u := u1) hX15 hp_8
  have hf_10 : fr56 F F_6 := fun q hq => (hp_8.2.2 q (by omega) (by omega)).trans (hfl15 q hq)
  refine lv_aload_n hx hb dX6_readTries_49 rfl (lv_at hl 4 rfl) ?_
  refine zget hC hZ fX6_33 (zlt hn rfl) hX_9.1 rfl dX6_readTries_50 ?_
  refine zget hC hZ fX6_140 (zlt hn rfl) hX_9.2.2.2.2.2.1.1 rfl dX6_readTries_53 ?_
  refine lv_if_eq (tgt := 71) hx hb dX6_readTries_56 (by decide) (fun c_56 => ?_) (fun c_56 => ?_)
  · refine lv_iload_n hx hb dX6_readTries_71 rfl (lv_at hl 2 rfl) ?_
    refine lv_if_ge (tgt := 93) hx hb dX6_readTries_72 (by decide) (fun c_72 => ?_) (fun c_72 => ?_)
    · refine lv_iinc (v := nI (j + 1)) (lv' := [(2, .int (nI (j + 1))), (5, .int ((sU (sNext (sh d).2.2.2.2 (nI zn)) sc.1 j).1)), (4, .int (nI j)), (3, .int wv), (0, .ref (ad 0)), (1, .ref (ad (26 + 3 * d)))]) hx hb dX6_readTries_93 hl (k := 3) rfl (nI_1 j) (by decide) rfl (fun ls hl => ?_)
      refine lv_aload_n hx hb dX6_readTries_96 rfl (lv_at hl 4 rfl) ?_
      refine zget hC hZ fX6_33 (zlt hn rfl) hX_9.1 rfl dX6_readTries_97 ?_
      refine zgoi hZ hA (zrunV (As := []) (rest := []) (k := 50) hC hZ (c_X1_isAtEnd l D cy n ad F_6 H.size 50 (zcop (sh d).2.2.2.2 rd.1 zn) (nI zn) u1 (by omega) hX_9.2.2.2.2.2.1.1 hX_9.2.2.2.2.2.1.2) mX1_isAtEnd vX1_isAtEnd kX6_147 (zRj_of rfl) (zlt hn rfl) hX_9.2.2.2.2.2.1.1 rfl rfl hl.1 rfl (Nat.le_of_ble_eq_true rfl) dX6_readTries_100 ⟨Nat.le_refl _, Nat.le_refl _⟩) (fun r_13 F_12 hp_14 H locs hZ => ?_)
      obtain ⟨hp_14, rfl⟩ := hp_14
      by_cases b_15 : (nI zn) ≤ u1.1
      · rw [if_pos b_15] at hp_14
        subst hp_14
        refine lv_if_eq (tgt := 109) hx hb dX6_readTries_103 (by decide) (fun h => absurd h (by decide)) (fun _ => ?_)
        refine lv_goto (tgt := 115) hx hb dX6_readTries_106 (by decide) ?_
        refine lv_iload_n hx hb dX6_readTries_115 rfl (lv_at hl 3 rfl) ?_
        refine lv_if_lt (tgt := 125) hx hb dX6_readTries_116 (by decide) (fun h => absurd h (Int32.not_lt.mpr c_72)) (fun _ => ?_)
        refine lv_sipush (v := (-2000)) hx hb dX6_readTries_119 (by decide) ?_
        refine lv_iload_n hx hb dX6_readTries_122 rfl (lv_at hl 3 rfl) ?_
        refine lv_isub hx hb dX6_readTries_123 ?_
        have hS : Stop (sNext (sh d).2.2.2.2 (nI zn)) sc.1 (nI zn) (j + 1) := ⟨by omega, fun i h1 h2 => hAA i h1 (by omega), Or.inr (by rw [← hu1]; exact b_15)⟩
        have hti := (TI_skip hTI c_72)
        have hP := TPost_bad hti hS (by omega) (by rw [← hu1]; exact c_56) c_72
        exact zireti hC hZ hr hlocks ⟨tr1, sc.2.2.2.1, hP, (zcop (sh d).2.2.2.2 rd.1 zn, nI zn, u1.1, u1.2), t1, hX_9, hf_10⟩ dX6_readTries_124
      · rw [if_neg b_15] at hp_14
        subst hp_14
        refine lv_if_eq (tgt := 109) hx hb dX6_readTries_103 (by decide) (fun _ => ?_) (fun h => absurd (by decide) h)
        refine lv_iinc (v := nI (j + 1)) (lv' := [(4, .int (nI (j + 1))), (2, .int (nI (j + 1))), (5, .int ((sU (sNext (sh d).2.2.2.2 (nI zn)) sc.1 j).1)), (3, .int wv), (0, .ref (ad 0)), (1, .ref (ad (26 + 3 * d)))]) hx hb dX6_readTries_109 hl (k := 2) rfl (nI_1 j) (by decide) rfl (fun ls hl => ?_)
        refine lv_goto (tgt := 15) hx hb dX6_readTries_112 (by decide) ?_
        have hti := (TI_skip hTI c_72)
        have hXf : RX ad cy F_6 pic (sc.1, sc.2.1, tr1, sc.2.2.2.1, sc.2.2.2.2) ps sh (zcop (sh d).2.2.2.2 rd.1 zn, nI zn, (sU (sNext (sh d).2.2.2.2 (nI zn)) sc.1 (j + 1)).1, (sU (sNext (sh d).2.2.2.2 (nI zn)) sc.1 (j + 1)).2) t1 fa mi := by rw [← hu1]; exact hX_9
        have hc56 : (sU (sNext (sh d).2.2.2.2 (nI zn)) sc.1 (j + 1)).2 = 0 ∧ (sU (sNext (sh d).2.2.2.2 (nI zn)) sc.1 (j + 1)).1 < nI zn := by rw [← hu1]; exact ⟨c_56, Int32.not_le.mp b_15⟩
        exact ih15 ((j + 1), wv, tr1, t1) ls _ H locs (by show 100 - (j + 1) < 100 - j; omega) hZ ⟨(lv_sub hl [0, 3, 1, 4, 5] rfl), hXf, hf_10, (fun i h1 h2 => by rcases Nat.lt_or_ge j i with h | h; have e : i = j + 1 := (by omega); rw [e]; exact hc56; exact hAA i h1 h), hti⟩
    · refine lv_aload_n hx hb dX6_readTries_75 rfl (lv_at hl 4 rfl) ?_
      refine zget hC hZ fX6_10 (zlt hn rfl) hX_9.1 rfl dX6_readTries_76 ?_
      refine lv_aload_n hx hb dX6_readTries_79 rfl (lv_at hl 4 rfl) ?_
      refine zget hC hZ fX6_40 (zlt hn rfl) hX_9.1 rfl dX6_readTries_80 ?_
      refine lv_iload_n hx hb dX6_readTries_83 rfl (lv_at hl 3 rfl) ?_
      refine zgoi hZ hA (zrunV (As := [.ref (ad 52), .int (nI j)]) (rest := []) (k := 1) hC hZ (c_X2_admits l D cy n ad F_6 H.size 1 (sc.1, sc.2.1, tr1, sc.2.2.2.1, sc.2.2.2.2) (by omega) hX_9.2.1 52 t1 (zlt hn rfl) hX_9.2.2.2.2.2.2.1 (by intro i hi; omega) (nI j)) mX2_admits vX2_admits kX6_143 (zRj_of rfl) (zlt hn rfl) hX_9.2.1.1 rfl rfl hl.1 rfl (Nat.le_of_ble_eq_true rfl) dX6_readTries_84 ⟨Nat.le_refl _, Nat.le_refl _⟩) (fun r_17 F_16 hp_18 H locs hZ => ?_)
      rcases hp_18 with ⟨hok, rfl, hF9⟩ | ⟨hok, rfl, rfl⟩
      · have hok : bOk (sNext (sh d).2.2.2.2 (nI zn)) sc.1 sc.2.2.2.1 j := by rw [ht1] at hok; exact hok
        have hi8 : iN (sc.2.2.2.1 + nI j) < 8 := (iN_at (N := 8) hok.2.1 hok.2.2 rfl).2
        have hX_19 : RX ad cy F_16 pic (sc.1, sc.2.1, va_up tr1 (iN (sc.2.2.2.1 + nI j)) t1, sc.2.2.2.1, sc.2.2.2.2) ps sh (zcop (sh d).2.2.2.2 rd.1 zn, nI zn, u1.1, u1.2) t1 fa mi := rx_try hi8 hX_9 hF9
        have hf_20 := fr56_up hf_10 hF9 (show 1 + 4 + iN (sc.2.2.2.1 + nI j) < 56 by omega)
        refine lv_if_ne (tgt := 93) hx hb dX6_readTries_87 (by decide) (fun _ => ?_) (fun h => absurd h (by decide))
        refine lv_iinc (v := nI (j + 1)) (lv' := [(2, .int (nI (j + 1))), (5, .int ((sU (sNext (sh d).2.2.2.2 (nI zn)) sc.1 j).1)), (4, .int (nI j)), (3, .int wv), (0, .ref (ad 0)), (1, .ref (ad (26 + 3 * d)))]) hx hb dX6_readTries_93 hl (k := 3) rfl (nI_1 j) (by decide) rfl (fun ls hl => ?_)
        refine lv_aload_n hx hb dX6_readTries_96 rfl (lv_at hl 4 rfl) ?_
        refine zget hC hZ fX6_33 (zlt hn rfl) hX_19.1 rfl dX6_readTries_97 ?_
        refine zgoi hZ hA (zrunV (As := []) (rest := []) (k := 50) hC hZ (c_X1_isAtEnd l D cy n ad F_16 H.size 50 (zcop (sh d).2.2.2.2 rd.1 zn) (nI zn) u1 (by omega) hX_19.2.2.2.2.2.1.1 hX_19.2.2.2.2.2.1.2) mX1_isAtEnd vX1_isAtEnd kX6_147 (zRj_of rfl) (zlt hn rfl) hX_19.2.2.2.2.2.1.1 rfl rfl hl.1 rfl (Nat.le_of_ble_eq_true rfl) dX6_readTries_100 ⟨Nat.le_refl _, Nat.le_refl _⟩) (fun r_22 F_21 hp_23 H locs hZ => ?_)
        obtain ⟨hp_23, rfl⟩ := hp_23
        by_cases b_24 : (nI zn) ≤ u1.1
        · rw [if_pos b_24] at hp_23
          subst hp_23
          refine lv_if_eq (tgt := 109) hx hb dX6_readTries_103 (by decide) (fun h => absurd h (by decide)) (fun _ => ?_)
          refine lv_goto (tgt := 115) hx hb dX6_readTries_106 (by decide) ?_
          refine lv_iload_n hx hb dX6_readTries_115 rfl (lv_at hl 3 rfl) ?_
          refine lv_if_lt (tgt := 125) hx hb dX6_readTries_116 (by decide) (fun _ => ?_) (fun h => absurd (Int32.not_le.mp c_72) h)
          refine lv_aload_n hx hb dX6_readTries_125 rfl (lv_at hl 4 rfl) ?_
          refine zget hC hZ fX6_10 (zlt hn rfl) hX_19.1 rfl dX6_readTries_126 ?_
          refine lv_dup hx hb dX6_readTries_129 rfl ?_
          refine zget hC hZ fX6_150 (zlt hn rfl) hX_19.2.1.1 rfl dX6_readTries_130 ?_
          refine lv_iload_n hx hb dX6_readTries_133 rfl (lv_at hl 0 rfl) ?_
          refine lv_iadd hx hb dX6_readTries_134 ?_
          refine zput (E := oScene ad 1 sc.2.1 (sc.2.2.2.1 + nI (j + 1))) hC hZ pX6_150 (zlt hn rfl) hX_19.2.1.1 rfl rfl rfl (Nat.le_of_ble_eq_true rfl) dX6_readTries_135 (fun F_25 hF_26 H locs hZ => ?_)
          have hX_27 := rx_self hX_19 hF_26
          have hf_28 := fr56_up hf_20 hF_26 (by decide)
          have hX_27 : RX ad cy F_25 pic (sc.1, sc.2.1, (va_up tr1 (iN (sc.2.2.2.1 + nI j)) t1), (sc.2.2.2.1 + nI (j + 1)), sc.2.2.2.2) ps sh (zcop (sh d).2.2.2.2 rd.1 zn, nI zn, u1.1, u1.2) t1 fa mi := hX_27
          refine lv_iload_n hx hb dX6_readTries_138 rfl (lv_at hl 0 rfl) ?_
          have hS : Stop (sNext (sh d).2.2.2.2 (nI zn)) sc.1 (nI zn) (j + 1) := ⟨by omega, fun i h1 h2 => hAA i h1 (by omega), Or.inr (by rw [← hu1]; exact b_24)⟩
          have hti := (TI_ok hTI c_72 hU0 hok (tc_add htc.1 htc.2 (by omega)))
          rw [← ht1] at hti
          have hP := TPost_good hti hS (by omega) (by rw [← hu1]; exact c_56) c_72 hU0
          exact zireti hC hZ hr hlocks ⟨(va_up tr1 (iN (sc.2.2.2.1 + nI j)) t1), (sc.2.2.2.1 + nI (j + 1)), hP, (zcop (sh d).2.2.2.2 rd.1 zn, nI zn, u1.1, u1.2), t1, hX_27, hf_28⟩ dX6_readTries_139
        · rw [if_neg b_24] at hp_23
          subst hp_23
          refine lv_if_eq (tgt := 109) hx hb dX6_readTries_103 (by decide) (fun _ => ?_) (fun h => absurd (by decide) h)
          refine lv_iinc (v := nI (j + 1)) (lv' := [(4, .int (nI (j + 1))), (2, .int (nI (j + 1))), (5, .int ((sU (sNext (sh d).2.2.2.2 (nI zn)) sc.1 j).1)), (3, .int wv), (0, .ref (ad 0)), (1, .ref (ad (26 + 3 * d)))]) hx hb dX6_readTries_109 hl (k := 2) rfl (nI_1 j) (by decide) rfl (fun ls hl => ?_)
          refine lv_goto (tgt := 15) hx hb dX6_readTries_112 (by decide) ?_
          have hti := (TI_ok hTI c_72 hU0 hok (tc_add htc.1 htc.2 (by omega)))
          rw [← ht1] at hti
          have hXf : RX ad cy F_16 pic (sc.1, sc.2.1, va_up tr1 (iN (sc.2.2.2.1 + nI j)) t1, sc.2.2.2.1, sc.2.2.2.2) ps sh (zcop (sh d).2.2.2.2 rd.1 zn, nI zn, (sU (sNext (sh d).2.2.2.2 (nI zn)) sc.1 (j + 1)).1, (sU (sNext (sh d).2.2.2.2 (nI zn)) sc.1 (j + 1)).2) t1 fa mi := by rw [← hu1]; exact hX_19
          have hc56 : (sU (sNext (sh d).2.2.2.2 (nI zn)) sc.1 (j + 1)).2 = 0 ∧ (sU (sNext (sh d).2.2.2.2 (nI zn)) sc.1 (j + 1)).1 < nI zn := by rw [← hu1]; exact ⟨c_56, Int32.not_le.mp b_24⟩
          exact ih15 ((j + 1), wv, (va_up tr1 (iN (sc.2.2.2.1 + nI j)) t1), t1) ls _ H locs (by show 100 - (j + 1) < 100 - j; omega) hZ ⟨(lv_sub hl [0, 3, 1, 4, 5] rfl), hXf, hf_20, (fun i h1 h2 => by rcases Nat.lt_or_ge j i with h | h; have e : i = j + 1 := (by omega); rw [e]; exact hc56; exact hAA i h1 h), hti⟩
      · have hok : ¬ bOk (sNext (sh d).2.2.2.2 (nI zn)) sc.1 sc.2.2.2.1 j := by rw [ht1] at hok; exact hok
        refine lv_if_ne (tgt := 93) hx hb dX6_readTries_87 (by decide) (fun h => absurd (by decide) h) (fun _ => ?_)
        refine lv_iload hx hb dX6_readTries_90 (lv_at hl 0 rfl) ?_
        refine lv_istore_n (lv' := [(3, .int ((sU (sNext (sh d).2.2.2.2 (nI zn)) sc.1 j).1)), (5, .int ((sU (sNext (sh d).2.2.2.2 (nI zn)) sc.1 j).1)), (4, .int (nI j)), (2, .int (nI j)), (0, .ref (ad 0)), (1, .ref (ad (26 + 3 * d)))]) hx hb dX6_readTries_92 rfl hl (by decide) rfl (fun ls hl => ?_)
        refine lv_iinc (v := nI (j + 1)) (lv' := [(2, .int (nI (j + 1))), (3, .int ((sU (sNext (sh d).2.2.2.2 (nI zn)) sc.1 j).1)), (5, .int ((sU (sNext (sh d).2.2.2.2 (nI zn)) sc.1 j).1)), (4, .int (nI j)), (0, .ref (ad 0)), (1, .ref (ad (26 + 3 * d)))]) hx hb dX6_readTries_93 hl (k := 3) rfl (nI_1 j) (by decide) rfl (fun ls hl => ?_)
        refine lv_aload_n hx hb dX6_readTries_96 rfl (lv_at hl 4 rfl) ?_
        refine zget hC hZ fX6_33 (zlt hn rfl) hX_9.1 rfl dX6_readTries_97 ?_
        refine zgoi hZ hA (zrunV (As := []) (rest := []) (k := 50) hC hZ (c_X1_isAtEnd l D cy n ad F_6 H.size 50 (zcop (sh d).2.2.2.2 rd.1 zn) (nI zn) u1 (by omega) hX_9.2.2.2.2.2.1.1 hX_9.2.2.2.2.2.1.2) mX1_isAtEnd vX1_isAtEnd kX6_147 (zRj_of rfl) (zlt hn rfl) hX_9.2.2.2.2.2.1.1 rfl rfl hl.1 rfl (Nat.le_of_ble_eq_true rfl) dX6_readTries_100 ⟨Nat.le_refl _, Nat.le_refl _⟩) (fun r_30 F_29 hp_31 H locs hZ => ?_)
        obtain ⟨hp_31, rfl⟩ := hp_31
        by_cases b_32 : (nI zn) ≤ u1.1
        · rw [if_pos b_32] at hp_31
          subst hp_31
          refine lv_if_eq (tgt := 109) hx hb dX6_readTries_103 (by decide) (fun h => absurd h (by decide)) (fun _ => ?_)
          refine lv_goto (tgt := 115) hx hb dX6_readTries_106 (by decide) ?_
          refine lv_iload_n hx hb dX6_readTries_115 rfl (lv_at hl 1 rfl) ?_
          refine lv_if_lt (tgt := 125) hx hb dX6_readTries_116 (by decide) (fun h => absurd h (Int32.not_lt.mpr (hU0 j))) (fun _ => ?_)
          refine lv_sipush (v := (-2000)) hx hb dX6_readTries_119 (by decide) ?_
          refine lv_iload_n hx hb dX6_readTries_122 rfl (lv_at hl 1 rfl) ?_
          refine lv_isub hx hb dX6_readTries_123 ?_
          have hS : Stop (sNext (sh d).2.2.2.2 (nI zn)) sc.1 (nI zn) (j + 1) := ⟨by omega, fun i h1 h2 => hAA i h1 (by omega), Or.inr (by rw [← hu1]; exact b_32)⟩
          have hti := (TI_bad hTI c_72 hU0 hok)
          have hP := TPost_bad hti hS (by omega) (by rw [← hu1]; exact c_56) (hU0 j)
          exact zireti hC hZ hr hlocks ⟨tr1, sc.2.2.2.1, hP, (zcop (sh d).2.2.2.2 rd.1 zn, nI zn, u1.1, u1.2), t1, hX_9, hf_10⟩ dX6_readTries_124
        · rw [if_neg b_32] at hp_31
          subst hp_31
          refine lv_if_eq (tgt := 109) hx hb dX6_readTries_103 (by decide) (fun _ => ?_) (fun h => absurd (by decide) h)
          refine lv_iinc (v := nI (j + 1)) (lv' := [(4, .int (nI (j + 1))), (2, .int (nI (j + 1))), (3, .int ((sU (sNext (sh d).2.2.2.2 (nI zn)) sc.1 j).1)), (5, .int ((sU (sNext (sh d).2.2.2.2 (nI zn)) sc.1 j).1)), (0, .ref (ad 0)), (1, .ref (ad (26 + 3 * d)))]) hx hb dX6_readTries_109 hl (k := 3) rfl (nI_1 j) (by decide) rfl (fun ls hl => ?_)
          refine lv_goto (tgt := 15) hx hb dX6_readTries_112 (by decide) ?_
          have hti := (TI_bad hTI c_72 hU0 hok)
          have hXf : RX ad cy F_6 pic (sc.1, sc.2.1, tr1, sc.2.2.2.1, sc.2.2.2.2) ps sh (zcop (sh d).2.2.2.2 rd.1 zn, nI zn, (sU (sNext (sh d).2.2.2.2 (nI zn)) sc.1 (j + 1)).1, (sU (sNext (sh d).2.2.2.2 (nI zn)) sc.1 (j + 1)).2) t1 fa mi := by rw [← hu1]; exact hX_9
          have hc56 : (sU (sNext (sh d).2.2.2.2 (nI zn)) sc.1 (j + 1)).2 = 0 ∧ (sU (sNext (sh d).2.2.2.2 (nI zn)) sc.1 (j + 1)).1 < nI zn := by rw [← hu1]; exact ⟨c_56, Int32.not_le.mp b_32⟩
          exact ih15 ((j + 1), ((sU (sNext (sh d).2.2.2.2 (nI zn)) sc.1 j).1), tr1, t1) ls _ H locs (by show 100 - (j + 1) < 100 - j; omega) hZ ⟨(lv_sub hl [0, 2, 1, 4, 5] rfl), hXf, hf_10, (fun i h1 h2 => by rcases Nat.lt_or_ge j i with h | h; have e : i = j + 1 := (by omega); rw [e]; exact hc56; exact hAA i h1 h), hti⟩
  · refine lv_sipush (v := (-1000)) hx hb dX6_readTries_59 (by decide) ?_
    refine lv_aload_n hx hb dX6_readTries_62 rfl (lv_at hl 4 rfl) ?_
    refine zget hC hZ fX6_33 (zlt hn rfl) hX_9.1 rfl dX6_readTries_63 ?_
    refine zget hC hZ fX6_133 (zlt hn rfl) hX_9.2.2.2.2.2.1.1 rfl dX6_readTries_66 ?_
    refine lv_isub hx hb dX6_readTries_69 ?_
    have hS : Stop (sNext (sh d).2.2.2.2 (nI zn)) sc.1 (nI zn) (j + 1) := ⟨by omega, fun i h1 h2 => hAA i h1 (by omega), Or.inl (by rw [← hu1]; exact c_56)⟩
    have hP := TPost_broken hTI hS (by omega) (by rw [← hu1]; exact c_56)
    rw [← hu1] at hP
    exact zireti hC hZ hr hlocks ⟨tr1, sc.2.2.2.1, hP, (zcop (sh d).2.2.2.2 rd.1 zn, nI zn, u1.1, u1.2), t1, hX_9, hf_10⟩ dX6_readTries_70

theorem mX6_tries : zMd yX6_tries cX6_tries 3 (some .int) 1 := ⟨by decide +kernel, gt_of 271 (by decide +kernel) rfl, gt_of 44 (by decide +kernel) rfl, by decide⟩
theorem dX6_tries_0 : decode cX6_tries 0 = .ok (.aload_n 0, 1) := by decide +kernel
theorem dX6_tries_1 : decode cX6_tries 1 = .ok (.iload_n 1, 1) := by decide +kernel
theorem dX6_tries_2 : decode cX6_tries 2 = .ok (.invokevirtual 119, 3) := by decide +kernel
theorem dX6_tries_5 : decode cX6_tries 5 = .ok (.istore_n 2, 1) := by decide +kernel
theorem dX6_tries_6 : decode cX6_tries 6 = .ok (.iload_n 2, 1) := by decide +kernel
theorem dX6_tries_7 : decode cX6_tries 7 = .ok (.ifCond .eq 5, 3) := by decide +kernel
theorem dX6_tries_12 : decode cX6_tries 12 = .ok (.aload_n 0, 1) := by decide +kernel
theorem dX6_tries_13 : decode cX6_tries 13 = .ok (.getfield 25, 3) := by decide +kernel
theorem dX6_tries_16 : decode cX6_tries 16 = .ok (.iload_n 1, 1) := by decide +kernel
theorem dX6_tries_17 : decode cX6_tries 17 = .ok (.aaload, 1) := by decide +kernel
theorem dX6_tries_18 : decode cX6_tries 18 = .ok (.getfield 122, 3) := by decide +kernel
theorem dX6_tries_21 : decode cX6_tries 21 = .ok (.ifCond .eq 6, 3) := by decide +kernel
theorem dX6_tries_27 : decode cX6_tries 27 = .ok (.aload_n 0, 1) := by decide +kernel
theorem dX6_tries_28 : decode cX6_tries 28 = .ok (.aload_n 0, 1) := by decide +kernel
theorem dX6_tries_29 : decode cX6_tries 29 = .ok (.getfield 25, 3) := by decide +kernel
theorem dX6_tries_32 : decode cX6_tries 32 = .ok (.iload_n 1, 1) := by decide +kernel
theorem dX6_tries_33 : decode cX6_tries 33 = .ok (.aaload, 1) := by decide +kernel
theorem dX6_tries_34 : decode cX6_tries 34 = .ok (.invokevirtual 125, 3) := by decide +kernel
theorem kX6_125 : zLk RX6 125 yX6_readTries := Or.inl (gt_of 287 (by decide +kernel) rfl)
theorem vX6_readTries : zMi yX6_readTries := ⟨gt_of 289 (by decide +kernel) rfl, gt_of 2 (by decide +kernel) rfl⟩
theorem dX6_tries_37 : decode cX6_tries 37 = .ok (.ireturn, 1) := by decide +kernel
theorem dX6_tries_24 : decode cX6_tries 24 = .ok (.bipush (-12), 2) := by decide +kernel
theorem dX6_tries_26 : decode cX6_tries 26 = .ok (.ireturn, 1) := by decide +kernel
theorem dX6_tries_10 : decode cX6_tries 10 = .ok (.iload_n 2, 1) := by decide +kernel
theorem dX6_tries_11 : decode cX6_tries 11 = .ok (.ireturn, 1) := by decide +kernel
set_option maxRecDepth 100000 in
theorem c_X6_tries (l : Launch) (D : va_G) (cy : Nat → Nat) (n : Nat) (ad : Nat → Nat) (F : Nat → va_E) (sz : Nat) (pic : Int32) (sc ps : Scn) (sh : Nat → Shf) (rd : Rdr) (dr : Stg) (fa : Tal) (mi : Crs) (hn : 56 ≤ n) (hX : RX ad cy F pic sc ps sh rd dr fa mi) (hG : gX sc ps sh) (d : Int32) : Met l yX6_tries (zw yX6_tries cX6_tries 3 (some .int)) (rmL 6) (zPc D cy n ad F sz [.ref (ad 0), .int d]) (va_Qi (fun r F1 => ∃ tr1 tc1, ((((¬ sRowR sh d = 0 ∧ r = sRowR sh d) ∨ (sRowR sh d = 0 ∧ ¬ (sh (iN d)).2.2.1 = 0 ∧ r = -12)) ∧ tr1 = sc.2.2.1 ∧ tc1 = sc.2.2.2.1) ∨ (sRowR sh d = 0 ∧ (sh (iN d)).2.2.1 = 0 ∧ TPost (sNext (sh (iN d)).2.2.2.2 (nI (iN (sh (iN d)).2.2.2.1))) sc.1 (nI (iN (sh (iN d)).2.2.2.1)) sc.2.2.2.1 sc.2.2.1 r tr1 tc1)) ∧ ∃ rd1 dr1, RX ad cy F1 pic (sc.1, sc.2.1, tr1, tc1, sc.2.2.2.2) ps sh rd1 dr1 fa mi ∧ fr56 F F1) (zB D n ad) (zA n ad sz)) 0 0 (zA n ad sz) := by
  refine zmet (by decide +kernel) (Nat.le_of_ble_eq_true rfl) (fun p e s m args below meth c ls hC hsz hZ hA hr hlocks hnm hl => ?_)
  have hC : zC p m c cX6_tries 3 s args RX6 D cy := hC
  have hx := hC.1.1
  have hb := hC.1.2.1
  have hl : lv_has ls 3 [(0, .ref (ad 0)), (1, .int d)] := hl
  refine lv_aload_n hx hb dX6_tries_0 rfl (lv_at hl 0 rfl) ?_
  refine lv_iload_n hx hb dX6_tries_1 rfl (lv_at hl 1 rfl) ?_
  refine zgoi hZ hA (zrunV (As := [.int d]) (rest := []) (k := 0) hC hZ (c_X6_rowRefusal l D cy n ad F s.heap.size pic sc ps sh rd dr fa mi hn hX d) mX6_rowRefusal vX6_rowRefusal kX6_119 (zRj_of rfl) (zlt hn rfl) hX.1 rfl rfl hl.1 rfl (Nat.le_of_ble_eq_true rfl) dX6_tries_2 ⟨Nat.le_refl _, Nat.le_refl _⟩) (fun r_2 F_1 hp_3 H locs hZ => ?_)
  obtain ⟨rfl, rfl⟩ := hp_3
  refine lv_istore_n (lv' := [(2, .int (sRowR sh d)), (0, .ref (ad 0)), (1, .int d)]) hx hb dX6_tries_5 rfl hl (by decide) rfl (fun ls hl => ?_)
  refine lv_iload_n hx hb dX6_tries_6 rfl (lv_at hl 0 rfl) ?_
  refine lv_if_eq (tgt := 12) hx hb dX6_tries_7 (by decide) (fun c_7 => ?_) (fun c_7 => ?_)
  · refine lv_aload_n hx hb dX6_tries_12 rfl (lv_at hl 1 rfl) ?_
    refine zget hC hZ fX6_25 (zlt hn rfl) hX.1 rfl dX6_tries_13 ?_
    refine lv_iload_n hx hb dX6_tries_16 rfl (lv_at hl 2 rfl) ?_
    have hs_4 := sRowR_0 c_7
    refine zaald hC hZ (zlt hn rfl) hX.2.2.2.1 (C := RX4) rfl hs_4.1.1 hs_4.1.2 (by decide) rfl dX6_tries_17 ?_
    refine zget hC hZ fX6_122 (by have := hs_4.1.2; omega) (hX.2.2.2.2.1 (iN d) hs_4.1.2).1 rfl dX6_tries_18 ?_
    refine lv_if_eq (tgt := 27) hx hb dX6_tries_21 (by decide) (fun c_21 => ?_) (fun c_21 => ?_)
    · refine lv_aload_n hx hb dX6_tries_27 rfl (lv_at hl 1 rfl) ?_
      refine lv_aload_n hx hb dX6_tries_28 rfl (lv_at hl 1 rfl) ?_
      refine zget hC hZ fX6_25 (zlt hn rfl) hX.1 rfl dX6_tries_29 ?_
      refine lv_iload_n hx hb dX6_tries_32 rfl (lv_at hl 2 rfl) ?_
      refine zaald hC hZ (zlt hn rfl) hX.2.2.2.1 (C := RX4) rfl hs_4.1.1 hs_4.1.2 (by decide) rfl dX6_tries_33 ?_
      have hgs := hG.2.2 _ hs_4.1.2
      have hz0 := iN_b (N := 100) hgs.2.1 hgs.2.2.1
      refine zgoi hZ hA (zrunV (As := [.ref (ad (26 + 3 * (iN d)))]) (rest := []) (k := 0) hC hZ (c_X6_readTries l D cy n ad F H.size pic sc ps sh rd dr fa mi hn hX hG (iN d) (iN (sh (iN d)).2.2.2.1) hs_4.1.2 hz0.2 hz0.1) mX6_readTries vX6_readTries kX6_125 (zRj_of rfl) (zlt hn rfl) hX.1 rfl rfl hl.1 rfl (Nat.le_of_ble_eq_true rfl) dX6_tries_34 ⟨Nat.le_refl _, Nat.le_refl _⟩) (fun r_6 F_5 hp_7 H locs hZ => ?_)
      obtain ⟨tr1, tc1, hTP, rd1, dr1, hX9, hf9⟩ := hp_7
      exact zireti hC hZ hr hlocks ⟨tr1, tc1, Or.inr ⟨c_7, c_21, hTP⟩, rd1, dr1, hX9, hf9⟩ dX6_tries_37
    · refine lv_bipush (v := (-12)) hx hb dX6_tries_24 (by decide) ?_
      exact zireti hC hZ hr hlocks ⟨sc.2.2.1, sc.2.2.2.1, Or.inl ⟨Or.inr ⟨c_7, c_21, rfl⟩, rfl, rfl⟩, rd, dr, hX, fr56_rf⟩ dX6_tries_26
  · refine lv_iload_n hx hb dX6_tries_10 rfl (lv_at hl 0 rfl) ?_
    exact zireti hC hZ hr hlocks ⟨sc.2.2.1, sc.2.2.2.1, Or.inl ⟨Or.inl ⟨c_7, rfl⟩, rfl, rfl⟩, rd, dr, hX, fr56_rf⟩ dX6_tries_11
end
section
/-! ===== the reference: cells 56 to 67 ===== -/
abbrev oModel (ad : Nat → Nat) (b : Stg) (ln tc : Int32) (co : Crs) (th bs en : Int32) (u : Int32 × Int32) (st kk dw ho : Int32) (sv : Crs) (pic ia tk : Int32) : va_E :=
  .inr (7, [.int b.1, .int b.2.1, .int b.2.2.1, .int ln, .int b.2.2.2, .int tc, .ref (ad 57), .int co.1, .int co.2.1, .int co.2.2.1, .int co.2.2.2.1, .int co.2.2.2.2, .int th, .int bs, .int en, .int u.1, .int u.2, .int st, .ref (ad 58), .ref (ad 59), .int kk, .int dw, .int ho, .int sv.1, .int sv.2.1, .int sv.2.2.1, .int sv.2.2.2.1, .int sv.2.2.2.2, .int pic, .ref (ad 60), .int ia, .int tk, .ref (ad 61), .ref (ad 62), .ref (ad 63), .ref (ad 64), .ref (ad 65), .ref (ad 66), .ref (ad 67)])
def frM (F F1 : Nat → va_E) : Prop := ∀ q, (q < 56 ∨ 68 ≤ q) → F1 q = F q
theorem frM_rf {F : Nat → va_E} : frM F F := fun _ _ => rfl
theorem frM_up {F F0 F1 : Nat → va_E} {k : Nat} {E : va_E} (h0 : frM F0 F) (h : F1 = va_up F k E) (h1 : 56 ≤ k) (h2 : k < 68) : frM F0 F1 := fun q hq => (znu h (by omega)).trans (h0 q hq)
theorem frM_tr {F F1 F2 : Nat → va_E} (h1 : frM F F1) (h2 : frM F1 F2) : frM F F2 := fun q hq => (h2 q hq).trans (h1 q hq)
def rT (told : Nat → Int32) (i : Nat) (s : Stg) : Prop := told (4 * i) = s.1 ∧ told (4 * i + 1) = s.2.1 ∧ told (4 * i + 2) = s.2.2.1 ∧ told (4 * i + 3) = s.2.2.2
def rS (s : Shf) (h k f so m : Int32) (r : Nat → Int64) : Prop := h = s.1 ∧ (s.1 = 1 → s.2.1 = (k, f)) ∧ (s.1 = 2 → so = s.2.2.1 ∧ m = s.2.2.2.1 ∧ ∀ i, i < 100 → r i = (s.2.2.2.2 i).toInt64)
def rI (im : Nat → Int32) (ps : Scn) : Prop := im 0 = ps.1.1 ∧ im 1 = ps.1.2.1 ∧ im 2 = ps.1.2.2.1 ∧ im 3 = ps.2.1 ∧ im 4 = ps.1.2.2.2 ∧ im 5 = ps.2.2.2.1 ∧ im 6 = ps.2.2.2.2.1 ∧ im 7 = ps.2.2.2.2.2.1 ∧ im 8 = ps.2.2.2.2.2.2.1 ∧ im 9 = ps.2.2.2.2.2.2.2.1 ∧ im 10 = ps.2.2.2.2.2.2.2.2 ∧ ∀ i, i < iN ps.2.2.2.1 → rT (fun k => im (11 + k)) i (ps.2.2.1 i)
def rX (told im hw kd fg so mn : Nat → Int32) (rw0 : Nat → Int64) (pic : Int32) (sc ps : Scn) (sh : Nat → Shf) : Prop :=
  (∀ i, i < iN sc.2.2.2.1 → rT told i (sc.2.2.1 i)) ∧ (¬ pic = 0 → rI im ps) ∧ ∀ d, d < 8 → rS (sh d) (hw d) (kd d) (fg d) (so d) (mn d) (fun i => rw0 (100 * d + i))
def RM (ad cy : Nat → Nat) (F : Nat → va_E) (th pic : Int32) (sc ps : Scn) (sh : Nat → Shf) : Prop :=
  ∃ (bs en : Int32) (u : Int32 × Int32) (st kk dw ho : Int32) (sv : Crs) (ia tk : Int32) (told pl nu im hw kd fg so mn : Nat → Int32) (rw0 bt : Nat → Int64),
    F 56 = oModel ad sc.1 sc.2.1 sc.2.2.2.1 sc.2.2.2.2 th bs en u st kk dw ho sv pic ia tk ∧ F 57 = oInts cy 32 told ∧ F 58 = oInts cy 50 pl ∧ F 59 = oInts cy 200 nu ∧ F 60 = oInts cy 43 im ∧ F 61 = oInts cy 8 hw ∧ F 62 = oInts cy 8 kd ∧ F 63 = oInts cy 8 fg ∧ F 64 = oInts cy 8 so ∧ F 65 = oInts cy 8 mn ∧ F 66 = oLongs cy 800 rw0 ∧ F 67 = oLongs cy 100 bt ∧
    rX told im hw kd fg so mn rw0 pic sc ps sh
/-! ===== longs out of ints ===== -/
abbrev bInL (v lo hi : Int64) : Prop := lo ≤ v ∧ v ≤ hi
theorem l64le {x y : Int32} : x.toInt64 ≤ y.toInt64 ↔ x ≤ y := by
  rw [Int64.le_iff_toInt_le, Int32.le_iff_toInt_le, Int32.toInt_toInt64, Int32.toInt_toInt64]
theorem bInL_iff {v lo hi : Int32} {L H : Int64} (hL : L = lo.toInt64) (hH : H = hi.toInt64) : bInL v.toInt64 L H ↔ bIn v lo hi := by
  subst hL; subst hH
  exact and_congr l64le l64le
theorem l64eq {x y : Int32} : x.toInt64 = y.toInt64 ↔ x = y := by
  constructor
  · intro h
    have := congrArg Int64.toInt h
    rw [Int32.toInt_toInt64, Int32.toInt_toInt64] at this
    exact Int32.toInt_inj.mp this
  · intro h; rw [h]
theorem l64to (x : Int32) : x.toInt64.toInt32 = x := lg_l2i_i2l x
/-! ===== reading in the reference ===== -/
def mch (rw0 : Nat → Int64) (x0 zn : Nat) : Int32 → Int32 := fun a => if 0 ≤ a ∧ a < nI zn then (rw0 (x0 + iN a)).toInt32 &&& 255 else -1
theorem and255 (v : Int32) : 0 ≤ (v &&& 255).toInt := by
  obtain ⟨j, hj, e⟩ := pk_andE v (m := 255) 8 (by decide)
  rw [e, nI_toInt (by omega)]
  omega
theorem mch_PR {rw0 : Nat → Int64} {x0 zn : Nat} (hz : zn ≤ 100) : PR (mch rw0 x0 zn) (zn : Int) := by
  refine ⟨by omega, fun a h => ?_⟩
  unfold mch at h
  by_cases c : 0 ≤ a ∧ a < nI zn
  · have h1 := i32le.mp c.1
    have h2 := i32lt.mp c.2
    rw [nI_toInt (by omega)] at h2
    exact ⟨h1, h2⟩
  · rw [if_neg c] at h
    exact absurd h (by decide)
theorem mch_end {rw0 : Nat → Int64} {x0 zn : Nat} {a : Int32} (h : nI zn ≤ a) : mch rw0 x0 zn a = -1 := if_neg (fun q => absurd q.2 (Int32.not_lt.mpr h))
theorem mch_in {rw0 : Nat → Int64} {x0 zn : Nat} {a : Int32} (h0 : 0 ≤ a.toInt) (h : ¬ nI zn ≤ a) : mch rw0 x0 zn a = (rw0 (x0 + iN a)).toInt32 &&& 255 := if_pos ⟨i32le.mpr h0, Int32.not_le.mp h⟩
theorem mch_ix {x0 zn : Nat} {a : Int32} (hz : zn ≤ 100) (hx : x0 + 100 ≤ 800) (h0 : 0 ≤ a.toInt) (h : ¬ nI zn ≤ a) : nI x0 + a = nI (x0 + iN a) ∧ x0 + iN a < 800 := by
  have e := iN_e h0
  have h2 := i32lt.mp (Int32.not_le.mp h)
  rw [nI_toInt (by omega)] at h2
  refine ⟨?_, by omega⟩
  conv => lhs; rw [e.1]
  exact nI_add _ _
theorem byte255 : ∀ k : Fin 256, (Int32.ofInt ((k.val : Int) - 128) &&& 255).toInt = if (k.val : Int) < 128 then (k.val : Int) + 128 else (k.val : Int) - 128 := by decide +kernel
theorem byte_and {v : Int32} (h1 : -128 ≤ v.toInt) (h2 : v.toInt ≤ 127) : (v &&& 255).toInt = if v.toInt < 0 then v.toInt + 256 else v.toInt := by
  have e : v = Int32.ofInt (((v.toInt + 128).toNat : Int) - 128) := by
    apply Int32.toInt_inj.mp
    rw [Int32.toInt_ofInt]
    have : (((v.toInt + 128).toNat : Int) - 128) = v.toInt := by omega
    rw [this]
    exact (Int.bmod_eq_of_le (by have := Int32.le_toInt v; simp; omega) (by have := Int32.toInt_lt v; simp; omega)).symm
  have b := byte255 ⟨(v.toInt + 128).toNat, by omega⟩
  dsimp only at b
  rw [← e] at b
  rw [b]
  have : ((v.toInt + 128).toNat : Int) = v.toInt + 128 := by omega
  rw [this]
  split <;> split <;> omega
/-- two readers of bytes that read alike -/
def chE (ch ch' : Int32 → Int32) : Prop := ∀ a, (∀ g : Int32, 0 ≤ g.toInt → g.toInt ≤ 127 → (ch a = g ↔ ch' a = g))
section CHE
variable {ch ch' : Int32 → Int32} {g v : Int32} {q : Int32 × Int32} {u : Int32 × Int32 × Int32} {t : Stg}
theorem chE_dig (h : chE ch ch') {a : Int32} (hd : bDig ch a) : ch a = ch' a := by
  have h1 := i32le.mp hd.1
  have h2 := i32le.mp hd.2
  have e1 : (48 : Int32).toInt = 48 := rfl
  have e2 : (57 : Int32).toInt = 57 := rfl
  exact ((h a (ch a) (by omega) (by omega)).mp rfl).symm
theorem chE.symm (h : chE ch ch') : chE ch' ch := fun a g h1 h2 => (h a g h1 h2).symm
theorem chE_bDig (h : chE ch ch') {a : Int32} : bDig ch a ↔ bDig ch' a := by
  constructor
  · intro hd; have e := chE_dig h hd; exact ⟨by rw [← e]; exact hd.1, by rw [← e]; exact hd.2⟩
  · intro hd; have e := chE_dig h.symm hd; exact ⟨by rw [← e]; exact hd.1, by rw [← e]; exact hd.2⟩
theorem chE_bAcc (h : chE ch ch') (h0 : 0 ≤ g.toInt) (h1 : g.toInt ≤ 127) : bAcc ch g q ↔ bAcc ch' g q := and_congr Iff.rfl (h q.1 g h0 h1)
theorem chE_sAcc (h : chE ch ch') (h0 : 0 ≤ g.toInt) (h1 : g.toInt ≤ 127) : sAcc ch g q = sAcc ch' g q := by
  by_cases c : bAcc ch g q
  · rw [sAcc_pos c, sAcc_pos ((chE_bAcc h h0 h1).mp c)]
  · rw [sAcc_neg c, sAcc_neg (fun c' => c ((chE_bAcc h h0 h1).mpr c'))]
theorem chE_sNeed (h : chE ch ch') (h0 : 0 ≤ g.toInt) (h1 : g.toInt ≤ 127) : sNeed ch g q = sNeed ch' g q := by
  by_cases c : bAcc ch g q
  · rw [sNeed_pos c, sNeed_pos ((chE_bAcc h h0 h1).mp c), chE_sAcc h h0 h1]
  · rw [sNeed_neg c, sNeed_neg (fun c' => c ((chE_bAcc h h0 h1).mpr c'))]
theorem chE_sDig (h : chE ch ch') : sDig ch q = sDig ch' q := by
  by_cases c : q.2 = 0 ∧ bDig ch q.1
  · rw [sDig_pos c.1 c.2, sDig_pos c.1 ((chE_bDig h).mp c.2), chE_dig h c.2]
  · rw [sDig_neg c, sDig_neg (fun c' => c ⟨c'.1, (chE_bDig h).mpr c'.2⟩)]
theorem chE_sMore (h : chE ch ch') : sMore ch u = sMore ch' u := by
  by_cases c : u.2.2 = 0 ∧ 0 < u.1 ∧ bDig ch u.2.1
  · rw [sMore_pos c.1 c.2.1 c.2.2, sMore_pos c.1 c.2.1 ((chE_bDig h).mp c.2.2), chE_sDig h]
  · rw [sMore_neg c, sMore_neg (fun c' => c ⟨c'.1, c'.2.1, (chE_bDig h).mpr c'.2.2⟩)]
theorem chE_sNum (h : chE ch ch') : sNum ch q = sNum ch' q := by
  unfold sNum; rw [chE_sDig h, chE_sMore h, chE_sMore h]
theorem chE_sOpt {b : Bool} (h : chE ch ch') (h0 : 0 ≤ g.toInt) (h1 : g.toInt ≤ 127) : sOpt ch g b v q = sOpt ch' g b v q := by
  by_cases c : bAcc ch g q
  · have c' := (chE_bAcc h h0 h1).mp c
    cases b
    · rw [sOpt_posD c, sOpt_posD c', chE_sAcc h h0 h1, chE_sDig h]
    · rw [sOpt_posN c, sOpt_posN c', chE_sAcc h h0 h1, chE_sNum h]
  · rw [sOpt_neg c, sOpt_neg (fun c' => c ((chE_bAcc h h0 h1).mpr c'))]
theorem chE_sStm (h : chE ch ch') : sStm ch t q = sStm ch' t q := by
  unfold sStm
  dsimp only
  rw [chE_sNeed (g := 114) h (by decide) (by decide), chE_sNum h, chE_sOpt (g := 98) h (by decide) (by decide), chE_sOpt (g := 108) h (by decide) (by decide), chE_sOpt (g := 100) h (by decide) (by decide), chE_sNeed (g := 59) h (by decide) (by decide)]
theorem chE_sU (h : chE ch ch') : ∀ j, sU ch t j = sU ch' t j
  | 0 => rfl
  | j + 1 => by
    show (sStm ch t (sU ch t j)).2 = (sStm ch' t (sU ch' t j)).2
    rw [chE_sU h j, chE_sStm h]
theorem chE_sTS (h : chE ch ch') (j : Nat) : sTS ch t j = sTS ch' t j := by unfold sTS; rw [chE_sU h, chE_sStm h]
end CHE
theorem mch_E {rw0 : Nat → Int64} {x0 zn : Nat} {el : Nat → Int32} (hz : zn ≤ 100) (hr : ∀ i, i < 100 → rw0 (x0 + i) = (el i).toInt64) (hb : ∀ i, i < 100 → -128 ≤ (el i).toInt ∧ (el i).toInt ≤ 127) : chE (sNext el (nI zn)) (mch rw0 x0 zn) := by
  intro a g h0 h1
  unfold sNext mch
  by_cases c : 0 ≤ a ∧ a < nI zn
  · have e1 := i32le.mp c.1
    have e2 := i32lt.mp c.2
    rw [nI_toInt (by omega)] at e2
    have e3 := (iN_e (i := a) e1).2
    have e4 : iN a < 100 := by omega
    have e5 : a < 100 := i32lt.mpr (by show a.toInt < 100; omega)
    rw [if_pos ⟨c.1, c.2, e5⟩, if_pos c, hr _ e4, l64to]
    have b := hb _ e4
    have d := byte_and b.1 b.2
    rw [← Int32.toInt_inj, ← Int32.toInt_inj, d]
    split <;> omega
  · rw [if_neg (fun q => c ⟨q.1, q.2.1⟩), if_neg c]
    constructor
    · intro e; rw [← e] at h0; exact absurd h0 (by decide)
    · intro e; rw [← e] at h0; exact absurd h0 (by decide)
def mStR (hw : Nat → Int32) (d : Int32) : Int32 := if bSh d then (if hw (iN d) = 0 then -11 else if hw (iN d) = 1 then 0 else -12) else -1
def mRowR (hw : Nat → Int32) (d : Int32) : Int32 := if bSh d then (if hw (iN d) = 0 then -11 else if hw (iN d) = 2 then 0 else -12) else -1
theorem mStR_eq {hw : Nat → Int32} {sh : Nat → Shf} (h : ∀ d, d < 8 → hw d = (sh d).1) (d : Int32) : mStR hw d = sStR sh d := by
  unfold mStR sStR
  by_cases c : bSh d
  · rw [if_pos c, if_pos c, h _ (bSh_i c).2]
  · rw [if_neg c, if_neg c]
theorem mRowR_eq {hw : Nat → Int32} {sh : Nat → Shf} (h : ∀ d, d < 8 → hw d = (sh d).1) (d : Int32) : mRowR hw d = sRowR sh d := by
  unfold mRowR sRowR
  by_cases c : bSh d
  · rw [if_pos c, if_pos c, h _ (bSh_i c).2]
  · rw [if_neg c, if_neg c]
theorem rX_hw {told im hw kd fg so mn : Nat → Int32} {rw0 : Nat → Int64} {pic : Int32} {sc ps : Scn} {sh : Nat → Shf} (h : rX told im hw kd fg so mn rw0 pic sc ps sh) : ∀ d, d < 8 → hw d = (sh d).1 := fun d hd => (h.2.2 d hd).1
section RDM
variable {ch : Int32 → Int32} {g : Int32} {q : Int32 × Int32}
theorem sNeed_bad (h : ¬ (sNeed ch g q).2 = 0) : (sNeed ch g q).2 = 1 := by
  by_cases c : bAcc ch g q
  · rw [sNeed_pos c, sAcc_pos c] at h; exact absurd c.1 h
  · rw [sNeed_neg c]
theorem sNum_bad (h : ¬ q.2 = 0) : sNum ch q = (0, q.1, 1) := by
  unfold sNum
  rw [sDig_neg (fun c => h c.1), sMore_neg (fun c => absurd (show (1 : Int32) = 0 from c.1) (by decide)), sMore_neg (fun c => absurd (show (1 : Int32) = 0 from c.1) (by decide))]
theorem byte_dig {v : Int32} (h1 : -128 ≤ v.toInt ∧ v.toInt ≤ 127) (h : 48 ≤ v &&& 255 ∧ v &&& 255 ≤ 57) : v &&& 255 = v := by
  have a := byte_and h1.1 h1.2
  have b := i32le.mp h.1
  have c := i32le.mp h.2
  have e1 : (48 : Int32).toInt = 48 := rfl
  have e2 : (57 : Int32).toInt = 57 := rfl
  apply Int32.toInt_inj.mp
  rw [a]
  split
  · rw [a, if_pos (by assumption)] at b c; omega
  · rfl
theorem bDig_lt {rw0 : Nat → Int64} {x0 zn : Nat} {a : Int32} (h : bDig (mch rw0 x0 zn) a) : ¬ nI zn ≤ a := by
  intro q
  have h1 := h.1
  rw [mch_end q] at h1
  exact absurd h1 (by decide)
theorem mch_dig {rw0 : Nat → Int64} {x0 zn : Nat} {a : Int32} (h0 : 0 ≤ a.toInt) (hb : ∀ i, i < 100 → -128 ≤ (rw0 (x0 + i)).toInt32.toInt ∧ (rw0 (x0 + i)).toInt32.toInt ≤ 127) (hz : zn ≤ 100) (h : bDig (mch rw0 x0 zn) a) : mch rw0 x0 zn a = (rw0 (x0 + iN a)).toInt32 := by
  have hl := bDig_lt h
  have e := mch_in (rw0 := rw0) (x0 := x0) h0 hl
  have e2 := iN_e h0
  have h2 := i32lt.mp (Int32.not_le.mp hl)
  rw [nI_toInt (by omega)] at h2
  rw [e]
  refine byte_dig (hb _ (by omega)) ⟨?_, ?_⟩
  · rw [← e]; exact h.1
  · rw [← e]; exact h.2
end RDM
end
section
theorem mX7_in : zMd yX7_in cX7_in 6 (some .boolean) 3 := ⟨by decide +kernel, gt_of 890 (by decide +kernel) rfl, gt_of 51 (by decide +kernel) rfl, by decide⟩
theorem dX7_in_0 : decode cX7_in 0 = .ok (.lload_n 0, 1) := by decide +kernel
theorem dX7_in_1 : decode cX7_in 1 = .ok (.lload_n 2, 1) := by decide +kernel
theorem dX7_in_2 : decode cX7_in 2 = .ok (.lcmp, 1) := by decide +kernel
theorem dX7_in_3 : decode cX7_in 3 = .ok (.ifCond .lt 14, 3) := by decide +kernel
theorem dX7_in_17 : decode cX7_in 17 = .ok (.iconst 0, 1) := by decide +kernel
theorem dX7_in_18 : decode cX7_in 18 = .ok (.ireturn, 1) := by decide +kernel
theorem dX7_in_6 : decode cX7_in 6 = .ok (.lload_n 0, 1) := by decide +kernel
theorem dX7_in_7 : decode cX7_in 7 = .ok (.lload 4, 2) := by decide +kernel
theorem dX7_in_9 : decode cX7_in 9 = .ok (.lcmp, 1) := by decide +kernel
theorem dX7_in_10 : decode cX7_in 10 = .ok (.ifCond .gt 7, 3) := by decide +kernel
theorem dX7_in_13 : decode cX7_in 13 = .ok (.iconst 1, 1) := by decide +kernel
theorem dX7_in_14 : decode cX7_in 14 = .ok (.goto 4, 3) := by decide +kernel
set_option maxRecDepth 100000 in
theorem c_X7_in (l : Launch) (D : va_G) (cy : Nat → Nat) (n : Nat) (ad : Nat → Nat) (F : Nat → va_E) (sz : Nat) (v lo hi : Int32) (L H0 : Int64) (hL : L = lo.toInt64) (hH : H0 = hi.toInt64) : Met l yX7_in (zw yX7_in cX7_in 6 (some .boolean)) (rmL 0) (zPc D cy n ad F sz [.long v.toInt64, .long L, .long H0]) (va_Qi (fun r F1 => r = (if bIn v lo hi then 1 else 0) ∧ F = F1) (zB D n ad) (zA n ad sz)) 0 0 (zA n ad sz) := by
  refine zmet (by decide +kernel) (Nat.le_of_ble_eq_true rfl) (fun p e s m args below meth c ls hC hsz hZ hA hr hlocks hnm hl => ?_)
  have hC : zC p m c cX7_in 6 s args RX7 D cy := hC
  have hx := hC.1.1
  have hb := hC.1.2.1
  have hl : lv_has ls 6 [(0, .long v.toInt64), (2, .long L), (4, .long H0)] := hl
  refine lv_lload_n hx hb dX7_in_0 rfl (lv_at hl 0 rfl) ?_
  refine lv_lload_n hx hb dX7_in_1 rfl (lv_at hl 1 rfl) ?_
  refine W.lcmp hx hb dX7_in_2 ?_
  refine lv_if_lt (tgt := 17) hx hb dX7_in_3 (by decide) (fun c_3 => ?_) (fun c_3 => ?_)
  · refine lv_iconst (v := 0) hx hb dX7_in_17 (by decide) ?_
    have hq : (0 : Int32) = if bIn v lo hi then 1 else 0 := (if_neg (fun h => absurd ((bInL_iff hL hH).mpr h).1 (Int64.not_le.mpr ((lg_cmp_lt _ _).mp c_3)))).symm
    exact zbreti hC hZ hr hlocks rfl ⟨hq, rfl⟩ dX7_in_18
  · refine lv_lload_n hx hb dX7_in_6 rfl (lv_at hl 0 rfl) ?_
    refine lv_lload hx hb dX7_in_7 (lv_at hl 2 rfl) ?_
    refine W.lcmp hx hb dX7_in_9 ?_
    refine lv_if_gt (tgt := 17) hx hb dX7_in_10 (by decide) (fun c_10 => ?_) (fun c_10 => ?_)
    · refine lv_iconst (v := 0) hx hb dX7_in_17 (by decide) ?_
      have hq : (0 : Int32) = if bIn v lo hi then 1 else 0 := (if_neg (fun h => absurd ((bInL_iff hL hH).mpr h).2 (Int64.not_le.mpr ((lg_cmp_gt _ _).mp c_10)))).symm
      exact zbreti hC hZ hr hlocks rfl ⟨hq, rfl⟩ dX7_in_18
    · refine lv_iconst (v := 1) hx hb dX7_in_13 (by decide) ?_
      refine lv_goto (tgt := 18) hx hb dX7_in_14 (by decide) ?_
      have hq : (1 : Int32) = if bIn v lo hi then 1 else 0 := (if_pos ((bInL_iff hL hH).mp ⟨(lg_cmp_ge _ _).mp (Int32.not_lt.mp c_3), (lg_cmp_le _ _).mp (Int32.not_lt.mp c_10)⟩)).symm
      exact zbreti hC hZ hr hlocks rfl ⟨hq, rfl⟩ dX7_in_18

theorem mX7_far : zMd yX7_far cX7_far 1 (some .int) 1 := ⟨by decide +kernel, gt_of 1044 (by decide +kernel) rfl, gt_of 51 (by decide +kernel) rfl, by decide⟩
theorem dX7_far_0 : decode cX7_far 0 = .ok (.iload_n 0, 1) := by decide +kernel
theorem dX7_far_1 : decode cX7_far 1 = .ok (.ldc 60, 2) := by decide +kernel
theorem qX7_60 : Cond.constant RX7 60 1000000000 ∈ gtbl := gt_of 1045 (by decide +kernel) rfl
theorem dX7_far_3 : decode cX7_far 3 = .ok (.isub, 1) := by decide +kernel
theorem dX7_far_4 : decode cX7_far 4 = .ok (.ireturn, 1) := by decide +kernel
set_option maxRecDepth 100000 in
theorem c_X7_far (l : Launch) (D : va_G) (cy : Nat → Nat) (n : Nat) (ad : Nat → Nat) (F : Nat → va_E) (sz : Nat) (x : Int32) : Met l yX7_far (zw yX7_far cX7_far 1 (some .int)) (rmL 0) (zPc D cy n ad F sz [.int x]) (va_Qi (fun r F1 => r = x - 1000000000 ∧ F = F1) (zB D n ad) (zA n ad sz)) 0 0 (zA n ad sz) := by
  refine zmet (by decide +kernel) (Nat.le_of_ble_eq_true rfl) (fun p e s m args below meth c ls hC hsz hZ hA hr hlocks hnm hl => ?_)
  have hC : zC p m c cX7_far 1 s args RX7 D cy := hC
  have hx := hC.1.1
  have hb := hC.1.2.1
  have hl : lv_has ls 1 [(0, .int x)] := hl
  refine lv_iload_n hx hb dX7_far_0 rfl (lv_at hl 0 rfl) ?_
  refine lv_ldc (v := 1000000000) hx hb hC.1.2.2.2.1 (hC.1.2.2.2.2 _ qX7_60) dX7_far_1 ?_
  refine lv_isub hx hb dX7_far_3 ?_
  have hq_1 : (x - 1000000000) = x - 1000000000 := by rfl
  exact zireti hC hZ hr hlocks ⟨hq_1, rfl⟩ dX7_far_4

theorem mX7_here : zMd yX7_here cX7_here 1 (some .int) 0 := ⟨by decide +kernel, gt_of 911 (by decide +kernel) rfl, gt_of 51 (by decide +kernel) rfl, by decide⟩
theorem dX7_here_0 : decode cX7_here 0 = .ok (.aload_n 0, 1) := by decide +kernel
theorem dX7_here_1 : decode cX7_here 1 = .ok (.getfield 73, 3) := by decide +kernel
theorem fX7_73 : zFld RX7 73 7 15 := ⟨RX7, TX7, 39, rfl, inX7, by decide, rfl, Or.inl (gt_of 775 (by decide +kernel) rfl)⟩
theorem dX7_here_4 : decode cX7_here 4 = .ok (.aload_n 0, 1) := by decide +kernel
theorem dX7_here_5 : decode cX7_here 5 = .ok (.getfield 76, 3) := by decide +kernel
theorem fX7_76 : zFld RX7 76 7 14 := ⟨RX7, TX7, 39, rfl, inX7, by decide, rfl, Or.inl (gt_of 774 (by decide +kernel) rfl)⟩
theorem dX7_here_8 : decode cX7_here 8 = .ok (.if_icmp .lt 7, 3) := by decide +kernel
theorem dX7_here_15 : decode cX7_here 15 = .ok (.aload_n 0, 1) := by decide +kernel
theorem dX7_here_16 : decode cX7_here 16 = .ok (.getfield 50, 3) := by decide +kernel
theorem fX7_50 : zFld RX7 50 7 37 := ⟨RX7, TX7, 39, rfl, inX7, by decide, rfl, Or.inl (gt_of 797 (by decide +kernel) rfl)⟩
theorem dX7_here_19 : decode cX7_here 19 = .ok (.aload_n 0, 1) := by decide +kernel
theorem dX7_here_20 : decode cX7_here 20 = .ok (.getfield 79, 3) := by decide +kernel
theorem fX7_79 : zFld RX7 79 7 13 := ⟨RX7, TX7, 39, rfl, inX7, by decide, rfl, Or.inl (gt_of 773 (by decide +kernel) rfl)⟩
theorem dX7_here_23 : decode cX7_here 23 = .ok (.aload_n 0, 1) := by decide +kernel
theorem dX7_here_24 : decode cX7_here 24 = .ok (.getfield 73, 3) := by decide +kernel
theorem dX7_here_27 : decode cX7_here 27 = .ok (.iadd, 1) := by decide +kernel
theorem dX7_here_28 : decode cX7_here 28 = .ok (.laload, 1) := by decide +kernel
theorem dX7_here_29 : decode cX7_here 29 = .ok (.l2i, 1) := by decide +kernel
theorem dX7_here_30 : decode cX7_here 30 = .ok (.sipush 255, 3) := by decide +kernel
theorem dX7_here_33 : decode cX7_here 33 = .ok (.iand, 1) := by decide +kernel
theorem dX7_here_34 : decode cX7_here 34 = .ok (.ireturn, 1) := by decide +kernel
theorem dX7_here_11 : decode cX7_here 11 = .ok (.iconst (-1), 1) := by decide +kernel
theorem dX7_here_12 : decode cX7_here 12 = .ok (.goto 22, 3) := by decide +kernel
set_option maxRecDepth 100000 in
theorem c_X7_here (l : Launch) (D : va_G) (cy : Nat → Nat) (n : Nat) (ad : Nat → Nat) (F : Nat → va_E) (sz : Nat) (b : Stg) (ln tc : Int32) (co : Crs) (th bs en : Int32) (u : Int32 × Int32) (st kk dw ho : Int32) (sv : Crs) (pic ia tk : Int32) (hn : 68 ≤ n) (hM : F 56 = oModel ad b ln tc co th bs en u st kk dw ho sv pic ia tk) (rw0 : Nat → Int64) (h66 : F 66 = oLongs cy 800 rw0) (x0 zn : Nat) (hx0 : x0 + 100 ≤ 800) (hzn : zn ≤ 100) (hbs : bs = nI x0) (hen : en = nI zn) (hu : Gq (zn : Int) u) : Met l yX7_here (zw yX7_here cX7_here 1 (some .int)) (rmL 0) (zPc D cy n ad F sz [.ref (ad 56)]) (va_Qi (fun r F1 => r = mch rw0 x0 zn u.1 ∧ F = F1) (zB D n ad) (zA n ad sz)) 0 0 (zA n ad sz) := by
  refine zmet (by decide +kernel) (Nat.le_of_ble_eq_true rfl) (fun p e s m args below meth c ls hC hsz hZ hA hr hlocks hnm hl => ?_)
  have hC : zC p m c cX7_here 1 s args RX7 D cy := hC
  have hx := hC.1.1
  have hb := hC.1.2.1
  have hl : lv_has ls 1 [(0, .ref (ad 56))] := hl
  refine lv_aload_n hx hb dX7_here_0 rfl (lv_at hl 0 rfl) ?_
  refine zget hC hZ fX7_73 (zlt hn rfl) hM rfl dX7_here_1 ?_
  refine lv_aload_n hx hb dX7_here_4 rfl (lv_at hl 0 rfl) ?_
  refine zget hC hZ fX7_76 (zlt hn rfl) hM rfl dX7_here_5 ?_
  refine lv_icmp_lt (tgt := 15) hx hb dX7_here_8 (by decide) (fun c_8 => ?_) (fun c_8 => ?_)
  · refine lv_aload_n hx hb dX7_here_15 rfl (lv_at hl 0 rfl) ?_
    refine zget hC hZ fX7_50 (zlt hn rfl) hM rfl dX7_here_16 ?_
    refine lv_aload_n hx hb dX7_here_19 rfl (lv_at hl 0 rfl) ?_
    refine zget hC hZ fX7_79 (zlt hn rfl) hM rfl dX7_here_20 ?_
    refine lv_aload_n hx hb dX7_here_23 rfl (lv_at hl 0 rfl) ?_
    refine zget hC hZ fX7_73 (zlt hn rfl) hM rfl dX7_here_24 ?_
    refine lv_iadd hx hb dX7_here_27 ?_
    have hix : bs + u.1 = nI (x0 + iN u.1) ∧ x0 + iN u.1 < 800 := by rw [hbs]; exact mch_ix hzn hx0 hu.1 (by rw [← hen]; exact Int32.not_le.mpr c_8)
    refine zlald hC hZ (zlt hn rfl) h66 hix.1 hix.2 (by decide) dX7_here_28 ?_
    refine lv_l2i (v := (rw0 (x0 + iN u.1)).toInt32) hx hb dX7_here_29 rfl ?_
    refine lv_sipush (v := 255) hx hb dX7_here_30 (by decide) ?_
    refine lv_iand hx hb dX7_here_33 ?_
    have hq : ((rw0 (x0 + iN u.1)).toInt32 &&& 255) = mch rw0 x0 zn u.1 := (mch_in hu.1 (by rw [← hen]; exact Int32.not_le.mpr c_8)).symm
    exact zireti hC hZ hr hlocks ⟨hq, rfl⟩ dX7_here_34
  · refine lv_iconst (v := (-1)) hx hb dX7_here_11 (by decide) ?_
    refine lv_goto (tgt := 34) hx hb dX7_here_12 (by decide) ?_
    have hq : (-1 : Int32) = mch rw0 x0 zn u.1 := (mch_end (by rw [← hen]; exact Int32.not_lt.mp c_8)).symm
    exact zireti hC hZ hr hlocks ⟨hq, rfl⟩ dX7_here_34

theorem mX7_take : zMd yX7_take cX7_take 2 none 1 := ⟨by decide +kernel, gt_of 907 (by decide +kernel) rfl, gt_of 51 (by decide +kernel) rfl, by decide⟩
theorem dX7_take_0 : decode cX7_take 0 = .ok (.aload_n 0, 1) := by decide +kernel
theorem dX7_take_1 : decode cX7_take 1 = .ok (.aload_n 0, 1) := by decide +kernel
theorem dX7_take_2 : decode cX7_take 2 = .ok (.getfield 82, 3) := by decide +kernel
theorem fX7_82 : zFld RX7 82 7 16 := ⟨RX7, TX7, 39, rfl, inX7, by decide, rfl, Or.inl (gt_of 776 (by decide +kernel) rfl)⟩
theorem dX7_take_5 : decode cX7_take 5 = .ok (.ifCond .ne 11, 3) := by decide +kernel
theorem dX7_take_16 : decode cX7_take 16 = .ok (.iconst 1, 1) := by decide +kernel
theorem dX7_take_17 : decode cX7_take 17 = .ok (.goto 4, 3) := by decide +kernel
theorem dX7_take_21 : decode cX7_take 21 = .ok (.putfield 82, 3) := by decide +kernel
theorem pX7_82 : zFldP RX7 82 7 16 false .boolean := ⟨RX7, TX7, 39, tyX7, rfl, inX7, by decide, rfl, Or.inl (gt_of 776 (by decide +kernel) rfl), tyX7_ok, nmX7, rfl, by decide +kernel, fun h => by cases h⟩
theorem dX7_take_24 : decode cX7_take 24 = .ok (.aload_n 0, 1) := by decide +kernel
theorem dX7_take_25 : decode cX7_take 25 = .ok (.dup, 1) := by decide +kernel
theorem dX7_take_26 : decode cX7_take 26 = .ok (.getfield 73, 3) := by decide +kernel
theorem dX7_take_29 : decode cX7_take 29 = .ok (.aload_n 0, 1) := by decide +kernel
theorem dX7_take_30 : decode cX7_take 30 = .ok (.getfield 82, 3) := by decide +kernel
theorem dX7_take_33 : decode cX7_take 33 = .ok (.ifCond .eq 7, 3) := by decide +kernel
theorem dX7_take_36 : decode cX7_take 36 = .ok (.iconst 0, 1) := by decide +kernel
theorem dX7_take_37 : decode cX7_take 37 = .ok (.goto 4, 3) := by decide +kernel
theorem dX7_take_41 : decode cX7_take 41 = .ok (.iadd, 1) := by decide +kernel
theorem dX7_take_42 : decode cX7_take 42 = .ok (.putfield 73, 3) := by decide +kernel
theorem pX7_73 : zFldP RX7 73 7 15 false .int := ⟨RX7, TX7, 39, tyX7, rfl, inX7, by decide, rfl, Or.inl (gt_of 775 (by decide +kernel) rfl), tyX7_ok, nmX7, rfl, by decide +kernel, fun h => by cases h⟩
theorem dX7_take_45 : decode cX7_take 45 = .ok (.return_, 1) := by decide +kernel
theorem dX7_take_8 : decode cX7_take 8 = .ok (.aload_n 0, 1) := by decide +kernel
theorem dX7_take_9 : decode cX7_take 9 = .ok (.invokevirtual 86, 3) := by decide +kernel
theorem kX7_86 : zLk RX7 86 yX7_here := Or.inl (gt_of 908 (by decide +kernel) rfl)
theorem vX7_here : zMi yX7_here := ⟨gt_of 910 (by decide +kernel) rfl, gt_of 21 (by decide +kernel) rfl⟩
theorem dX7_take_12 : decode cX7_take 12 = .ok (.iload_n 1, 1) := by decide +kernel
theorem dX7_take_13 : decode cX7_take 13 = .ok (.if_icmp .eq 7, 3) := by decide +kernel
theorem dX7_take_20 : decode cX7_take 20 = .ok (.iconst 0, 1) := by decide +kernel
theorem dX7_take_40 : decode cX7_take 40 = .ok (.iconst 1, 1) := by decide +kernel
set_option maxRecDepth 100000 in
theorem c_X7_take (l : Launch) (D : va_G) (cy : Nat → Nat) (n : Nat) (ad : Nat → Nat) (F : Nat → va_E) (sz : Nat) (b : Stg) (ln tc : Int32) (co : Crs) (th bs en : Int32) (u : Int32 × Int32) (st kk dw ho : Int32) (sv : Crs) (pic ia tk : Int32) (hn : 68 ≤ n) (hM : F 56 = oModel ad b ln tc co th bs en u st kk dw ho sv pic ia tk) (rw0 : Nat → Int64) (h66 : F 66 = oLongs cy 800 rw0) (g : Int32) (x0 zn : Nat) (hx0 : x0 + 100 ≤ 800) (hzn : zn ≤ 100) (hbs : bs = nI x0) (hen : en = nI zn) (hu : Gq (zn : Int) u) : Met l yX7_take (zw yX7_take cX7_take 2 none) (rmL 1) (zPc D cy n ad F sz [.ref (ad 56), .int g]) (va_Qv (fun F1 => F1 = va_up F 56 (oModel ad b ln tc co th bs en (sNeed (mch rw0 x0 zn) g u) st kk dw ho sv pic ia tk)) (zB D n ad) (zA n ad sz)) 0 0 (zA n ad sz) := by
  refine zmet (by decide +kernel) (Nat.le_of_ble_eq_true rfl) (fun p e s m args below meth c ls hC hsz hZ hA hr hlocks hnm hl => ?_)
  have hC : zC p m c cX7_take 2 s args RX7 D cy := hC
  have hx := hC.1.1
  have hb := hC.1.2.1
  have hl : lv_has ls 2 [(0, .ref (ad 56)), (1, .int g)] := hl
  refine lv_aload_n hx hb dX7_take_0 rfl (lv_at hl 0 rfl) ?_
  refine lv_aload_n hx hb dX7_take_1 rfl (lv_at hl 0 rfl) ?_
  refine zget hC hZ fX7_82 (zlt hn rfl) hM rfl dX7_take_2 ?_
  refine lv_if_ne (tgt := 16) hx hb dX7_take_5 (by decide) (fun c_5 => ?_) (fun c_5 => ?_)
  · refine lv_iconst (v := 1) hx hb dX7_take_16 (by decide) ?_
    refine lv_goto (tgt := 21) hx hb dX7_take_17 (by decide) ?_
    refine zput (E := oModel ad b ln tc co th bs en (u.1, 1) st kk dw ho sv pic ia tk) hC hZ pX7_82 (zlt hn rfl) hM rfl rfl rfl (Nat.le_of_ble_eq_true rfl) dX7_take_21 (fun F_1 hF_2 H locs hZ => ?_)
    have h_3 := zeq hF_2
    refine lv_aload_n hx hb dX7_take_24 rfl (lv_at hl 0 rfl) ?_
    refine lv_dup hx hb dX7_take_25 rfl ?_
    refine zget hC hZ fX7_73 (zlt hn rfl) h_3 rfl dX7_take_26 ?_
    refine lv_aload_n hx hb dX7_take_29 rfl (lv_at hl 0 rfl) ?_
    refine zget hC hZ fX7_82 (zlt hn rfl) h_3 rfl dX7_take_30 ?_
    refine lv_if_eq (tgt := 40) hx hb dX7_take_33 (by decide) (fun h => absurd (show (1 : Int32) = 0 from h) (by decide)) (fun _ => ?_)
    refine lv_iconst (v := 0) hx hb dX7_take_36 (by decide) ?_
    refine lv_goto (tgt := 41) hx hb dX7_take_37 (by decide) ?_
    refine lv_iadd hx hb dX7_take_41 ?_
    refine zput (E := oModel ad b ln tc co th bs en ((u.1 + 0), 1) st kk dw ho sv pic ia tk) hC hZ pX7_73 (zlt hn rfl) h_3 rfl rfl rfl (Nat.le_of_ble_eq_true rfl) dX7_take_42 (fun F_4 hF_5 H locs hZ => ?_)
    have h_6 := zeq hF_5
    have hq : F_4 = va_up F 56 (oModel ad b ln tc co th bs en (sNeed (mch rw0 x0 zn) g u) st kk dw ho sv pic ia tk) := by
      rw [sNeed_neg (fun h => c_5 h.1), hF_5, hF_2]; simp only [bx_uu, Int32.add_zero]
    exact zvret hC hZ hr hlocks hq dX7_take_45
  · refine lv_aload_n hx hb dX7_take_8 rfl (lv_at hl 0 rfl) ?_
    refine zgoi hZ hA (zrunV (As := []) (rest := [.ref (ad 56)]) (k := 56) hC hZ (c_X7_here l D cy n ad F s.heap.size b ln tc co th bs en u st kk dw ho sv pic ia tk hn hM rw0 h66 x0 zn hx0 hzn hbs hen hu) mX7_here vX7_here kX7_86 (zRj_of rfl) (zlt hn rfl) hM rfl rfl hl.1 rfl (Nat.le_of_ble_eq_true rfl) dX7_take_9 ⟨Nat.le_refl _, Nat.le_refl _⟩) (fun r_8 F_7 hp_9 H locs hZ => ?_)
    obtain ⟨rfl, rfl⟩ := hp_9
    refine lv_iload_n hx hb dX7_take_12 rfl (lv_at hl 1 rfl) ?_
    refine lv_icmp_eq (tgt := 20) hx hb dX7_take_13 (by decide) (fun c_13 => ?_) (fun c_13 => ?_)
    · refine lv_iconst (v := 0) hx hb dX7_take_20 (by decide) ?_
      refine zput (E := oModel ad b ln tc co th bs en (u.1, 0) st kk dw ho sv pic ia tk) hC hZ pX7_82 (zlt hn rfl) hM rfl rfl rfl (Nat.le_of_ble_eq_true rfl) dX7_take_21 (fun F_10 hF_11 H locs hZ => ?_)
      have h_12 := zeq hF_11
      refine lv_aload_n hx hb dX7_take_24 rfl (lv_at hl 0 rfl) ?_
      refine lv_dup hx hb dX7_take_25 rfl ?_
      refine zget hC hZ fX7_73 (zlt hn rfl) h_12 rfl dX7_take_26 ?_
      refine lv_aload_n hx hb dX7_take_29 rfl (lv_at hl 0 rfl) ?_
      refine zget hC hZ fX7_82 (zlt hn rfl) h_12 rfl dX7_take_30 ?_
      refine lv_if_eq (tgt := 40) hx hb dX7_take_33 (by decide) (fun _ => ?_) (fun h => absurd (show (0 : Int32) = 0 by decide) h)
      refine lv_iconst (v := 1) hx hb dX7_take_40 (by decide) ?_
      refine lv_iadd hx hb dX7_take_41 ?_
      refine zput (E := oModel ad b ln tc co th bs en ((u.1 + 1), 0) st kk dw ho sv pic ia tk) hC hZ pX7_73 (zlt hn rfl) h_12 rfl rfl rfl (Nat.le_of_ble_eq_true rfl) dX7_take_42 (fun F_13 hF_14 H locs hZ => ?_)
      have h_15 := zeq hF_14
      have hq : F_13 = va_up F 56 (oModel ad b ln tc co th bs en (sNeed (mch rw0 x0 zn) g u) st kk dw ho sv pic ia tk) := by
        rw [sNeed_pos (q := u) (ch := (mch rw0 x0 zn)) (g := g) ⟨c_5, c_13⟩, sAcc_pos (q := u) (ch := (mch rw0 x0 zn)) (g := g) ⟨c_5, c_13⟩, c_5, hF_14, hF_11]; simp only [bx_uu, Int32.add_zero]
      exact zvret hC hZ hr hlocks hq dX7_take_45
    · refine lv_iconst (v := 1) hx hb dX7_take_16 (by decide) ?_
      refine lv_goto (tgt := 21) hx hb dX7_take_17 (by decide) ?_
      refine zput (E := oModel ad b ln tc co th bs en (u.1, 1) st kk dw ho sv pic ia tk) hC hZ pX7_82 (zlt hn rfl) hM rfl rfl rfl (Nat.le_of_ble_eq_true rfl) dX7_take_21 (fun F_16 hF_17 H locs hZ => ?_)
      have h_18 := zeq hF_17
      refine lv_aload_n hx hb dX7_take_24 rfl (lv_at hl 0 rfl) ?_
      refine lv_dup hx hb dX7_take_25 rfl ?_
      refine zget hC hZ fX7_73 (zlt hn rfl) h_18 rfl dX7_take_26 ?_
      refine lv_aload_n hx hb dX7_take_29 rfl (lv_at hl 0 rfl) ?_
      refine zget hC hZ fX7_82 (zlt hn rfl) h_18 rfl dX7_take_30 ?_
      refine lv_if_eq (tgt := 40) hx hb dX7_take_33 (by decide) (fun h => absurd (show (1 : Int32) = 0 from h) (by decide)) (fun _ => ?_)
      refine lv_iconst (v := 0) hx hb dX7_take_36 (by decide) ?_
      refine lv_goto (tgt := 41) hx hb dX7_take_37 (by decide) ?_
      refine lv_iadd hx hb dX7_take_41 ?_
      refine zput (E := oModel ad b ln tc co th bs en ((u.1 + 0), 1) st kk dw ho sv pic ia tk) hC hZ pX7_73 (zlt hn rfl) h_18 rfl rfl rfl (Nat.le_of_ble_eq_true rfl) dX7_take_42 (fun F_19 hF_20 H locs hZ => ?_)
      have h_21 := zeq hF_20
      have hq : F_19 = va_up F 56 (oModel ad b ln tc co th bs en (sNeed (mch rw0 x0 zn) g u) st kk dw ho sv pic ia tk) := by
        rw [sNeed_neg (fun h => c_13 h.2), hF_20, hF_17]; simp only [bx_uu, Int32.add_zero]
      exact zvret hC hZ hr hlocks hq dX7_take_45

theorem mX7_hasLetter : zMd yX7_hasLetter cX7_hasLetter 3 (some .boolean) 1 := ⟨by decide +kernel, gt_of 925 (by decide +kernel) rfl, gt_of 51 (by decide +kernel) rfl, by decide⟩
theorem dX7_hasLetter_0 : decode cX7_hasLetter 0 = .ok (.aload_n 0, 1) := by decide +kernel
theorem dX7_hasLetter_1 : decode cX7_hasLetter 1 = .ok (.getfield 82, 3) := by decide +kernel
theorem dX7_hasLetter_4 : decode cX7_hasLetter 4 = .ok (.ifCond .ne 15, 3) := by decide +kernel
theorem dX7_hasLetter_19 : decode cX7_hasLetter 19 = .ok (.iconst 0, 1) := by decide +kernel
theorem dX7_hasLetter_20 : decode cX7_hasLetter 20 = .ok (.istore_n 2, 1) := by decide +kernel
theorem dX7_hasLetter_21 : decode cX7_hasLetter 21 = .ok (.aload_n 0, 1) := by decide +kernel
theorem dX7_hasLetter_22 : decode cX7_hasLetter 22 = .ok (.dup, 1) := by decide +kernel
theorem dX7_hasLetter_23 : decode cX7_hasLetter 23 = .ok (.getfield 73, 3) := by decide +kernel
theorem dX7_hasLetter_26 : decode cX7_hasLetter 26 = .ok (.iload_n 2, 1) := by decide +kernel
theorem dX7_hasLetter_27 : decode cX7_hasLetter 27 = .ok (.ifCond .eq 7, 3) := by decide +kernel
theorem dX7_hasLetter_34 : decode cX7_hasLetter 34 = .ok (.iconst 0, 1) := by decide +kernel
theorem dX7_hasLetter_35 : decode cX7_hasLetter 35 = .ok (.iadd, 1) := by decide +kernel
theorem dX7_hasLetter_36 : decode cX7_hasLetter 36 = .ok (.putfield 73, 3) := by decide +kernel
theorem dX7_hasLetter_39 : decode cX7_hasLetter 39 = .ok (.iload_n 2, 1) := by decide +kernel
theorem dX7_hasLetter_40 : decode cX7_hasLetter 40 = .ok (.ireturn, 1) := by decide +kernel
theorem dX7_hasLetter_7 : decode cX7_hasLetter 7 = .ok (.aload_n 0, 1) := by decide +kernel
theorem dX7_hasLetter_8 : decode cX7_hasLetter 8 = .ok (.invokevirtual 86, 3) := by decide +kernel
theorem dX7_hasLetter_11 : decode cX7_hasLetter 11 = .ok (.iload_n 1, 1) := by decide +kernel
theorem dX7_hasLetter_12 : decode cX7_hasLetter 12 = .ok (.if_icmp .ne 7, 3) := by decide +kernel
theorem dX7_hasLetter_15 : decode cX7_hasLetter 15 = .ok (.iconst 1, 1) := by decide +kernel
theorem dX7_hasLetter_16 : decode cX7_hasLetter 16 = .ok (.goto 4, 3) := by decide +kernel
theorem dX7_hasLetter_30 : decode cX7_hasLetter 30 = .ok (.iconst 1, 1) := by decide +kernel
theorem dX7_hasLetter_31 : decode cX7_hasLetter 31 = .ok (.goto 4, 3) := by decide +kernel
set_option maxRecDepth 100000 in
theorem c_X7_hasLetter (l : Launch) (D : va_G) (cy : Nat → Nat) (n : Nat) (ad : Nat → Nat) (F : Nat → va_E) (sz : Nat) (b : Stg) (ln tc : Int32) (co : Crs) (th bs en : Int32) (u : Int32 × Int32) (st kk dw ho : Int32) (sv : Crs) (pic ia tk : Int32) (hn : 68 ≤ n) (hM : F 56 = oModel ad b ln tc co th bs en u st kk dw ho sv pic ia tk) (rw0 : Nat → Int64) (h66 : F 66 = oLongs cy 800 rw0) (g : Int32) (x0 zn : Nat) (hx0 : x0 + 100 ≤ 800) (hzn : zn ≤ 100) (hbs : bs = nI x0) (hen : en = nI zn) (hu : Gq (zn : Int) u) : Met l yX7_hasLetter (zw yX7_hasLetter cX7_hasLetter 3 (some .boolean)) (rmL 1) (zPc D cy n ad F sz [.ref (ad 56), .int g]) (va_Qi (fun r F1 => r = (if bAcc (mch rw0 x0 zn) g u then 1 else 0) ∧ F1 = va_up F 56 (oModel ad b ln tc co th bs en (sAcc (mch rw0 x0 zn) g u) st kk dw ho sv pic ia tk)) (zB D n ad) (zA n ad sz)) 0 0 (zA n ad sz) := by
  refine zmet (by decide +kernel) (Nat.le_of_ble_eq_true rfl) (fun p e s m args below meth c ls hC hsz hZ hA hr hlocks hnm hl => ?_)
  have hC : zC p m c cX7_hasLetter 3 s args RX7 D cy := hC
  have hx := hC.1.1
  have hb := hC.1.2.1
  have hl : lv_has ls 3 [(0, .ref (ad 56)), (1, .int g)] := hl
  refine lv_aload_n hx hb dX7_hasLetter_0 rfl (lv_at hl 0 rfl) ?_
  refine zget hC hZ fX7_82 (zlt hn rfl) hM rfl dX7_hasLetter_1 ?_
  refine lv_if_ne (tgt := 19) hx hb dX7_hasLetter_4 (by decide) (fun c_4 => ?_) (fun c_4 => ?_)
  · refine lv_iconst (v := 0) hx hb dX7_hasLetter_19 (by decide) ?_
    refine lv_istore_n (lv' := [(2, .int 0), (0, .ref (ad 56)), (1, .int g)]) hx hb dX7_hasLetter_20 rfl hl (by decide) rfl (fun ls hl => ?_)
    refine lv_aload_n hx hb dX7_hasLetter_21 rfl (lv_at hl 1 rfl) ?_
    refine lv_dup hx hb dX7_hasLetter_22 rfl ?_
    refine zget hC hZ fX7_73 (zlt hn rfl) hM rfl dX7_hasLetter_23 ?_
    refine lv_iload_n hx hb dX7_hasLetter_26 rfl (lv_at hl 0 rfl) ?_
    refine lv_if_eq (tgt := 34) hx hb dX7_hasLetter_27 (by decide) (fun _ => ?_) (fun h => absurd (show (0 : Int32) = 0 by decide) h)
    refine lv_iconst (v := 0) hx hb dX7_hasLetter_34 (by decide) ?_
    refine lv_iadd hx hb dX7_hasLetter_35 ?_
    refine zput (E := oModel ad b ln tc co th bs en ((u.1 + 0), u.2) st kk dw ho sv pic ia tk) hC hZ pX7_73 (zlt hn rfl) hM rfl rfl rfl (Nat.le_of_ble_eq_true rfl) dX7_hasLetter_36 (fun F_1 hF_2 H locs hZ => ?_)
    have h_3 := zeq hF_2
    refine lv_iload_n hx hb dX7_hasLetter_39 rfl (lv_at hl 0 rfl) ?_
    have hq0 : (0 : Int32) = if bAcc (mch rw0 x0 zn) g u then 1 else 0 := (if_neg (fun h => c_4 h.1)).symm
    have hq : F_1 = va_up F 56 (oModel ad b ln tc co th bs en (sAcc (mch rw0 x0 zn) g u) st kk dw ho sv pic ia tk) := by
      rw [sAcc_neg (q := u) (ch := (mch rw0 x0 zn)) (g := g) (fun h => c_4 h.1), hF_2]; simp only [Int32.add_zero]
    exact zbreti hC hZ hr hlocks rfl ⟨hq0, hq⟩ dX7_hasLetter_40
  · refine lv_aload_n hx hb dX7_hasLetter_7 rfl (lv_at hl 0 rfl) ?_
    refine zgoi hZ hA (zrunV (As := []) (rest := []) (k := 56) hC hZ (c_X7_here l D cy n ad F s.heap.size b ln tc co th bs en u st kk dw ho sv pic ia tk hn hM rw0 h66 x0 zn hx0 hzn hbs hen hu) mX7_here vX7_here kX7_86 (zRj_of rfl) (zlt hn rfl) hM rfl rfl hl.1 rfl (Nat.le_of_ble_eq_true rfl) dX7_hasLetter_8 ⟨Nat.le_refl _, Nat.le_refl _⟩) (fun r_5 F_4 hp_6 H locs hZ => ?_)
    obtain ⟨rfl, rfl⟩ := hp_6
    refine lv_iload_n hx hb dX7_hasLetter_11 rfl (lv_at hl 1 rfl) ?_
    refine lv_icmp_ne (tgt := 19) hx hb dX7_hasLetter_12 (by decide) (fun c_12 => ?_) (fun c_12 => ?_)
    · refine lv_iconst (v := 0) hx hb dX7_hasLetter_19 (by decide) ?_
      refine lv_istore_n (lv' := [(2, .int 0), (0, .ref (ad 56)), (1, .int g)]) hx hb dX7_hasLetter_20 rfl hl (by decide) rfl (fun ls hl => ?_)
      refine lv_aload_n hx hb dX7_hasLetter_21 rfl (lv_at hl 1 rfl) ?_
      refine lv_dup hx hb dX7_hasLetter_22 rfl ?_
      refine zget hC hZ fX7_73 (zlt hn rfl) hM rfl dX7_hasLetter_23 ?_
      refine lv_iload_n hx hb dX7_hasLetter_26 rfl (lv_at hl 0 rfl) ?_
      refine lv_if_eq (tgt := 34) hx hb dX7_hasLetter_27 (by decide) (fun _ => ?_) (fun h => absurd (show (0 : Int32) = 0 by decide) h)
      refine lv_iconst (v := 0) hx hb dX7_hasLetter_34 (by decide) ?_
      refine lv_iadd hx hb dX7_hasLetter_35 ?_
      refine zput (E := oModel ad b ln tc co th bs en ((u.1 + 0), u.2) st kk dw ho sv pic ia tk) hC hZ pX7_73 (zlt hn rfl) hM rfl rfl rfl (Nat.le_of_ble_eq_true rfl) dX7_hasLetter_36 (fun F_7 hF_8 H locs hZ => ?_)
      have h_9 := zeq hF_8
      refine lv_iload_n hx hb dX7_hasLetter_39 rfl (lv_at hl 0 rfl) ?_
      have hq0 : (0 : Int32) = if bAcc (mch rw0 x0 zn) g u then 1 else 0 := (if_neg (fun h => c_12 h.2)).symm
      have hq : F_7 = va_up F 56 (oModel ad b ln tc co th bs en (sAcc (mch rw0 x0 zn) g u) st kk dw ho sv pic ia tk) := by
        rw [sAcc_neg (q := u) (ch := (mch rw0 x0 zn)) (g := g) (fun h => c_12 h.2), hF_8]; simp only [Int32.add_zero]
      exact zbreti hC hZ hr hlocks rfl ⟨hq0, hq⟩ dX7_hasLetter_40
    · refine lv_iconst (v := 1) hx hb dX7_hasLetter_15 (by decide) ?_
      refine lv_goto (tgt := 20) hx hb dX7_hasLetter_16 (by decide) ?_
      refine lv_istore_n (lv' := [(2, .int 1), (0, .ref (ad 56)), (1, .int g)]) hx hb dX7_hasLetter_20 rfl hl (by decide) rfl (fun ls hl => ?_)
      refine lv_aload_n hx hb dX7_hasLetter_21 rfl (lv_at hl 1 rfl) ?_
      refine lv_dup hx hb dX7_hasLetter_22 rfl ?_
      refine zget hC hZ fX7_73 (zlt hn rfl) hM rfl dX7_hasLetter_23 ?_
      refine lv_iload_n hx hb dX7_hasLetter_26 rfl (lv_at hl 0 rfl) ?_
      refine lv_if_eq (tgt := 34) hx hb dX7_hasLetter_27 (by decide) (fun h => absurd (show (1 : Int32) = 0 from h) (by decide)) (fun _ => ?_)
      refine lv_iconst (v := 1) hx hb dX7_hasLetter_30 (by decide) ?_
      refine lv_goto (tgt := 35) hx hb dX7_hasLetter_31 (by decide) ?_
      refine lv_iadd hx hb dX7_hasLetter_35 ?_
      refine zput (E := oModel ad b ln tc co th bs en ((u.1 + 1), u.2) st kk dw ho sv pic ia tk) hC hZ pX7_73 (zlt hn rfl) hM rfl rfl rfl (Nat.le_of_ble_eq_true rfl) dX7_hasLetter_36 (fun F_10 hF_11 H locs hZ => ?_)
      have h_12 := zeq hF_11
      refine lv_iload_n hx hb dX7_hasLetter_39 rfl (lv_at hl 0 rfl) ?_
      have hq0 : (1 : Int32) = if bAcc (mch rw0 x0 zn) g u then 1 else 0 := (if_pos ⟨c_4, c_12⟩).symm
      have hq : F_10 = va_up F 56 (oModel ad b ln tc co th bs en (sAcc (mch rw0 x0 zn) g u) st kk dw ho sv pic ia tk) := by
        rw [sAcc_pos (q := u) (ch := (mch rw0 x0 zn)) (g := g) ⟨c_4, c_12⟩, hF_11]
      exact zbreti hC hZ hr hlocks rfl ⟨hq0, hq⟩ dX7_hasLetter_40

theorem mX7_readDigit : zMd yX7_readDigit cX7_readDigit 1 (some .int) 0 := ⟨by decide +kernel, gt_of 919 (by decide +kernel) rfl, gt_of 51 (by decide +kernel) rfl, by decide⟩
theorem dX7_readDigit_0 : decode cX7_readDigit 0 = .ok (.aload_n 0, 1) := by decide +kernel
theorem dX7_readDigit_1 : decode cX7_readDigit 1 = .ok (.aload_n 0, 1) := by decide +kernel
theorem dX7_readDigit_2 : decode cX7_readDigit 2 = .ok (.getfield 82, 3) := by decide +kernel
theorem dX7_readDigit_5 : decode cX7_readDigit 5 = .ok (.ifCond .ne 20, 3) := by decide +kernel
theorem dX7_readDigit_25 : decode cX7_readDigit 25 = .ok (.iconst 1, 1) := by decide +kernel
theorem dX7_readDigit_26 : decode cX7_readDigit 26 = .ok (.goto 4, 3) := by decide +kernel
theorem dX7_readDigit_30 : decode cX7_readDigit 30 = .ok (.putfield 82, 3) := by decide +kernel
theorem dX7_readDigit_33 : decode cX7_readDigit 33 = .ok (.aload_n 0, 1) := by decide +kernel
theorem dX7_readDigit_34 : decode cX7_readDigit 34 = .ok (.getfield 82, 3) := by decide +kernel
theorem dX7_readDigit_37 : decode cX7_readDigit 37 = .ok (.ifCond .eq 5, 3) := by decide +kernel
theorem dX7_readDigit_40 : decode cX7_readDigit 40 = .ok (.iconst 0, 1) := by decide +kernel
theorem dX7_readDigit_41 : decode cX7_readDigit 41 = .ok (.ireturn, 1) := by decide +kernel
theorem dX7_readDigit_8 : decode cX7_readDigit 8 = .ok (.aload_n 0, 1) := by decide +kernel
theorem dX7_readDigit_9 : decode cX7_readDigit 9 = .ok (.invokevirtual 86, 3) := by decide +kernel
theorem dX7_readDigit_12 : decode cX7_readDigit 12 = .ok (.i2l, 1) := by decide +kernel
theorem dX7_readDigit_13 : decode cX7_readDigit 13 = .ok (.ldc2_w 90, 3) := by decide +kernel
theorem qX7_90 : Cond.constantLong RX7 90 48 ∈ gtbl := gt_of 920 (by decide +kernel) rfl
theorem dX7_readDigit_16 : decode cX7_readDigit 16 = .ok (.ldc2_w 92, 3) := by decide +kernel
theorem qX7_92 : Cond.constantLong RX7 92 57 ∈ gtbl := gt_of 921 (by decide +kernel) rfl
theorem dX7_readDigit_19 : decode cX7_readDigit 19 = .ok (.invokestatic 63, 3) := by decide +kernel
theorem kX7_63 : zLk RX7 63 yX7_in := Or.inl (gt_of 888 (by decide +kernel) rfl)
theorem sX7_in : Cond.static yX7_in ∈ gtbl := gt_of 889 (by decide +kernel) rfl
theorem dX7_readDigit_22 : decode cX7_readDigit 22 = .ok (.ifCond .ne 7, 3) := by decide +kernel
theorem dX7_readDigit_29 : decode cX7_readDigit 29 = .ok (.iconst 0, 1) := by decide +kernel
theorem dX7_readDigit_42 : decode cX7_readDigit 42 = .ok (.aload_n 0, 1) := by decide +kernel
theorem dX7_readDigit_43 : decode cX7_readDigit 43 = .ok (.dup, 1) := by decide +kernel
theorem dX7_readDigit_44 : decode cX7_readDigit 44 = .ok (.getfield 73, 3) := by decide +kernel
theorem dX7_readDigit_47 : decode cX7_readDigit 47 = .ok (.iconst 1, 1) := by decide +kernel
theorem dX7_readDigit_48 : decode cX7_readDigit 48 = .ok (.iadd, 1) := by decide +kernel
theorem dX7_readDigit_49 : decode cX7_readDigit 49 = .ok (.putfield 73, 3) := by decide +kernel
theorem dX7_readDigit_52 : decode cX7_readDigit 52 = .ok (.aload_n 0, 1) := by decide +kernel
theorem dX7_readDigit_53 : decode cX7_readDigit 53 = .ok (.getfield 50, 3) := by decide +kernel
theorem dX7_readDigit_56 : decode cX7_readDigit 56 = .ok (.aload_n 0, 1) := by decide +kernel
theorem dX7_readDigit_57 : decode cX7_readDigit 57 = .ok (.getfield 79, 3) := by decide +kernel
theorem dX7_readDigit_60 : decode cX7_readDigit 60 = .ok (.aload_n 0, 1) := by decide +kernel
theorem dX7_readDigit_61 : decode cX7_readDigit 61 = .ok (.getfield 73, 3) := by decide +kernel
theorem dX7_readDigit_64 : decode cX7_readDigit 64 = .ok (.iadd, 1) := by decide +kernel
theorem dX7_readDigit_65 : decode cX7_readDigit 65 = .ok (.iconst 1, 1) := by decide +kernel
theorem dX7_readDigit_66 : decode cX7_readDigit 66 = .ok (.isub, 1) := by decide +kernel
theorem dX7_readDigit_67 : decode cX7_readDigit 67 = .ok (.laload, 1) := by decide +kernel
theorem dX7_readDigit_68 : decode cX7_readDigit 68 = .ok (.l2i, 1) := by decide +kernel
theorem dX7_readDigit_69 : decode cX7_readDigit 69 = .ok (.bipush 48, 2) := by decide +kernel
theorem dX7_readDigit_71 : decode cX7_readDigit 71 = .ok (.isub, 1) := by decide +kernel
theorem dX7_readDigit_72 : decode cX7_readDigit 72 = .ok (.ireturn, 1) := by decide +kernel
set_option maxRecDepth 100000 in
theorem c_X7_readDigit (l : Launch) (D : va_G) (cy : Nat → Nat) (n : Nat) (ad : Nat → Nat) (F : Nat → va_E) (sz : Nat) (b : Stg) (ln tc : Int32) (co : Crs) (th bs en : Int32) (u : Int32 × Int32) (st kk dw ho : Int32) (sv : Crs) (pic ia tk : Int32) (hn : 68 ≤ n) (hM : F 56 = oModel ad b ln tc co th bs en u st kk dw ho sv pic ia tk) (rw0 : Nat → Int64) (h66 : F 66 = oLongs cy 800 rw0) (x0 zn : Nat) (hx0 : x0 + 100 ≤ 800) (hzn : zn ≤ 100) (hbs : bs = nI x0) (hen : en = nI zn) (hu : Gq (zn : Int) u) (hby : ∀ i, i < 100 → -128 ≤ (rw0 (x0 + i)).toInt32.toInt ∧ (rw0 (x0 + i)).toInt32.toInt ≤ 127) : Met l yX7_readDigit (zw yX7_readDigit cX7_readDigit 1 (some .int)) (rmL 1) (zPc D cy n ad F sz [.ref (ad 56)]) (va_Qi (fun r F1 => r = (sDig (mch rw0 x0 zn) u).1 ∧ F1 = va_up F 56 (oModel ad b ln tc co th bs en ((sDig (mch rw0 x0 zn) u).2) st kk dw ho sv pic ia tk)) (zB D n ad) (zA n ad sz)) 0 0 (zA n ad sz) := by
  refine zmet (by decide +kernel) (Nat.le_of_ble_eq_true rfl) (fun p e s m args below meth c ls hC hsz hZ hA hr hlocks hnm hl => ?_)
  have hC : zC p m c cX7_readDigit 1 s args RX7 D cy := hC
  have hx := hC.1.1
  have hb := hC.1.2.1
  have hl : lv_has ls 1 [(0, .ref (ad 56))] := hl
  refine lv_aload_n hx hb dX7_readDigit_0 rfl (lv_at hl 0 rfl) ?_
  refine lv_aload_n hx hb dX7_readDigit_1 rfl (lv_at hl 0 rfl) ?_
  refine zget hC hZ fX7_82 (zlt hn rfl) hM rfl dX7_readDigit_2 ?_
  refine lv_if_ne (tgt := 25) hx hb dX7_readDigit_5 (by decide) (fun c_5 => ?_) (fun c_5 => ?_)
  · refine lv_iconst (v := 1) hx hb dX7_readDigit_25 (by decide) ?_
    refine lv_goto (tgt := 30) hx hb dX7_readDigit_26 (by decide) ?_
    refine zput (E := oModel ad b ln tc co th bs en (u.1, 1) st kk dw ho sv pic ia tk) hC hZ pX7_82 (zlt hn rfl) hM rfl rfl rfl (Nat.le_of_ble_eq_true rfl) dX7_readDigit_30 (fun F_1 hF_2 H locs hZ => ?_)
    have h_3 := zeq hF_2
    refine lv_aload_n hx hb dX7_readDigit_33 rfl (lv_at hl 0 rfl) ?_
    refine zget hC hZ fX7_82 (zlt hn rfl) h_3 rfl dX7_readDigit_34 ?_
    refine lv_if_eq (tgt := 42) hx hb dX7_readDigit_37 (by decide) (fun h => absurd (show (1 : Int32) = 0 from h) (by decide)) (fun _ => ?_)
    refine lv_iconst (v := 0) hx hb dX7_readDigit_40 (by decide) ?_
    have hq9 : sDig (mch rw0 x0 zn) u = (0, u.1, 1) := sDig_neg (fun h => c_5 h.1)
    have hq0 : (0 : Int32) = (sDig (mch rw0 x0 zn) u).1 := by rw [hq9]
    have hq : F_1 = va_up F 56 (oModel ad b ln tc co th bs en ((sDig (mch rw0 x0 zn) u).2) st kk dw ho sv pic ia tk) := by
      rw [hq9, hF_2]
    exact zireti hC hZ hr hlocks ⟨hq0, hq⟩ dX7_readDigit_41
  · refine lv_aload_n hx hb dX7_readDigit_8 rfl (lv_at hl 0 rfl) ?_
    refine zgoi hZ hA (zrunV (As := []) (rest := [.ref (ad 56)]) (k := 56) hC hZ (c_X7_here l D cy n ad F s.heap.size b ln tc co th bs en u st kk dw ho sv pic ia tk hn hM rw0 h66 x0 zn hx0 hzn hbs hen hu) mX7_here vX7_here kX7_86 (zRj_of rfl) (zlt hn rfl) hM rfl rfl hl.1 rfl (Nat.le_of_ble_eq_true rfl) dX7_readDigit_9 ⟨Nat.le_refl _, Nat.le_refl _⟩) (fun r_5 F_4 hp_6 H locs hZ => ?_)
    obtain ⟨rfl, rfl⟩ := hp_6
    refine lv_i2l (v := (mch rw0 x0 zn u.1).toInt64) hx hb dX7_readDigit_12 (by rfl) ?_
    refine lv_ldc2 (v := 48) hx hb hC.1.2.2.2.1 (hC.1.2.2.2.2 _ qX7_90) dX7_readDigit_13 ?_
    refine lv_ldc2 (v := 57) hx hb hC.1.2.2.2.1 (hC.1.2.2.2.2 _ qX7_92) dX7_readDigit_16 ?_
    refine zgoi hZ hA (zrunS (As := [.long ((mch rw0 x0 zn u.1).toInt64), .long 48, .long 57]) (rest := [.ref (ad 56)]) hC hZ (c_X7_in l D cy n ad F H.size (mch rw0 x0 zn u.1) 48 57 48 57 (by decide) (by decide)) mX7_in sX7_in kX7_63 (zRj_of rfl) rfl hl.1 rfl (Nat.le_of_ble_eq_true rfl) dX7_readDigit_19 ⟨Nat.le_refl _, Nat.le_refl _⟩) (fun r_8 F_7 hp_9 H locs hZ => ?_)
    obtain ⟨hp_9, rfl⟩ := hp_9
    by_cases b_10 : bIn (mch rw0 x0 zn u.1) 48 57
    · rw [if_pos b_10] at hp_9
      subst hp_9
      refine lv_if_ne (tgt := 29) hx hb dX7_readDigit_22 (by decide) (fun _ => ?_) (fun h => absurd (show (1 : Int32) = 0 from h) (by decide))
      refine lv_iconst (v := 0) hx hb dX7_readDigit_29 (by decide) ?_
      refine zput (E := oModel ad b ln tc co th bs en (u.1, 0) st kk dw ho sv pic ia tk) hC hZ pX7_82 (zlt hn rfl) hM rfl rfl rfl (Nat.le_of_ble_eq_true rfl) dX7_readDigit_30 (fun F_11 hF_12 H locs hZ => ?_)
      have h_13 := zeq hF_12
      refine lv_aload_n hx hb dX7_readDigit_33 rfl (lv_at hl 0 rfl) ?_
      refine zget hC hZ fX7_82 (zlt hn rfl) h_13 rfl dX7_readDigit_34 ?_
      refine lv_if_eq (tgt := 42) hx hb dX7_readDigit_37 (by decide) (fun _ => ?_) (fun h => absurd (show (0 : Int32) = 0 by decide) h)
      refine lv_aload_n hx hb dX7_readDigit_42 rfl (lv_at hl 0 rfl) ?_
      refine lv_dup hx hb dX7_readDigit_43 rfl ?_
      refine zget hC hZ fX7_73 (zlt hn rfl) h_13 rfl dX7_readDigit_44 ?_
      refine lv_iconst (v := 1) hx hb dX7_readDigit_47 (by decide) ?_
      refine lv_iadd hx hb dX7_readDigit_48 ?_
      refine zput (E := oModel ad b ln tc co th bs en ((u.1 + 1), 0) st kk dw ho sv pic ia tk) hC hZ pX7_73 (zlt hn rfl) h_13 rfl rfl rfl (Nat.le_of_ble_eq_true rfl) dX7_readDigit_49 (fun F_14 hF_15 H locs hZ => ?_)
      have h_16 := zeq hF_15
      refine lv_aload_n hx hb dX7_readDigit_52 rfl (lv_at hl 0 rfl) ?_
      refine zget hC hZ fX7_50 (zlt hn rfl) h_16 rfl dX7_readDigit_53 ?_
      refine lv_aload_n hx hb dX7_readDigit_56 rfl (lv_at hl 0 rfl) ?_
      refine zget hC hZ fX7_79 (zlt hn rfl) h_16 rfl dX7_readDigit_57 ?_
      refine lv_aload_n hx hb dX7_readDigit_60 rfl (lv_at hl 0 rfl) ?_
      refine zget hC hZ fX7_73 (zlt hn rfl) h_16 rfl dX7_readDigit_61 ?_
      refine lv_iadd hx hb dX7_readDigit_64 ?_
      refine lv_iconst (v := 1) hx hb dX7_readDigit_65 (by decide) ?_
      refine lv_isub hx hb dX7_readDigit_66 ?_
      have hix := mch_ix (x0 := x0) hzn hx0 hu.1 (bDig_lt (rw0 := rw0) (x0 := x0) b_10)
      refine zlald hC hZ (zlt hn rfl) (zne hF_15 (by decide) (zne hF_12 (by decide) h66)) (by rw [hbs, ← Int32.add_assoc, hix.1]; exact Int32.add_sub_cancel _ _) hix.2 (by decide) dX7_readDigit_67 ?_
      refine lv_l2i (v := (rw0 (x0 + iN u.1)).toInt32) hx hb dX7_readDigit_68 rfl ?_
      refine lv_bipush (v := 48) hx hb dX7_readDigit_69 (by decide) ?_
      refine lv_isub hx hb dX7_readDigit_71 ?_
      have hbd : bDig (mch rw0 x0 zn) u.1 := b_10
      have hval : ((rw0 (x0 + iN u.1)).toInt32 - 48) = (mch rw0 x0 zn) u.1 - 48 := by rw [mch_dig hu.1 hby hzn hbd]
      have hq9 : sDig (mch rw0 x0 zn) u = ((mch rw0 x0 zn) u.1 - 48, u.1 + 1, u.2) := sDig_pos c_5 hbd
      have hq0 : ((rw0 (x0 + iN u.1)).toInt32 - 48) = (sDig (mch rw0 x0 zn) u).1 := by rw [hq9]; exact hval
      have hq : F_14 = va_up F 56 (oModel ad b ln tc co th bs en ((sDig (mch rw0 x0 zn) u).2) st kk dw ho sv pic ia tk) := by
        rw [hq9, hF_15, hF_12]; simp only [bx_uu, c_5]
      exact zireti hC hZ hr hlocks ⟨hq0, hq⟩ dX7_readDigit_72
    · rw [if_neg b_10] at hp_9
      subst hp_9
      refine lv_if_ne (tgt := 29) hx hb dX7_readDigit_22 (by decide) (fun h => absurd (show (0 : Int32) = 0 by decide) h) (fun _ => ?_)
      refine lv_iconst (v := 1) hx hb dX7_readDigit_25 (by decide) ?_
      refine lv_goto (tgt := 30) hx hb dX7_readDigit_26 (by decide) ?_
      refine zput (E := oModel ad b ln tc co th bs en (u.1, 1) st kk dw ho sv pic ia tk) hC hZ pX7_82 (zlt hn rfl) hM rfl rfl rfl (Nat.le_of_ble_eq_true rfl) dX7_readDigit_30 (fun F_17 hF_18 H locs hZ => ?_)
      have h_19 := zeq hF_18
      refine lv_aload_n hx hb dX7_readDigit_33 rfl (lv_at hl 0 rfl) ?_
      refine zget hC hZ fX7_82 (zlt hn rfl) h_19 rfl dX7_readDigit_34 ?_
      refine lv_if_eq (tgt := 42) hx hb dX7_readDigit_37 (by decide) (fun h => absurd (show (1 : Int32) = 0 from h) (by decide)) (fun _ => ?_)
      refine lv_iconst (v := 0) hx hb dX7_readDigit_40 (by decide) ?_
      have hq9 : sDig (mch rw0 x0 zn) u = (0, u.1, 1) := sDig_neg (fun h => b_10 h.2)
      have hq0 : (0 : Int32) = (sDig (mch rw0 x0 zn) u).1 := by rw [hq9]
      have hq : F_17 = va_up F 56 (oModel ad b ln tc co th bs en ((sDig (mch rw0 x0 zn) u).2) st kk dw ho sv pic ia tk) := by
        rw [hq9, hF_18]
      exact zireti hC hZ hr hlocks ⟨hq0, hq⟩ dX7_readDigit_41

theorem zadd_sub (x y z : Int32) : x + (y - z) = x + y - z := by rw [Int32.sub_eq_add_neg, Int32.sub_eq_add_neg, Int32.add_assoc]
theorem mX7_readNumber : zMd yX7_readNumber cX7_readNumber 3 (some .int) 0 := ⟨by decide +kernel, gt_of 915 (by decide +kernel) rfl, gt_of 51 (by decide +kernel) rfl, by decide⟩
theorem dX7_readNumber_0 : decode cX7_readNumber 0 = .ok (.aload_n 0, 1) := by decide +kernel
theorem dX7_readNumber_1 : decode cX7_readNumber 1 = .ok (.invokevirtual 94, 3) := by decide +kernel
theorem kX7_94 : zLk RX7 94 yX7_readDigit := Or.inl (gt_of 916 (by decide +kernel) rfl)
theorem vX7_readDigit : zMi yX7_readDigit := ⟨gt_of 918 (by decide +kernel) rfl, gt_of 23 (by decide +kernel) rfl⟩
theorem dX7_readNumber_4 : decode cX7_readNumber 4 = .ok (.istore_n 1, 1) := by decide +kernel
theorem dX7_readNumber_5 : decode cX7_readNumber 5 = .ok (.iconst 1, 1) := by decide +kernel
theorem dX7_readNumber_6 : decode cX7_readNumber 6 = .ok (.istore_n 2, 1) := by decide +kernel
theorem dX7_readNumber_7 : decode cX7_readNumber 7 = .ok (.iload_n 2, 1) := by decide +kernel
theorem dX7_readNumber_8 : decode cX7_readNumber 8 = .ok (.iconst 3, 1) := by decide +kernel
theorem dX7_readNumber_9 : decode cX7_readNumber 9 = .ok (.if_icmp .ge 60, 3) := by decide +kernel
theorem dX7_readNumber_12 : decode cX7_readNumber 12 = .ok (.iload_n 1, 1) := by decide +kernel
theorem dX7_readNumber_13 : decode cX7_readNumber 13 = .ok (.ifCond .le 56, 3) := by decide +kernel
theorem dX7_readNumber_69 : decode cX7_readNumber 69 = .ok (.iload_n 1, 1) := by decide +kernel
theorem dX7_readNumber_70 : decode cX7_readNumber 70 = .ok (.ireturn, 1) := by decide +kernel
theorem dX7_readNumber_16 : decode cX7_readNumber 16 = .ok (.aload_n 0, 1) := by decide +kernel
theorem dX7_readNumber_17 : decode cX7_readNumber 17 = .ok (.getfield 82, 3) := by decide +kernel
theorem dX7_readNumber_20 : decode cX7_readNumber 20 = .ok (.ifCond .ne 49, 3) := by decide +kernel
theorem dX7_readNumber_23 : decode cX7_readNumber 23 = .ok (.aload_n 0, 1) := by decide +kernel
theorem dX7_readNumber_24 : decode cX7_readNumber 24 = .ok (.invokevirtual 86, 3) := by decide +kernel
theorem dX7_readNumber_27 : decode cX7_readNumber 27 = .ok (.i2l, 1) := by decide +kernel
theorem dX7_readNumber_28 : decode cX7_readNumber 28 = .ok (.ldc2_w 90, 3) := by decide +kernel
theorem dX7_readNumber_31 : decode cX7_readNumber 31 = .ok (.ldc2_w 92, 3) := by decide +kernel
theorem dX7_readNumber_34 : decode cX7_readNumber 34 = .ok (.invokestatic 63, 3) := by decide +kernel
theorem dX7_readNumber_37 : decode cX7_readNumber 37 = .ok (.ifCond .eq 32, 3) := by decide +kernel
theorem dX7_readNumber_40 : decode cX7_readNumber 40 = .ok (.bipush 10, 2) := by decide +kernel
theorem dX7_readNumber_42 : decode cX7_readNumber 42 = .ok (.iload_n 1, 1) := by decide +kernel
theorem dX7_readNumber_43 : decode cX7_readNumber 43 = .ok (.imul, 1) := by decide +kernel
theorem dX7_readNumber_44 : decode cX7_readNumber 44 = .ok (.aload_n 0, 1) := by decide +kernel
theorem dX7_readNumber_45 : decode cX7_readNumber 45 = .ok (.invokevirtual 86, 3) := by decide +kernel
theorem dX7_readNumber_48 : decode cX7_readNumber 48 = .ok (.iadd, 1) := by decide +kernel
theorem dX7_readNumber_49 : decode cX7_readNumber 49 = .ok (.bipush 48, 2) := by decide +kernel
theorem dX7_readNumber_51 : decode cX7_readNumber 51 = .ok (.isub, 1) := by decide +kernel
theorem dX7_readNumber_52 : decode cX7_readNumber 52 = .ok (.istore_n 1, 1) := by decide +kernel
theorem dX7_readNumber_53 : decode cX7_readNumber 53 = .ok (.aload_n 0, 1) := by decide +kernel
theorem dX7_readNumber_54 : decode cX7_readNumber 54 = .ok (.dup, 1) := by decide +kernel
theorem dX7_readNumber_55 : decode cX7_readNumber 55 = .ok (.getfield 73, 3) := by decide +kernel
theorem dX7_readNumber_58 : decode cX7_readNumber 58 = .ok (.iconst 1, 1) := by decide +kernel
theorem dX7_readNumber_59 : decode cX7_readNumber 59 = .ok (.iadd, 1) := by decide +kernel
theorem dX7_readNumber_60 : decode cX7_readNumber 60 = .ok (.putfield 73, 3) := by decide +kernel
theorem dX7_readNumber_63 : decode cX7_readNumber 63 = .ok (.iinc 2 1, 3) := by decide +kernel
theorem dX7_readNumber_66 : decode cX7_readNumber 66 = .ok (.goto (-59), 3) := by decide +kernel
set_option maxRecDepth 100000 in
theorem c_X7_readNumber (l : Launch) (D : va_G) (cy : Nat → Nat) (n : Nat) (ad : Nat → Nat) (F : Nat → va_E) (sz : Nat) (b : Stg) (ln tc : Int32) (co : Crs) (th bs en : Int32) (u : Int32 × Int32) (st kk dw ho : Int32) (sv : Crs) (pic ia tk : Int32) (hn : 68 ≤ n) (hM : F 56 = oModel ad b ln tc co th bs en u st kk dw ho sv pic ia tk) (rw0 : Nat → Int64) (h66 : F 66 = oLongs cy 800 rw0) (x0 zn : Nat) (hx0 : x0 + 100 ≤ 800) (hzn : zn ≤ 100) (hbs : bs = nI x0) (hen : en = nI zn) (hu : Gq (zn : Int) u) (hby : ∀ i, i < 100 → -128 ≤ (rw0 (x0 + i)).toInt32.toInt ∧ (rw0 (x0 + i)).toInt32.toInt ≤ 127) : Met l yX7_readNumber (zw yX7_readNumber cX7_readNumber 3 (some .int)) (rmL 2) (zPc D cy n ad F sz [.ref (ad 56)]) (va_Qi (fun r F1 => r = (sNum (mch rw0 x0 zn) u).1 ∧ F1 = va_up F 56 (oModel ad b ln tc co th bs en ((sNum (mch rw0 x0 zn) u).2) st kk dw ho sv pic ia tk)) (zB D n ad) (zA n ad sz)) 0 0 (zA n ad sz) := by
  refine zmet (by decide +kernel) (Nat.le_of_ble_eq_true rfl) (fun p e s m args below meth c ls hC hsz hZ hA hr hlocks hnm hl => ?_)
  have hC : zC p m c cX7_readNumber 3 s args RX7 D cy := hC
  have hx := hC.1.1
  have hb := hC.1.2.1
  have hl : lv_has ls 3 [(0, .ref (ad 56))] := hl
  refine lv_aload_n hx hb dX7_readNumber_0 rfl (lv_at hl 0 rfl) ?_
  refine zgoi hZ hA (zrunV (As := []) (rest := []) (k := 56) hC hZ (c_X7_readDigit l D cy n ad F s.heap.size b ln tc co th bs en u st kk dw ho sv pic ia tk hn hM rw0 h66 x0 zn hx0 hzn hbs hen hu hby) mX7_readDigit vX7_readDigit kX7_94 (zRj_of rfl) (zlt hn rfl) hM rfl rfl hl.1 rfl (Nat.le_of_ble_eq_true rfl) dX7_readNumber_1 ⟨Nat.le_refl _, Nat.le_refl _⟩) (fun r_2 F_1 hp_3 H locs hZ => ?_)
  obtain ⟨y_4, hy_4⟩ : ∃ y, y = (sDig (mch rw0 x0 zn) u) := ⟨_, rfl⟩
  rw [← hy_4] at hp_3
  have hu_y_4 : Gq (zn : Int) y_4.2 := by rw [hy_4]; exact (adv_sDig (mch_PR hzn) hu).1
  obtain ⟨rfl, hp_5⟩ := hp_3
  have h_6 := zeq hp_5
  refine lv_istore_n (lv' := [(1, .int y_4.1), (0, .ref (ad 56))]) hx hb dX7_readNumber_4 rfl hl (by decide) rfl (fun ls hl => ?_)
  refine lv_iconst (v := 1) hx hb dX7_readNumber_5 (by decide) ?_
  refine lv_istore_n (lv' := [(2, .int 1), (1, .int y_4.1), (0, .ref (ad 56))]) hx hb dX7_readNumber_6 rfl hl (by decide) rfl (fun ls hl => ?_)
  refine lv_iload_n hx hb dX7_readNumber_7 rfl (lv_at hl 0 rfl) ?_
  refine lv_iconst (v := 3) hx hb dX7_readNumber_8 (by decide) ?_
  refine lv_icmp_ge (tgt := 69) hx hb dX7_readNumber_9 (by decide) (fun h => absurd (show (3 : Int32) ≤ 1 from h) (by decide)) (fun _ => ?_)
  refine lv_iload_n hx hb dX7_readNumber_12 rfl (lv_at hl 1 rfl) ?_
  refine lv_if_le (tgt := 69) hx hb dX7_readNumber_13 (by decide) (fun c_13 => ?_) (fun c_13 => ?_)
  · refine lv_iload_n hx hb dX7_readNumber_69 rfl (lv_at hl 1 rfl) ?_
    have e0 : sMore (mch rw0 x0 zn) y_4 = y_4 := sMore_neg (fun h => absurd c_13 (Int32.not_le.mpr h.2.1))
    have e1 : sMore (mch rw0 x0 zn) y_4 = y_4 := sMore_neg (fun h => absurd c_13 (Int32.not_le.mpr h.2.1))
    have hq9 : sNum (mch rw0 x0 zn) u = (y_4.1, y_4.2.1, y_4.2.2) := by unfold sNum; rw [← hy_4, e0, e1]
    have hq0 : y_4.1 = (sNum (mch rw0 x0 zn) u).1 := by rw [hq9]
    have hq : F_1 = va_up F 56 (oModel ad b ln tc co th bs en ((sNum (mch rw0 x0 zn) u).2) st kk dw ho sv pic ia tk) := by
      rw [hq9, hp_5]
    exact zireti hC hZ hr hlocks ⟨hq0, hq⟩ dX7_readNumber_70
  · refine lv_aload_n hx hb dX7_readNumber_16 rfl (lv_at hl 2 rfl) ?_
    refine zget hC hZ fX7_82 (zlt hn rfl) h_6 rfl dX7_readNumber_17 ?_
    refine lv_if_ne (tgt := 69) hx hb dX7_readNumber_20 (by decide) (fun c_20 => ?_) (fun c_20 => ?_)
    · refine lv_iload_n hx hb dX7_readNumber_69 rfl (lv_at hl 1 rfl) ?_
      have e0 : sMore (mch rw0 x0 zn) y_4 = y_4 := sMore_neg (fun h => c_20 h.1)
      have e1 : sMore (mch rw0 x0 zn) y_4 = y_4 := sMore_neg (fun h => c_20 h.1)
      have hq9 : sNum (mch rw0 x0 zn) u = (y_4.1, y_4.2.1, y_4.2.2) := by unfold sNum; rw [← hy_4, e0, e1]
      have hq0 : y_4.1 = (sNum (mch rw0 x0 zn) u).1 := by rw [hq9]
      have hq : F_1 = va_up F 56 (oModel ad b ln tc co th bs en ((sNum (mch rw0 x0 zn) u).2) st kk dw ho sv pic ia tk) := by
        rw [hq9, hp_5]
      exact zireti hC hZ hr hlocks ⟨hq0, hq⟩ dX7_readNumber_70
    · refine lv_aload_n hx hb dX7_readNumber_23 rfl (lv_at hl 2 rfl) ?_
      refine zgoi hZ hA (zrunV (As := []) (rest := []) (k := 56) hC hZ (c_X7_here l D cy n ad F_1 H.size b ln tc co th bs en y_4.2 st kk dw ho sv pic ia tk hn h_6 rw0 (zne hp_5 (by decide) h66) x0 zn hx0 hzn hbs hen hu_y_4) mX7_here vX7_here kX7_86 (zRj_of rfl) (zlt hn rfl) h_6 rfl rfl hl.1 rfl (Nat.le_of_ble_eq_true rfl) dX7_readNumber_24 ⟨Nat.le_refl _, Nat.le_refl _⟩) (fun r_8 F_7 hp_9 H locs hZ => ?_)
      obtain ⟨rfl, rfl⟩ := hp_9
      refine lv_i2l (v := (mch rw0 x0 zn y_4.2.1).toInt64) hx hb dX7_readNumber_27 (by rfl) ?_
      refine lv_ldc2 (v := 48) hx hb hC.1.2.2.2.1 (hC.1.2.2.2.2 _ qX7_90) dX7_readNumber_28 ?_
      refine lv_ldc2 (v := 57) hx hb hC.1.2.2.2.1 (hC.1.2.2.2.2 _ qX7_92) dX7_readNumber_31 ?_
      refine zgoi hZ hA (zrunS (As := [.long ((mch rw0 x0 zn y_4.2.1).toInt64), .long 48, .long 57]) (rest := []) hC hZ (c_X7_in l D cy n ad F_1 H.size (mch rw0 x0 zn y_4.2.1) 48 57 48 57 (by decide) (by decide)) mX7_in sX7_in kX7_63 (zRj_of rfl) rfl hl.1 rfl (Nat.le_of_ble_eq_true rfl) dX7_readNumber_34 ⟨Nat.le_refl _, Nat.le_refl _⟩) (fun r_11 F_10 hp_12 H locs hZ => ?_)
      obtain ⟨hp_12, rfl⟩ := hp_12
      by_cases b_13 : bIn (mch rw0 x0 zn y_4.2.1) 48 57
      · rw [if_pos b_13] at hp_12
        subst hp_12
        refine lv_if_eq (tgt := 69) hx hb dX7_readNumber_37 (by decide) (fun h => absurd (show (1 : Int32) = 0 from h) (by decide)) (fun _ => ?_)
        refine lv_bipush (v := 10) hx hb dX7_readNumber_40 (by decide) ?_
        refine lv_iload_n hx hb dX7_readNumber_42 rfl (lv_at hl 1 rfl) ?_
        refine lv_imul hx hb dX7_readNumber_43 ?_
        refine lv_aload_n hx hb dX7_readNumber_44 rfl (lv_at hl 2 rfl) ?_
        refine zgoi hZ hA (zrunV (As := []) (rest := [.int (10 * y_4.1)]) (k := 56) hC hZ (c_X7_here l D cy n ad F_1 H.size b ln tc co th bs en y_4.2 st kk dw ho sv pic ia tk hn h_6 rw0 (zne hp_5 (by decide) h66) x0 zn hx0 hzn hbs hen hu_y_4) mX7_here vX7_here kX7_86 (zRj_of rfl) (zlt hn rfl) h_6 rfl rfl hl.1 rfl (Nat.le_of_ble_eq_true rfl) dX7_readNumber_45 ⟨Nat.le_refl _, Nat.le_refl _⟩) (fun r_15 F_14 hp_16 H locs hZ => ?_)
        obtain ⟨rfl, rfl⟩ := hp_16
        refine lv_iadd hx hb dX7_readNumber_48 ?_
        refine lv_bipush (v := 48) hx hb dX7_readNumber_49 (by decide) ?_
        refine lv_isub hx hb dX7_readNumber_51 ?_
        refine lv_istore_n (lv' := [(1, .int (((10 * y_4.1) + (mch rw0 x0 zn y_4.2.1)) - 48)), (2, .int 1), (0, .ref (ad 56))]) hx hb dX7_readNumber_52 rfl hl (by decide) rfl (fun ls hl => ?_)
        refine lv_aload_n hx hb dX7_readNumber_53 rfl (lv_at hl 2 rfl) ?_
        refine lv_dup hx hb dX7_readNumber_54 rfl ?_
        refine zget hC hZ fX7_73 (zlt hn rfl) h_6 rfl dX7_readNumber_55 ?_
        refine lv_iconst (v := 1) hx hb dX7_readNumber_58 (by decide) ?_
        refine lv_iadd hx hb dX7_readNumber_59 ?_
        refine zput (E := oModel ad b ln tc co th bs en ((y_4.2.1 + 1), y_4.2.2) st kk dw ho sv pic ia tk) hC hZ pX7_73 (zlt hn rfl) h_6 rfl rfl rfl (Nat.le_of_ble_eq_true rfl) dX7_readNumber_60 (fun F_17 hF_18 H locs hZ => ?_)
        have h_19 := zeq hF_18
        have hu_20 : Gq (zn : Int) ((y_4.2.1 + 1), y_4.2.2) := (adv_dig (q := (y_4.2.1, y_4.2.2)) (mch_PR hzn) b_13).1
        refine lv_iinc (v := 2) (lv' := [(2, .int 2), (1, .int (((10 * y_4.1) + (mch rw0 x0 zn y_4.2.1)) - 48)), (0, .ref (ad 56))]) hx hb dX7_readNumber_63 hl (k := 1) rfl (by decide) (by decide) rfl (fun ls hl => ?_)
        refine lv_goto (tgt := 7) hx hb dX7_readNumber_66 (by decide) ?_
        refine lv_iload_n hx hb dX7_readNumber_7 rfl (lv_at hl 0 rfl) ?_
        refine lv_iconst (v := 3) hx hb dX7_readNumber_8 (by decide) ?_
        refine lv_icmp_ge (tgt := 69) hx hb dX7_readNumber_9 (by decide) (fun h => absurd (show (3 : Int32) ≤ 2 from h) (by decide)) (fun _ => ?_)
        refine lv_iload_n hx hb dX7_readNumber_12 rfl (lv_at hl 1 rfl) ?_
        refine lv_if_le (tgt := 69) hx hb dX7_readNumber_13 (by decide) (fun c_13_21 => ?_) (fun c_13_21 => ?_)
        · refine lv_iload_n hx hb dX7_readNumber_69 rfl (lv_at hl 1 rfl) ?_
          have e0 : sMore (mch rw0 x0 zn) y_4 = (10 * y_4.1 + (mch rw0 x0 zn) y_4.2.1 - 48, y_4.2.1 + 1, y_4.2.2) := by
            rw [sMore_pos (u := y_4) c_20 (Int32.not_le.mp c_13) b_13, sDig_pos (q := (y_4).2) c_20 b_13]
            show (10 * y_4.1 + ((mch rw0 x0 zn) y_4.2.1 - 48), y_4.2.1 + 1, y_4.2.2) = _
            rw [zadd_sub]
          have e1 : sMore (mch rw0 x0 zn) (10 * y_4.1 + (mch rw0 x0 zn) y_4.2.1 - 48, y_4.2.1 + 1, y_4.2.2) = (10 * y_4.1 + (mch rw0 x0 zn) y_4.2.1 - 48, y_4.2.1 + 1, y_4.2.2) := sMore_neg (fun h => absurd c_13_21 (Int32.not_le.mpr h.2.1))
          have hq9 : sNum (mch rw0 x0 zn) u = ((((10 * y_4.1) + (mch rw0 x0 zn y_4.2.1)) - 48), (y_4.2.1 + 1), y_4.2.2) := by unfold sNum; rw [← hy_4, e0, e1]
          have hq0 : (((10 * y_4.1) + (mch rw0 x0 zn y_4.2.1)) - 48) = (sNum (mch rw0 x0 zn) u).1 := by rw [hq9]
          have hq : F_17 = va_up F 56 (oModel ad b ln tc co th bs en ((sNum (mch rw0 x0 zn) u).2) st kk dw ho sv pic ia tk) := by
            rw [hq9, hF_18, hp_5]; simp only [bx_uu]
          exact zireti hC hZ hr hlocks ⟨hq0, hq⟩ dX7_readNumber_70
        · refine lv_aload_n hx hb dX7_readNumber_16 rfl (lv_at hl 2 rfl) ?_
          refine zget hC hZ fX7_82 (zlt hn rfl) h_19 rfl dX7_readNumber_17 ?_
          refine lv_if_ne (tgt := 69) hx hb dX7_readNumber_20 (by decide) (fun c_20_22 => ?_) (fun c_20_22 => ?_)
          · refine lv_iload_n hx hb dX7_readNumber_69 rfl (lv_at hl 1 rfl) ?_
            have e0 : sMore (mch rw0 x0 zn) y_4 = (10 * y_4.1 + (mch rw0 x0 zn) y_4.2.1 - 48, y_4.2.1 + 1, y_4.2.2) := by
              rw [sMore_pos (u := y_4) c_20 (Int32.not_le.mp c_13) b_13, sDig_pos (q := (y_4).2) c_20 b_13]
              show (10 * y_4.1 + ((mch rw0 x0 zn) y_4.2.1 - 48), y_4.2.1 + 1, y_4.2.2) = _
              rw [zadd_sub]
            have e1 : sMore (mch rw0 x0 zn) (10 * y_4.1 + (mch rw0 x0 zn) y_4.2.1 - 48, y_4.2.1 + 1, y_4.2.2) = (10 * y_4.1 + (mch rw0 x0 zn) y_4.2.1 - 48, y_4.2.1 + 1, y_4.2.2) := sMore_neg (fun h => c_20_22 h.1)
            have hq9 : sNum (mch rw0 x0 zn) u = ((((10 * y_4.1) + (mch rw0 x0 zn y_4.2.1)) - 48), (y_4.2.1 + 1), y_4.2.2) := by unfold sNum; rw [← hy_4, e0, e1]
            have hq0 : (((10 * y_4.1) + (mch rw0 x0 zn y_4.2.1)) - 48) = (sNum (mch rw0 x0 zn) u).1 := by rw [hq9]
            have hq : F_17 = va_up F 56 (oModel ad b ln tc co th bs en ((sNum (mch rw0 x0 zn) u).2) st kk dw ho sv pic ia tk) := by
              rw [hq9, hF_18, hp_5]; simp only [bx_uu]
            exact zireti hC hZ hr hlocks ⟨hq0, hq⟩ dX7_readNumber_70
          · refine lv_aload_n hx hb dX7_readNumber_23 rfl (lv_at hl 2 rfl) ?_
            refine zgoi hZ hA (zrunV (As := []) (rest := []) (k := 56) hC hZ (c_X7_here l D cy n ad F_17 H.size b ln tc co th bs en ((y_4.2.1 + 1), y_4.2.2) st kk dw ho sv pic ia tk hn h_19 rw0 (zne hF_18 (by decide) (zne hp_5 (by decide) h66)) x0 zn hx0 hzn hbs hen hu_20) mX7_here vX7_here kX7_86 (zRj_of rfl) (zlt hn rfl) h_19 rfl rfl hl.1 rfl (Nat.le_of_ble_eq_true rfl) dX7_readNumber_24 ⟨Nat.le_refl _, Nat.le_refl _⟩) (fun r_24 F_23 hp_25 H locs hZ => ?_)
            obtain ⟨rfl, rfl⟩ := hp_25
            refine lv_i2l (v := (mch rw0 x0 zn (y_4.2.1 + 1)).toInt64) hx hb dX7_readNumber_27 (by rfl) ?_
            refine lv_ldc2 (v := 48) hx hb hC.1.2.2.2.1 (hC.1.2.2.2.2 _ qX7_90) dX7_readNumber_28 ?_
            refine lv_ldc2 (v := 57) hx hb hC.1.2.2.2.1 (hC.1.2.2.2.2 _ qX7_92) dX7_readNumber_31 ?_
            refine zgoi hZ hA (zrunS (As := [.long ((mch rw0 x0 zn (y_4.2.1 + 1)).toInt64), .long 48, .long 57]) (rest := []) hC hZ (c_X7_in l D cy n ad F_17 H.size (mch rw0 x0 zn (y_4.2.1 + 1)) 48 57 48 57 (by decide) (by decide)) mX7_in sX7_in kX7_63 (zRj_of rfl) rfl hl.1 rfl (Nat.le_of_ble_eq_true rfl) dX7_readNumber_34 ⟨Nat.le_refl _, Nat.le_refl _⟩) (fun r_27 F_26 hp_28 H locs hZ => ?_)
            obtain ⟨hp_28, rfl⟩ := hp_28
            by_cases b_29 : bIn (mch rw0 x0 zn (y_4.2.1 + 1)) 48 57
            · rw [if_pos b_29] at hp_28
              subst hp_28
              refine lv_if_eq (tgt := 69) hx hb dX7_readNumber_37 (by decide) (fun h => absurd (show (1 : Int32) = 0 from h) (by decide)) (fun _ => ?_)
              refine lv_bipush (v := 10) hx hb dX7_readNumber_40 (by decide) ?_
              refine lv_iload_n hx hb dX7_readNumber_42 rfl (lv_at hl 1 rfl) ?_
              refine lv_imul hx hb dX7_readNumber_43 ?_
              refine lv_aload_n hx hb dX7_readNumber_44 rfl (lv_at hl 2 rfl) ?_
              refine zgoi hZ hA (zrunV (As := []) (rest := [.int (10 * (((10 * y_4.1) + (mch rw0 x0 zn y_4.2.1)) - 48))]) (k := 56) hC hZ (c_X7_here l D cy n ad F_17 H.size b ln tc co th bs en ((y_4.2.1 + 1), y_4.2.2) st kk dw ho sv pic ia tk hn h_19 rw0 (zne hF_18 (by decide) (zne hp_5 (by decide) h66)) x0 zn hx0 hzn hbs hen hu_20) mX7_here vX7_here kX7_86 (zRj_of rfl) (zlt hn rfl) h_19 rfl rfl hl.1 rfl (Nat.le_of_ble_eq_true rfl) dX7_readNumber_45 ⟨Nat.le_refl _, Nat.le_refl _⟩) (fun r_31 F_30 hp_32 H locs hZ => ?_)
              obtain ⟨rfl, rfl⟩ := hp_32
              refine lv_iadd hx hb dX7_readNumber_48 ?_
              refine lv_bipush (v := 48) hx hb dX7_readNumber_49 (by decide) ?_
              refine lv_isub hx hb dX7_readNumber_51 ?_
              refine lv_istore_n (lv' := [(1, .int (((10 * (((10 * y_4.1) + (mch rw0 x0 zn y_4.2.1)) - 48)) + (mch rw0 x0 zn (y_4.2.1 + 1))) - 48)), (2, .int 2), (0, .ref (ad 56))]) hx hb dX7_readNumber_52 rfl hl (by decide) rfl (fun ls hl => ?_)
              refine lv_aload_n hx hb dX7_readNumber_53 rfl (lv_at hl 2 rfl) ?_
              refine lv_dup hx hb dX7_readNumber_54 rfl ?_
              refine zget hC hZ fX7_73 (zlt hn rfl) h_19 rfl dX7_readNumber_55 ?_
              refine lv_iconst (v := 1) hx hb dX7_readNumber_58 (by decide) ?_
              refine lv_iadd hx hb dX7_readNumber_59 ?_
              refine zput (E := oModel ad b ln tc co th bs en (((y_4.2.1 + 1) + 1), y_4.2.2) st kk dw ho sv pic ia tk) hC hZ pX7_73 (zlt hn rfl) h_19 rfl rfl rfl (Nat.le_of_ble_eq_true rfl) dX7_readNumber_60 (fun F_33 hF_34 H locs hZ => ?_)
              have h_35 := zeq hF_34
              have hu_36 : Gq (zn : Int) (((y_4.2.1 + 1) + 1), y_4.2.2) := (adv_dig (q := ((y_4.2.1 + 1), y_4.2.2)) (mch_PR hzn) b_29).1
              refine lv_iinc (v := 3) (lv' := [(2, .int 3), (1, .int (((10 * (((10 * y_4.1) + (mch rw0 x0 zn y_4.2.1)) - 48)) + (mch rw0 x0 zn (y_4.2.1 + 1))) - 48)), (0, .ref (ad 56))]) hx hb dX7_readNumber_63 hl (k := 1) rfl (by decide) (by decide) rfl (fun ls hl => ?_)
              refine lv_goto (tgt := 7) hx hb dX7_readNumber_66 (by decide) ?_
              refine lv_iload_n hx hb dX7_readNumber_7 rfl (lv_at hl 0 rfl) ?_
              refine lv_iconst (v := 3) hx hb dX7_readNumber_8 (by decide) ?_
              refine lv_icmp_ge (tgt := 69) hx hb dX7_readNumber_9 (by decide) (fun _ => ?_) (fun h => absurd (show (3 : Int32) ≤ 3 by decide) h)
              refine lv_iload_n hx hb dX7_readNumber_69 rfl (lv_at hl 1 rfl) ?_
              have e0 : sMore (mch rw0 x0 zn) y_4 = (10 * y_4.1 + (mch rw0 x0 zn) y_4.2.1 - 48, y_4.2.1 + 1, y_4.2.2) := by
                rw [sMore_pos (u := y_4) c_20 (Int32.not_le.mp c_13) b_13, sDig_pos (q := (y_4).2) c_20 b_13]
                show (10 * y_4.1 + ((mch rw0 x0 zn) y_4.2.1 - 48), y_4.2.1 + 1, y_4.2.2) = _
                rw [zadd_sub]
              have e1 : sMore (mch rw0 x0 zn) (10 * y_4.1 + (mch rw0 x0 zn) y_4.2.1 - 48, y_4.2.1 + 1, y_4.2.2) = (10 * (10 * y_4.1 + (mch rw0 x0 zn) y_4.2.1 - 48) + (mch rw0 x0 zn) (y_4.2.1 + 1) - 48, (y_4.2.1 + 1) + 1, y_4.2.2) := by
                rw [sMore_pos (u := (10 * y_4.1 + (mch rw0 x0 zn) y_4.2.1 - 48, y_4.2.1 + 1, y_4.2.2)) c_20_22 (Int32.not_le.mp c_13_21) b_29, sDig_pos (q := ((10 * y_4.1 + (mch rw0 x0 zn) y_4.2.1 - 48, y_4.2.1 + 1, y_4.2.2)).2) c_20_22 b_29]
                show (10 * (10 * y_4.1 + (mch rw0 x0 zn) y_4.2.1 - 48) + ((mch rw0 x0 zn) (y_4.2.1 + 1) - 48), (y_4.2.1 + 1) + 1, y_4.2.2) = _
                rw [zadd_sub]
              have hq9 : sNum (mch rw0 x0 zn) u = ((((10 * (((10 * y_4.1) + (mch rw0 x0 zn y_4.2.1)) - 48)) + (mch rw0 x0 zn (y_4.2.1 + 1))) - 48), ((y_4.2.1 + 1) + 1), y_4.2.2) := by unfold sNum; rw [← hy_4, e0, e1]
              have hq0 : (((10 * (((10 * y_4.1) + (mch rw0 x0 zn y_4.2.1)) - 48)) + (mch rw0 x0 zn (y_4.2.1 + 1))) - 48) = (sNum (mch rw0 x0 zn) u).1 := by rw [hq9]
              have hq : F_33 = va_up F 56 (oModel ad b ln tc co th bs en ((sNum (mch rw0 x0 zn) u).2) st kk dw ho sv pic ia tk) := by
                rw [hq9, hF_34, hF_18, hp_5]; simp only [bx_uu]
              exact zireti hC hZ hr hlocks ⟨hq0, hq⟩ dX7_readNumber_70
            · rw [if_neg b_29] at hp_28
              subst hp_28
              refine lv_if_eq (tgt := 69) hx hb dX7_readNumber_37 (by decide) (fun _ => ?_) (fun h => absurd (show (0 : Int32) = 0 by decide) h)
              refine lv_iload_n hx hb dX7_readNumber_69 rfl (lv_at hl 1 rfl) ?_
              have e0 : sMore (mch rw0 x0 zn) y_4 = (10 * y_4.1 + (mch rw0 x0 zn) y_4.2.1 - 48, y_4.2.1 + 1, y_4.2.2) := by
                rw [sMore_pos (u := y_4) c_20 (Int32.not_le.mp c_13) b_13, sDig_pos (q := (y_4).2) c_20 b_13]
                show (10 * y_4.1 + ((mch rw0 x0 zn) y_4.2.1 - 48), y_4.2.1 + 1, y_4.2.2) = _
                rw [zadd_sub]
              have e1 : sMore (mch rw0 x0 zn) (10 * y_4.1 + (mch rw0 x0 zn) y_4.2.1 - 48, y_4.2.1 + 1, y_4.2.2) = (10 * y_4.1 + (mch rw0 x0 zn) y_4.2.1 - 48, y_4.2.1 + 1, y_4.2.2) := sMore_neg (fun h => b_29 h.2.2)
              have hq9 : sNum (mch rw0 x0 zn) u = ((((10 * y_4.1) + (mch rw0 x0 zn y_4.2.1)) - 48), (y_4.2.1 + 1), y_4.2.2) := by unfold sNum; rw [← hy_4, e0, e1]
              have hq0 : (((10 * y_4.1) + (mch rw0 x0 zn y_4.2.1)) - 48) = (sNum (mch rw0 x0 zn) u).1 := by rw [hq9]
              have hq : F_17 = va_up F 56 (oModel ad b ln tc co th bs en ((sNum (mch rw0 x0 zn) u).2) st kk dw ho sv pic ia tk) := by
                rw [hq9, hF_18, hp_5]; simp only [bx_uu]
              exact zireti hC hZ hr hlocks ⟨hq0, hq⟩ dX7_readNumber_70
      · rw [if_neg b_13] at hp_12
        subst hp_12
        refine lv_if_eq (tgt := 69) hx hb dX7_readNumber_37 (by decide) (fun _ => ?_) (fun h => absurd (show (0 : Int32) = 0 by decide) h)
        refine lv_iload_n hx hb dX7_readNumber_69 rfl (lv_at hl 1 rfl) ?_
        have e0 : sMore (mch rw0 x0 zn) y_4 = y_4 := sMore_neg (fun h => b_13 h.2.2)
        have e1 : sMore (mch rw0 x0 zn) y_4 = y_4 := sMore_neg (fun h => b_13 h.2.2)
        have hq9 : sNum (mch rw0 x0 zn) u = (y_4.1, y_4.2.1, y_4.2.2) := by unfold sNum; rw [← hy_4, e0, e1]
        have hq0 : y_4.1 = (sNum (mch rw0 x0 zn) u).1 := by rw [hq9]
        have hq : F_1 = va_up F 56 (oModel ad b ln tc co th bs en ((sNum (mch rw0 x0 zn) u).2) st kk dw ho sv pic ia tk) := by
          rw [hq9, hp_5]
        exact zireti hC hZ hr hlocks ⟨hq0, hq⟩ dX7_readNumber_70
end
section
theorem bIn7 {d : Int32} : bIn d 0 7 ↔ bSh d := by
  have e7 : (7 : Int32).toInt = 7 := rfl
  have e8 : (8 : Int32).toInt = 8 := rfl
  constructor
  · intro h; exact ⟨h.1, i32lt.mpr (by have := i32le.mp h.2; omega)⟩
  · intro h; exact ⟨h.1, i32le.mpr (by have := i32lt.mp h.2; omega)⟩
/-! ===== a TICK keeps its bounds ===== -/
def gK (kk ls dr ln : Int32) : Prop := 0 ≤ kk.toInt ∧ kk.toInt ≤ 40 ∧ -20 ≤ ls.toInt ∧ ls.toInt ≤ 140 ∧ 1 ≤ dr.toInt ∧ dr.toInt ≤ 400 ∧ 10 ≤ ln.toInt ∧ ln.toInt ≤ 9999
theorem sMax_t (x y : Int32) : (sMax x y).toInt = if x.toInt < y.toInt then y.toInt else x.toInt := by
  unfold sMax
  by_cases h : x < y
  · rw [if_pos h, if_pos (i32lt.mp h)]
  · rw [if_neg h, if_neg (fun q => h (i32lt.mpr q))]
theorem sMin_t (x y : Int32) : (sMin x y).toInt = if y.toInt < x.toInt then y.toInt else x.toInt := by
  unfold sMin
  by_cases h : y < x
  · rw [if_pos h, if_pos (i32lt.mp h)]
  · rw [if_neg h, if_neg (fun q => h (i32lt.mpr q))]
theorem sPace_b {ls dr : Int32} {c : Crs} : 0 ≤ (sPace ls dr c).toInt ∧ (sPace ls dr c).toInt ≤ 3000 := by
  unfold sPace
  rw [sMax_t, sMin_t]
  have e0 : (0 : Int32).toInt = 0 := rfl
  have e3 : (3000 : Int32).toInt = 3000 := rfl
  rw [e0, e3]
  split <;> split <;> omega
theorem tdivp {x d : Int32} {D : Int} (hd : d.toInt = D) (hD : 1 < D) : (x / d).toInt = x.toInt.tdiv D := by
  rw [Int32.toInt_div_of_ne_right _ _ (by intro h; rw [h] at hd; have e : (-1 : Int32).toInt = -1 := rfl; rw [e] at hd; omega), hd]
theorem tdiv_b {a D L U : Int} (hD : 0 < D) (hl : L * D ≤ a) (hu : a ≤ U * D) (hL : L ≤ 0) (hU : 0 ≤ U) : L ≤ a.tdiv D ∧ a.tdiv D ≤ U := by
  rcases Int.le_total 0 a with h | h
  · rw [Int.tdiv_eq_ediv_of_nonneg h]
    refine ⟨Int.le_trans hL (Int.ediv_nonneg h (Int.le_of_lt hD)), ?_⟩
    exact Int.ediv_le_of_le_mul hD hu
  · have e : a.tdiv D = -((-a).tdiv D) := by rw [Int.neg_tdiv, Int.neg_neg]
    rw [e, Int.tdiv_eq_ediv_of_nonneg (by omega)]
    have h1 : (-a) / D ≤ -L := Int.ediv_le_of_le_mul hD (by rw [Int.neg_mul]; omega)
    have h2 : 0 ≤ (-a) / D := Int.ediv_nonneg (by omega) (Int.le_of_lt hD)
    omega
theorem sArch_b {kk : Int32} {c : Crs} {v : Int32} (hk : 0 ≤ kk.toInt ∧ kk.toInt ≤ 40) (hv : 0 ≤ v.toInt ∧ v.toInt ≤ 3000) (ha : 0 ≤ c.2.2.1.toInt ∧ c.2.2.1.toInt ≤ 36000) : 0 ≤ (sArch kk c v).toInt ∧ (sArch kk c v).toInt ≤ 36000 := by
  have m1 := zmul_le hv.1 hv.1 hv.2 hv.2
  have e1 : (v * v).toInt = v.toInt * v.toInt := zmul (by omega) (by omega)
  have m2 := zmul_le m1.1 hk.1 m1.2 hk.2
  have e2 : (v * v * kk).toInt = v.toInt * v.toInt * kk.toInt := by rw [zmul (by rw [e1]; omega) (by rw [e1]; omega), e1]
  have e3 : (v * v * kk / 10000).toInt = v.toInt * v.toInt * kk.toInt / 10000 := by rw [zdiv (by omega) (by decide), e2]; rfl
  have e4 : (v * v * kk / 10000 - c.2.2.1).toInt = v.toInt * v.toInt * kk.toInt / 10000 - c.2.2.1.toInt := by rw [zsub (by omega) (by omega), e3]
  have e5 : ((v * v * kk / 10000 - c.2.2.1) / 4).toInt = (v.toInt * v.toInt * kk.toInt / 10000 - c.2.2.1.toInt).tdiv 4 := by rw [tdivp (D := 4) rfl (by decide), e4]
  have hq : 0 ≤ v.toInt * v.toInt * kk.toInt / 10000 ∧ v.toInt * v.toInt * kk.toInt / 10000 ≤ 36000 := by omega
  generalize v.toInt * v.toInt * kk.toInt / 10000 = w at e5 hq
  have hb : -c.2.2.1.toInt ≤ (w - c.2.2.1.toInt).tdiv 4 ∧ (w - c.2.2.1.toInt).tdiv 4 ≤ 36000 - c.2.2.1.toInt := by
    rcases Int.le_total 0 (w - c.2.2.1.toInt) with h | h
    · rw [Int.tdiv_eq_ediv_of_nonneg h]; omega
    · have e : (w - c.2.2.1.toInt).tdiv 4 = -((-(w - c.2.2.1.toInt)).tdiv 4) := by rw [Int.neg_tdiv, Int.neg_neg]
      rw [e, Int.tdiv_eq_ediv_of_nonneg (by omega)]; omega
  unfold sArch
  rw [zadd (by rw [e5]; omega) (by rw [e5]; omega), e5]
  omega
theorem sStep_gC {kk ls dr ln : Int32} {c : Crs} (hk : gK kk ls dr ln) (h : gC ln c) : gC ln (sStep kk ls dr ln c) := by
  obtain ⟨k1, k2, k3, k4, k5, k6, k7, k8⟩ := hk
  obtain ⟨h1, h2, h3, h4, h5, h6⟩ := h
  unfold sStep
  split
  · refine ⟨h1, h2, ?_, ?_, h5, h6⟩
    · show 0 ≤ (sMax 0 (c.2.2.1 - 50)).toInt
      rw [sMax_t]
      have e0 : (0 : Int32).toInt = 0 := rfl
      rw [e0]; split <;> omega
    · show (sMax 0 (c.2.2.1 - 50)).toInt ≤ 36000
      rw [sMax_t, zsub (by simp; omega) (by simp; omega)]
      have e0 : (0 : Int32).toInt = 0 := rfl
      have e5 : (50 : Int32).toInt = 50 := rfl
      rw [e0, e5]; split <;> omega
  · have hp := sPace_b (ls := ls) (dr := dr) (c := c)
    have ha := sArch_b ⟨k1, k2⟩ hp ⟨h3, h4⟩
    refine ⟨hp.1, hp.2, ha.1, ha.2, ?_, ?_⟩
    · show 0 ≤ (sMin ln (c.2.2.2.1 + sPace ls dr c / 10)).toInt
      have e1 : (sPace ls dr c / 10).toInt = (sPace ls dr c).toInt / 10 := by rw [zdiv hp.1 (by decide)]; rfl
      have e2 : (c.2.2.2.1 + sPace ls dr c / 10).toInt = c.2.2.2.1.toInt + (sPace ls dr c).toInt / 10 := by rw [zadd (by rw [e1]; omega) (by rw [e1]; omega), e1]
      rw [sMin_t, e2]; split <;> omega
    · show (sMin ln (c.2.2.2.1 + sPace ls dr c / 10)).toInt ≤ ln.toInt
      rw [sMin_t]; split <;> omega
theorem gC_0 {ln : Int32} (h : 10 ≤ ln.toInt) : gC ln sCC := ⟨by decide, by decide, by decide, by decide, by decide, by show (0 : Int32).toInt ≤ ln.toInt; simp; omega⟩
theorem sIt_gC {kk ls dr ln : Int32} (hk : gK kk ls dr ln) {c : Crs} (h : gC ln c) : ∀ k, gC ln (sIt (sStep kk ls dr ln) k c)
  | 0 => h
  | k + 1 => sStep_gC hk (sIt_gC hk h k)
theorem gK_of {t : Tal} {b : Stg} {ln : Int32} (ht : gT t) (hb : gS b) (h1 : 10 ≤ ln.toInt) (h2 : ln.toInt ≤ 9999) : gK (sKick t b) (sLess t b) b.2.2.2 ln := by
  have a := sKick_b ht hb
  have l := sLess_b ht hb
  have d := hb.2.2.2.2.2.2
  exact ⟨a.1, a.2, by omega, l.2, d.1, d.2, h1, h2⟩
/-! ===== the reference's writing of the same ===== -/
theorem mMaxA {x : Int32} (h : 0 ≤ x.toInt) : (if x < 50 then (0 : Int32) else x - 50) = sMax 0 (x - 50) := by
  have e50 : (50 : Int32).toInt = 50 := rfl
  have e0 : (0 : Int32).toInt = 0 := rfl
  have hx := Int32.toInt_lt x
  have es : (x - 50).toInt = x.toInt - 50 := zsub (by rw [e50]; omega) (by rw [e50]; omega)
  apply Int32.toInt_inj.mp
  rw [sMax_t, es, e0]
  by_cases c : x < 50
  · have := i32lt.mp c
    rw [if_pos c, if_neg (by omega)]; rfl
  · have h1 : ¬ x.toInt < (50 : Int32).toInt := fun q => c (i32lt.mpr q)
    rw [if_neg c, es]
    split <;> omega
theorem mPace (v : Int32) : (if v < 0 then (0 : Int32) else if 3000 < v then 3000 else v) = sMax 0 (sMin 3000 v) := by
  have e0 : (0 : Int32).toInt = 0 := rfl
  have e3 : (3000 : Int32).toInt = 3000 := rfl
  apply Int32.toInt_inj.mp
  rw [sMax_t, sMin_t, e0, e3]
  by_cases c : v < 0
  · have h1 := i32lt.mp c
    rw [if_pos c, e0, if_neg (by split <;> omega)]
  · have h1 : ¬ v.toInt < 0 := fun q => c (i32lt.mpr q)
    rw [if_neg c]
    by_cases c2 : 3000 < v
    · have h2 := i32lt.mp c2
      rw [if_pos c2, e3]
      split <;> split <;> omega
    · have h2 : ¬ 3000 < v.toInt := fun q => c2 (i32lt.mpr (by rw [e3]; exact q))
      rw [if_neg c2]
      split <;> split <;> omega
theorem mOut (ln x : Int32) : (if ln < x then ln else x) = sMin ln x := by
  apply Int32.toInt_inj.mp
  rw [sMin_t]
  by_cases c : ln < x
  · have := i32lt.mp c
    rw [if_pos c, if_neg (by omega)]
  · have h : ¬ ln.toInt < x.toInt := fun q => c (i32lt.mpr q)
    rw [if_neg c]; split <;> omega
theorem archM {t : Tal} {b : Stg} (ht : gT t) (hb : gS b) : (if sKick t b = 0 then (0 : Int32) else if sLess t b ≤ 0 then -4 else sKick t b * b.2.2.2 / sLess t b) = sArchAt t b 0 := by
  have k := sKick_b ht hb
  have l := sLess_b ht hb
  have d := hb.2.2.2.2.2.2
  have nl : ¬ sLess t b ≤ 0 := fun q => by have := i32le.mp q; have e0 : (0 : Int32).toInt = 0 := rfl; omega
  have e100 : (100 : Int32).toInt = 100 := rfl
  have m1 := zmul_le k.1 (show 0 ≤ b.2.2.2.toInt by omega) k.2 d.2
  have e1 : (sKick t b * b.2.2.2).toInt = (sKick t b).toInt * b.2.2.2.toInt := zmul (by omega) (by omega)
  have e2 : ((100 : Int32) - 0).toInt = 100 := by decide
  have e3 : (sKick t b * b.2.2.2 * (100 - 0)).toInt = (sKick t b).toInt * b.2.2.2.toInt * 100 := by rw [zmul (by rw [e1, e2]; omega) (by rw [e1, e2]; omega), e1, e2]
  have e4 : (sLess t b * 100).toInt = (sLess t b).toInt * 100 := zmul (by rw [e100]; omega) (by rw [e100]; omega)
  have e5 : (sArchAt t b 0).toInt = (sKick t b).toInt * b.2.2.2.toInt / (sLess t b).toInt := by
    unfold sArchAt
    rw [if_neg nl, zdiv (by omega) (by omega), e3, e4]
    exact Int.mul_ediv_mul_of_pos_left _ _ (by decide)
  apply Int32.toInt_inj.mp
  rw [e5]
  by_cases c : sKick t b = 0
  · rw [if_pos c, c]; simp
  · rw [if_neg c, if_neg nl, zdiv (by omega) (by omega), e1]
theorem slantM {t : Tal} {b : Stg} {q : Int32} (ht : gT t) (hb : gS b) : (if sKick t b = 0 then (0 : Int32) else if sLess t b ≤ 0 then -4 else sKick t b * b.2.2.2 * (100 - q) / (100 * sLess t b)) = sArchAt t b q := by
  have l := sLess_b ht hb
  have nl : ¬ sLess t b ≤ 0 := fun q => by have := i32le.mp q; have e0 : (0 : Int32).toInt = 0 := rfl; omega
  unfold sArchAt
  rw [if_neg nl, Int32.mul_comm 100 (sLess t b)]
  by_cases c : sKick t b = 0
  · rw [if_pos c, if_neg nl, c, Int32.zero_mul, Int32.zero_mul, Int32.zero_div]
  · rw [if_neg c, if_neg nl]
end
