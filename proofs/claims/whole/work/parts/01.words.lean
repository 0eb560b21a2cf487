-- ===== PART A: goes FIRST, ahead of the names: the tables' words, and 'selects' of the private methods out of them =====
/-- a private method of a class that the tables say can be made, by its rows of tables_1 -/
def lw_okq (q : MethodName × Nat) : Prop := (q.1.cls ≠ "java/lang/invoke/MethodHandle" ∧ q.1.cls ≠ "java/lang/invoke/VarHandle") ∧ Cond.instantiable q.1.cls q.2 ∈ tables_1 ∧ Cond.privateMethod q.1 ∈ tables_1 ∧ Cond.instanceMethod q.1 ∈ tables_1
theorem lw_p0 : lw_okq (⟨"ChainLeap", "chainNumber", "(I)I"⟩, 9) := ⟨⟨by decide +kernel, by decide +kernel⟩, List.mem_of_getElem? (i := 18) (by decide +kernel), List.mem_of_getElem? (i := 223) (by decide +kernel), List.mem_of_getElem? (i := 224) (by decide +kernel)⟩
theorem lw_p1 : lw_okq (⟨"ChainLeap", "rowRefusal", "(I)I"⟩, 9) := ⟨⟨by decide +kernel, by decide +kernel⟩, List.mem_of_getElem? (i := 18) (by decide +kernel), List.mem_of_getElem? (i := 231) (by decide +kernel), List.mem_of_getElem? (i := 232) (by decide +kernel)⟩
theorem lw_p2 : lw_okq (⟨"ChainLeap", "refusalOf", "(II)I"⟩, 9) := ⟨⟨by decide +kernel, by decide +kernel⟩, List.mem_of_getElem? (i := 18) (by decide +kernel), List.mem_of_getElem? (i := 235) (by decide +kernel), List.mem_of_getElem? (i := 236) (by decide +kernel)⟩
theorem lw_p3 : lw_okq (⟨"ChainLeap", "readTries", "(LChainLeap$Shelf;)I"⟩, 9) := ⟨⟨by decide +kernel, by decide +kernel⟩, List.mem_of_getElem? (i := 18) (by decide +kernel), List.mem_of_getElem? (i := 242) (by decide +kernel), List.mem_of_getElem? (i := 243) (by decide +kernel)⟩
theorem lw_p4 : lw_okq (⟨"ChainLeap$Reader", "need", "(C)V"⟩, 4) := ⟨⟨by decide +kernel, by decide +kernel⟩, List.mem_of_getElem? (i := 158) (by decide +kernel), List.mem_of_getElem? (i := 265) (by decide +kernel), List.mem_of_getElem? (i := 266) (by decide +kernel)⟩
theorem lw_p5 : lw_okq (⟨"ChainLeap$Reader", "accepts", "(C)Z"⟩, 4) := ⟨⟨by decide +kernel, by decide +kernel⟩, List.mem_of_getElem? (i := 158) (by decide +kernel), List.mem_of_getElem? (i := 269) (by decide +kernel), List.mem_of_getElem? (i := 270) (by decide +kernel)⟩
theorem lw_p6 : lw_okq (⟨"ChainLeap$Reader", "next", "()I"⟩, 4) := ⟨⟨by decide +kernel, by decide +kernel⟩, List.mem_of_getElem? (i := 158) (by decide +kernel), List.mem_of_getElem? (i := 273) (by decide +kernel), List.mem_of_getElem? (i := 274) (by decide +kernel)⟩
theorem lw_p7 : lw_okq (⟨"ChainLeap$Reader", "number", "()I"⟩, 4) := ⟨⟨by decide +kernel, by decide +kernel⟩, List.mem_of_getElem? (i := 158) (by decide +kernel), List.mem_of_getElem? (i := 277) (by decide +kernel), List.mem_of_getElem? (i := 278) (by decide +kernel)⟩
theorem lw_p8 : lw_okq (⟨"ChainLeap$Reader", "digit", "()I"⟩, 4) := ⟨⟨by decide +kernel, by decide +kernel⟩, List.mem_of_getElem? (i := 158) (by decide +kernel), List.mem_of_getElem? (i := 281) (by decide +kernel), List.mem_of_getElem? (i := 282) (by decide +kernel)⟩
theorem lw_p9 : lw_okq (⟨"ChainLeap$Reader", "isAtDigit", "()Z"⟩, 4) := ⟨⟨by decide +kernel, by decide +kernel⟩, List.mem_of_getElem? (i := 158) (by decide +kernel), List.mem_of_getElem? (i := 285) (by decide +kernel), List.mem_of_getElem? (i := 286) (by decide +kernel)⟩
theorem lw_p10 : lw_okq (⟨"ChainLeap", "storyRefusal", "(I)I"⟩, 9) := ⟨⟨by decide +kernel, by decide +kernel⟩, List.mem_of_getElem? (i := 18) (by decide +kernel), List.mem_of_getElem? (i := 322) (by decide +kernel), List.mem_of_getElem? (i := 323) (by decide +kernel)⟩
theorem lw_p11 : lw_okq (⟨"ChainLeap$Tale", "kickOfKicked", "(LChainLeap$Setting;)I"⟩, 2) := ⟨⟨by decide +kernel, by decide +kernel⟩, List.mem_of_getElem? (i := 121) (by decide +kernel), List.mem_of_getElem? (i := 330) (by decide +kernel), List.mem_of_getElem? (i := 331) (by decide +kernel)⟩
theorem lw_p12 : lw_okq (⟨"ChainLeap$Tale", "kickOfThrown", "(LChainLeap$Setting;)I"⟩, 2) := ⟨⟨by decide +kernel, by decide +kernel⟩, List.mem_of_getElem? (i := 121) (by decide +kernel), List.mem_of_getElem? (i := 334) (by decide +kernel), List.mem_of_getElem? (i := 335) (by decide +kernel)⟩
theorem lw_p13 : lw_okq (⟨"ChainLeap", "filmRefusal", "(I)I"⟩, 9) := ⟨⟨by decide +kernel, by decide +kernel⟩, List.mem_of_getElem? (i := 18) (by decide +kernel), List.mem_of_getElem? (i := 425) (by decide +kernel), List.mem_of_getElem? (i := 426) (by decide +kernel)⟩
theorem lw_p14 : lw_okq (⟨"ChainLeap", "fits", "(LChainLeap$Tale;LChainLeap$Shelf;I)Z"⟩, 9) := ⟨⟨by decide +kernel, by decide +kernel⟩, List.mem_of_getElem? (i := 18) (by decide +kernel), List.mem_of_getElem? (i := 433) (by decide +kernel), List.mem_of_getElem? (i := 434) (by decide +kernel)⟩
theorem lw_p15 : lw_okq (⟨"ChainLeap", "paceBehind", "(LChainLeap$Tale;II)I"⟩, 9) := ⟨⟨by decide +kernel, by decide +kernel⟩, List.mem_of_getElem? (i := 18) (by decide +kernel), List.mem_of_getElem? (i := 471) (by decide +kernel), List.mem_of_getElem? (i := 472) (by decide +kernel)⟩
def lw_privs_1 : List (MethodName × Nat) := [(⟨"ChainLeap", "chainNumber", "(I)I"⟩, 9), (⟨"ChainLeap", "rowRefusal", "(I)I"⟩, 9), (⟨"ChainLeap", "refusalOf", "(II)I"⟩, 9), (⟨"ChainLeap", "readTries", "(LChainLeap$Shelf;)I"⟩, 9), (⟨"ChainLeap$Reader", "need", "(C)V"⟩, 4), (⟨"ChainLeap$Reader", "accepts", "(C)Z"⟩, 4), (⟨"ChainLeap$Reader", "next", "()I"⟩, 4), (⟨"ChainLeap$Reader", "number", "()I"⟩, 4), (⟨"ChainLeap$Reader", "digit", "()I"⟩, 4), (⟨"ChainLeap$Reader", "isAtDigit", "()Z"⟩, 4), (⟨"ChainLeap", "storyRefusal", "(I)I"⟩, 9), (⟨"ChainLeap$Tale", "kickOfKicked", "(LChainLeap$Setting;)I"⟩, 2), (⟨"ChainLeap$Tale", "kickOfThrown", "(LChainLeap$Setting;)I"⟩, 2), (⟨"ChainLeap", "filmRefusal", "(I)I"⟩, 9), (⟨"ChainLeap", "fits", "(LChainLeap$Tale;LChainLeap$Shelf;I)Z"⟩, 9), (⟨"ChainLeap", "paceBehind", "(LChainLeap$Tale;II)I"⟩, 9)]
theorem lw_r1 : ∀ q ∈ lw_privs_1, lw_okq q := List.forall_mem_cons.mpr ⟨lw_p0, List.forall_mem_cons.mpr ⟨lw_p1, List.forall_mem_cons.mpr ⟨lw_p2, List.forall_mem_cons.mpr ⟨lw_p3, List.forall_mem_cons.mpr ⟨lw_p4, List.forall_mem_cons.mpr ⟨lw_p5, List.forall_mem_cons.mpr ⟨lw_p6, List.forall_mem_cons.mpr ⟨lw_p7, List.forall_mem_cons.mpr ⟨lw_p8, List.forall_mem_cons.mpr ⟨lw_p9, List.forall_mem_cons.mpr ⟨lw_p10, List.forall_mem_cons.mpr ⟨lw_p11, List.forall_mem_cons.mpr ⟨lw_p12, List.forall_mem_cons.mpr ⟨lw_p13, List.forall_mem_cons.mpr ⟨lw_p14, List.forall_mem_cons.mpr ⟨lw_p15, fun _ h => absurd h List.not_mem_nil⟩⟩⟩⟩⟩⟩⟩⟩⟩⟩⟩⟩⟩⟩⟩⟩
theorem lw_p16 : lw_okq (⟨"ChainLeap$Tale", "waitOfKicked", "()I"⟩, 2) := ⟨⟨by decide +kernel, by decide +kernel⟩, List.mem_of_getElem? (i := 121) (by decide +kernel), List.mem_of_getElem? (i := 570) (by decide +kernel), List.mem_of_getElem? (i := 571) (by decide +kernel)⟩
theorem lw_p17 : lw_okq (⟨"ChainLeap$Tale", "waitOfThrown", "()I"⟩, 2) := ⟨⟨by decide +kernel, by decide +kernel⟩, List.mem_of_getElem? (i := 121) (by decide +kernel), List.mem_of_getElem? (i := 574) (by decide +kernel), List.mem_of_getElem? (i := 575) (by decide +kernel)⟩
theorem lw_p18 : lw_okq (⟨"java/lang/Throwable", "fillInStackTrace", "(I)Ljava/lang/Throwable;"⟩, 6) := ⟨⟨by decide +kernel, by decide +kernel⟩, List.mem_of_getElem? (i := 630) (by decide +kernel), List.mem_of_getElem? (i := 628) (by decide +kernel), List.mem_of_getElem? (i := 629) (by decide +kernel)⟩
theorem lw_p19 : lw_okq (⟨"ChainLeapModel", "wrongRow", "(I)I"⟩, 39) := ⟨⟨by decide +kernel, by decide +kernel⟩, List.mem_of_getElem? (i := 709) (by decide +kernel), List.mem_of_getElem? (i := 850) (by decide +kernel), List.mem_of_getElem? (i := 851) (by decide +kernel)⟩
theorem lw_p20 : lw_okq (⟨"ChainLeapModel", "readStatement", "()V"⟩, 39) := ⟨⟨by decide +kernel, by decide +kernel⟩, List.mem_of_getElem? (i := 709) (by decide +kernel), List.mem_of_getElem? (i := 855) (by decide +kernel), List.mem_of_getElem? (i := 856) (by decide +kernel)⟩
theorem lw_p21 : lw_okq (⟨"ChainLeapModel", "take", "(I)V"⟩, 39) := ⟨⟨by decide +kernel, by decide +kernel⟩, List.mem_of_getElem? (i := 709) (by decide +kernel), List.mem_of_getElem? (i := 859) (by decide +kernel), List.mem_of_getElem? (i := 860) (by decide +kernel)⟩
theorem lw_p22 : lw_okq (⟨"ChainLeapModel", "here", "()I"⟩, 39) := ⟨⟨by decide +kernel, by decide +kernel⟩, List.mem_of_getElem? (i := 709) (by decide +kernel), List.mem_of_getElem? (i := 863) (by decide +kernel), List.mem_of_getElem? (i := 864) (by decide +kernel)⟩
theorem lw_p23 : lw_okq (⟨"ChainLeapModel", "readNumber", "()I"⟩, 39) := ⟨⟨by decide +kernel, by decide +kernel⟩, List.mem_of_getElem? (i := 709) (by decide +kernel), List.mem_of_getElem? (i := 867) (by decide +kernel), List.mem_of_getElem? (i := 868) (by decide +kernel)⟩
theorem lw_p24 : lw_okq (⟨"ChainLeapModel", "readDigit", "()I"⟩, 39) := ⟨⟨by decide +kernel, by decide +kernel⟩, List.mem_of_getElem? (i := 709) (by decide +kernel), List.mem_of_getElem? (i := 871) (by decide +kernel), List.mem_of_getElem? (i := 872) (by decide +kernel)⟩
theorem lw_p25 : lw_okq (⟨"ChainLeapModel", "hasLetter", "(I)Z"⟩, 39) := ⟨⟨by decide +kernel, by decide +kernel⟩, List.mem_of_getElem? (i := 709) (by decide +kernel), List.mem_of_getElem? (i := 877) (by decide +kernel), List.mem_of_getElem? (i := 878) (by decide +kernel)⟩
theorem lw_p26 : lw_okq (⟨"ChainLeapModel", "wrongStory", "(I)I"⟩, 39) := ⟨⟨by decide +kernel, by decide +kernel⟩, List.mem_of_getElem? (i := 709) (by decide +kernel), List.mem_of_getElem? (i := 896) (by decide +kernel), List.mem_of_getElem? (i := 897) (by decide +kernel)⟩
theorem lw_p27 : lw_okq (⟨"ChainLeapModel", "tellOn", "(I)V"⟩, 39) := ⟨⟨by decide +kernel, by decide +kernel⟩, List.mem_of_getElem? (i := 709) (by decide +kernel), List.mem_of_getElem? (i := 900) (by decide +kernel), List.mem_of_getElem? (i := 901) (by decide +kernel)⟩
theorem lw_p28 : lw_okq (⟨"ChainLeapModel", "tell", "(IIIII)V"⟩, 39) := ⟨⟨by decide +kernel, by decide +kernel⟩, List.mem_of_getElem? (i := 709) (by decide +kernel), List.mem_of_getElem? (i := 904) (by decide +kernel), List.mem_of_getElem? (i := 905) (by decide +kernel)⟩
theorem lw_p29 : lw_okq (⟨"ChainLeapModel", "tickOn", "()V"⟩, 39) := ⟨⟨by decide +kernel, by decide +kernel⟩, List.mem_of_getElem? (i := 709) (by decide +kernel), List.mem_of_getElem? (i := 913) (by decide +kernel), List.mem_of_getElem? (i := 914) (by decide +kernel)⟩
theorem lw_p30 : lw_okq (⟨"ChainLeapModel", "less", "()I"⟩, 39) := ⟨⟨by decide +kernel, by decide +kernel⟩, List.mem_of_getElem? (i := 709) (by decide +kernel), List.mem_of_getElem? (i := 917) (by decide +kernel), List.mem_of_getElem? (i := 918) (by decide +kernel)⟩
theorem lw_p31 : lw_okq (⟨"ChainLeapModel", "begin", "()V"⟩, 39) := ⟨⟨by decide +kernel, by decide +kernel⟩, List.mem_of_getElem? (i := 709) (by decide +kernel), List.mem_of_getElem? (i := 925) (by decide +kernel), List.mem_of_getElem? (i := 926) (by decide +kernel)⟩
def lw_privs_2 : List (MethodName × Nat) := [(⟨"ChainLeap$Tale", "waitOfKicked", "()I"⟩, 2), (⟨"ChainLeap$Tale", "waitOfThrown", "()I"⟩, 2), (⟨"java/lang/Throwable", "fillInStackTrace", "(I)Ljava/lang/Throwable;"⟩, 6), (⟨"ChainLeapModel", "wrongRow", "(I)I"⟩, 39), (⟨"ChainLeapModel", "readStatement", "()V"⟩, 39), (⟨"ChainLeapModel", "take", "(I)V"⟩, 39), (⟨"ChainLeapModel", "here", "()I"⟩, 39), (⟨"ChainLeapModel", "readNumber", "()I"⟩, 39), (⟨"ChainLeapModel", "readDigit", "()I"⟩, 39), (⟨"ChainLeapModel", "hasLetter", "(I)Z"⟩, 39), (⟨"ChainLeapModel", "wrongStory", "(I)I"⟩, 39), (⟨"ChainLeapModel", "tellOn", "(I)V"⟩, 39), (⟨"ChainLeapModel", "tell", "(IIIII)V"⟩, 39), (⟨"ChainLeapModel", "tickOn", "()V"⟩, 39), (⟨"ChainLeapModel", "less", "()I"⟩, 39), (⟨"ChainLeapModel", "begin", "()V"⟩, 39)]
theorem lw_r2 : ∀ q ∈ lw_privs_2, lw_okq q := List.forall_mem_cons.mpr ⟨lw_p16, List.forall_mem_cons.mpr ⟨lw_p17, List.forall_mem_cons.mpr ⟨lw_p18, List.forall_mem_cons.mpr ⟨lw_p19, List.forall_mem_cons.mpr ⟨lw_p20, List.forall_mem_cons.mpr ⟨lw_p21, List.forall_mem_cons.mpr ⟨lw_p22, List.forall_mem_cons.mpr ⟨lw_p23, List.forall_mem_cons.mpr ⟨lw_p24, List.forall_mem_cons.mpr ⟨lw_p25, List.forall_mem_cons.mpr ⟨lw_p26, List.forall_mem_cons.mpr ⟨lw_p27, List.forall_mem_cons.mpr ⟨lw_p28, List.forall_mem_cons.mpr ⟨lw_p29, List.forall_mem_cons.mpr ⟨lw_p30, List.forall_mem_cons.mpr ⟨lw_p31, fun _ h => absurd h List.not_mem_nil⟩⟩⟩⟩⟩⟩⟩⟩⟩⟩⟩⟩⟩⟩⟩⟩
theorem lw_p32 : lw_okq (⟨"ChainLeapModel", "aheadOf", "(III)I"⟩, 39) := ⟨⟨by decide +kernel, by decide +kernel⟩, List.mem_of_getElem? (i := 709) (by decide +kernel), List.mem_of_getElem? (i := 944) (by decide +kernel), List.mem_of_getElem? (i := 945) (by decide +kernel)⟩
theorem lw_p33 : lw_okq (⟨"ChainLeapModel", "sharedOf", "(I)I"⟩, 39) := ⟨⟨by decide +kernel, by decide +kernel⟩, List.mem_of_getElem? (i := 709) (by decide +kernel), List.mem_of_getElem? (i := 948) (by decide +kernel), List.mem_of_getElem? (i := 949) (by decide +kernel)⟩
theorem lw_p34 : lw_okq (⟨"ChainLeapModel", "wrongTwo", "(II)I"⟩, 39) := ⟨⟨by decide +kernel, by decide +kernel⟩, List.mem_of_getElem? (i := 709) (by decide +kernel), List.mem_of_getElem? (i := 956) (by decide +kernel), List.mem_of_getElem? (i := 957) (by decide +kernel)⟩
theorem lw_p35 : lw_okq (⟨"ChainLeapModel", "wrongFilms", "(I)I"⟩, 39) := ⟨⟨by decide +kernel, by decide +kernel⟩, List.mem_of_getElem? (i := 709) (by decide +kernel), List.mem_of_getElem? (i := 966) (by decide +kernel), List.mem_of_getElem? (i := 967) (by decide +kernel)⟩
theorem lw_p36 : lw_okq (⟨"ChainLeapModel", "isLet", "(IIII)Z"⟩, 39) := ⟨⟨by decide +kernel, by decide +kernel⟩, List.mem_of_getElem? (i := 709) (by decide +kernel), List.mem_of_getElem? (i := 970) (by decide +kernel), List.mem_of_getElem? (i := 971) (by decide +kernel)⟩
theorem lw_p37 : lw_okq (⟨"ChainLeapModel", "skippedIn", "(I)J"⟩, 39) := ⟨⟨by decide +kernel, by decide +kernel⟩, List.mem_of_getElem? (i := 709) (by decide +kernel), List.mem_of_getElem? (i := 974) (by decide +kernel), List.mem_of_getElem? (i := 975) (by decide +kernel)⟩
theorem lw_p38 : lw_okq (⟨"ChainLeapModel", "paceAfter", "(I)I"⟩, 39) := ⟨⟨by decide +kernel, by decide +kernel⟩, List.mem_of_getElem? (i := 709) (by decide +kernel), List.mem_of_getElem? (i := 1001) (by decide +kernel), List.mem_of_getElem? (i := 1002) (by decide +kernel)⟩
theorem lw_p39 : lw_okq (⟨"ChainLeapModel", "open", "()V"⟩, 39) := ⟨⟨by decide +kernel, by decide +kernel⟩, List.mem_of_getElem? (i := 709) (by decide +kernel), List.mem_of_getElem? (i := 1005) (by decide +kernel), List.mem_of_getElem? (i := 1006) (by decide +kernel)⟩
theorem lw_p40 : lw_okq (⟨"ChainLeapModel", "close", "()V"⟩, 39) := ⟨⟨by decide +kernel, by decide +kernel⟩, List.mem_of_getElem? (i := 709) (by decide +kernel), List.mem_of_getElem? (i := 1009) (by decide +kernel), List.mem_of_getElem? (i := 1010) (by decide +kernel)⟩
theorem lw_p41 : lw_okq (⟨"ChainLeapModel", "carryAll", "()V"⟩, 39) := ⟨⟨by decide +kernel, by decide +kernel⟩, List.mem_of_getElem? (i := 709) (by decide +kernel), List.mem_of_getElem? (i := 1042) (by decide +kernel), List.mem_of_getElem? (i := 1043) (by decide +kernel)⟩
theorem lw_p42 : lw_okq (⟨"ChainLeapModel", "carry", "(I)I"⟩, 39) := ⟨⟨by decide +kernel, by decide +kernel⟩, List.mem_of_getElem? (i := 709) (by decide +kernel), List.mem_of_getElem? (i := 1046) (by decide +kernel), List.mem_of_getElem? (i := 1047) (by decide +kernel)⟩
theorem lw_p43 : lw_okq (⟨"ChainLeapModel", "waitOf", "(I)I"⟩, 39) := ⟨⟨by decide +kernel, by decide +kernel⟩, List.mem_of_getElem? (i := 709) (by decide +kernel), List.mem_of_getElem? (i := 1085) (by decide +kernel), List.mem_of_getElem? (i := 1086) (by decide +kernel)⟩
def lw_privs_3 : List (MethodName × Nat) := [(⟨"ChainLeapModel", "aheadOf", "(III)I"⟩, 39), (⟨"ChainLeapModel", "sharedOf", "(I)I"⟩, 39), (⟨"ChainLeapModel", "wrongTwo", "(II)I"⟩, 39), (⟨"ChainLeapModel", "wrongFilms", "(I)I"⟩, 39), (⟨"ChainLeapModel", "isLet", "(IIII)Z"⟩, 39), (⟨"ChainLeapModel", "skippedIn", "(I)J"⟩, 39), (⟨"ChainLeapModel", "paceAfter", "(I)I"⟩, 39), (⟨"ChainLeapModel", "open", "()V"⟩, 39), (⟨"ChainLeapModel", "close", "()V"⟩, 39), (⟨"ChainLeapModel", "carryAll", "()V"⟩, 39), (⟨"ChainLeapModel", "carry", "(I)I"⟩, 39), (⟨"ChainLeapModel", "waitOf", "(I)I"⟩, 39)]
theorem lw_r3 : ∀ q ∈ lw_privs_3, lw_okq q := List.forall_mem_cons.mpr ⟨lw_p32, List.forall_mem_cons.mpr ⟨lw_p33, List.forall_mem_cons.mpr ⟨lw_p34, List.forall_mem_cons.mpr ⟨lw_p35, List.forall_mem_cons.mpr ⟨lw_p36, List.forall_mem_cons.mpr ⟨lw_p37, List.forall_mem_cons.mpr ⟨lw_p38, List.forall_mem_cons.mpr ⟨lw_p39, List.forall_mem_cons.mpr ⟨lw_p40, List.forall_mem_cons.mpr ⟨lw_p41, List.forall_mem_cons.mpr ⟨lw_p42, List.forall_mem_cons.mpr ⟨lw_p43, fun _ h => absurd h List.not_mem_nil⟩⟩⟩⟩⟩⟩⟩⟩⟩⟩⟩⟩
def lw_privs : List (MethodName × Nat) := lw_privs_1 ++ (lw_privs_2 ++ (lw_privs_3))
def lw_tbl : List Cond := k2_sels lw_privs ++ tables_1
theorem lw_privs_ok : ∀ q ∈ lw_privs, lw_okq q := by
  show ∀ q ∈ lw_privs_1 ++ (lw_privs_2 ++ (lw_privs_3)), lw_okq q
  exact List.forall_mem_append.mpr ⟨lw_r1, List.forall_mem_append.mpr ⟨lw_r2, lw_r3⟩⟩
-- ===== names (printed) =====
def RX0 : String := "ChainLeap$Course"
def TX0 : u_T := fun k => match k with
  | 0 => ("ChainLeap$Course", "tick", "I", false)
  | 1 => ("ChainLeap$Course", "pace", "I", false)
  | 2 => ("ChainLeap$Course", "arch", "I", false)
  | 3 => ("ChainLeap$Course", "out", "I", false)
  | _ => ("ChainLeap$Course", "highest", "I", false)
def tyX0 : Nat → FieldType := fun k => match k with
  | 0 => .int
  | 1 => .int
  | 2 => .int
  | 3 => .int
  | _ => .int
abbrev wsX00 : List Cond := u_ws RX0 TX0 5
theorem nmX0 : ∀ a, a < 5 → ∀ b, b < 5 → a ≠ b → (TX0 a).2.1 ≠ (TX0 b).2.1 := by decide +kernel
theorem tyX0_ok : ∀ k, k < 5 → parseFieldDescriptor (TX0 k).2.2.1 = some (tyX0 k) := by decide +kernel
abbrev cX0_init : ByteArray := prog_2_method_1_code
def yX0_init : MethodName := ⟨RX0, "<init>", "()V"⟩
abbrev cX0_clear : ByteArray := prog_2_method_2_code
def yX0_clear : MethodName := ⟨RX0, "clear", "()V"⟩
abbrev cX0_take : ByteArray := prog_2_method_3_code
def yX0_take : MethodName := ⟨RX0, "take", "(LChainLeap$Course;)V"⟩
abbrev cX0_step : ByteArray := prog_2_method_4_code
def yX0_step : MethodName := ⟨RX0, "step", "(IIII)V"⟩
def RX1 : String := "ChainLeap$Reader"
def TX1 : u_T := fun k => match k with
  | 0 => ("ChainLeap$Reader", "text", "[I", true)
  | 1 => ("ChainLeap$Reader", "size", "I", false)
  | 2 => ("ChainLeap$Reader", "at", "I", false)
  | _ => ("ChainLeap$Reader", "broken", "Z", false)
def tyX1 : Nat → FieldType := fun k => match k with
  | 0 => .array .int
  | 1 => .int
  | 2 => .int
  | _ => .boolean
abbrev wsX10 : List Cond := u_ws RX1 TX1 4
theorem nmX1 : ∀ a, a < 4 → ∀ b, b < 4 → a ≠ b → (TX1 a).2.1 ≠ (TX1 b).2.1 := by decide +kernel
theorem tyX1_ok : ∀ k, k < 4 → parseFieldDescriptor (TX1 k).2.2.1 = some (tyX1 k) := by decide +kernel
abbrev cX1_init : ByteArray := prog_3_method_1_code
def yX1_init : MethodName := ⟨RX1, "<init>", "()V"⟩
abbrev cX1_open : ByteArray := prog_3_method_2_code
def yX1_open : MethodName := ⟨RX1, "open", "(LChainLeap$Shelf;)V"⟩
abbrev cX1_isAtEnd : ByteArray := prog_3_method_3_code
def yX1_isAtEnd : MethodName := ⟨RX1, "isAtEnd", "()Z"⟩
abbrev cX1_readStatement : ByteArray := prog_3_method_4_code
def yX1_readStatement : MethodName := ⟨RX1, "readStatement", "(LChainLeap$Setting;LChainLeap$Setting;)V"⟩
abbrev cX1_next : ByteArray := prog_3_method_5_code
def yX1_next : MethodName := ⟨RX1, "next", "()I"⟩
abbrev cX1_isAtDigit : ByteArray := prog_3_method_6_code
def yX1_isAtDigit : MethodName := ⟨RX1, "isAtDigit", "()Z"⟩
abbrev cX1_accepts : ByteArray := prog_3_method_7_code
def yX1_accepts : MethodName := ⟨RX1, "accepts", "(C)Z"⟩
abbrev cX1_need : ByteArray := prog_3_method_8_code
def yX1_need : MethodName := ⟨RX1, "need", "(C)V"⟩
abbrev cX1_digit : ByteArray := prog_3_method_9_code
def yX1_digit : MethodName := ⟨RX1, "digit", "()I"⟩
abbrev cX1_number : ByteArray := prog_3_method_10_code
def yX1_number : MethodName := ⟨RX1, "number", "()I"⟩
def RX2 : String := "ChainLeap$Scene"
def TX2 : u_T := fun k => match k with
  | 0 => ("ChainLeap$Scene", "chain", "LChainLeap$Setting;", true)
  | 1 => ("ChainLeap$Scene", "length", "I", false)
  | 2 => ("ChainLeap$Scene", "tried", "[LChainLeap$Setting;", true)
  | 3 => ("ChainLeap$Scene", "tryCount", "I", false)
  | _ => ("ChainLeap$Scene", "course", "LChainLeap$Course;", true)
def tyX2 : Nat → FieldType := fun k => match k with
  | 0 => .object "ChainLeap$Setting"
  | 1 => .int
  | 2 => .array (.object "ChainLeap$Setting")
  | 3 => .int
  | _ => .object "ChainLeap$Course"
abbrev wsX20 : List Cond := u_ws RX2 TX2 5
theorem nmX2 : ∀ a, a < 5 → ∀ b, b < 5 → a ≠ b → (TX2 a).2.1 ≠ (TX2 b).2.1 := by decide +kernel
theorem tyX2_ok : ∀ k, k < 5 → parseFieldDescriptor (TX2 k).2.2.1 = some (tyX2 k) := by decide +kernel
abbrev cX2_init : ByteArray := prog_4_method_1_code
def yX2_init : MethodName := ⟨RX2, "<init>", "()V"⟩
abbrev cX2_take : ByteArray := prog_4_method_2_code
def yX2_take : MethodName := ⟨RX2, "take", "(LChainLeap$Scene;)V"⟩
abbrev cX2_hasTry : ByteArray := prog_4_method_3_code
def yX2_hasTry : MethodName := ⟨RX2, "hasTry", "(I)Z"⟩
abbrev cX2_isDone : ByteArray := prog_4_method_4_code
def yX2_isDone : MethodName := ⟨RX2, "isDone", "()Z"⟩
abbrev cX2_step : ByteArray := prog_4_method_5_code
def yX2_step : MethodName := ⟨RX2, "step", "(LChainLeap$Course;LChainLeap$Tale;)V"⟩
abbrev cX2_writes : ByteArray := prog_4_method_6_code
def yX2_writes : MethodName := ⟨RX2, "writes", "(LChainLeap$Setting;I)Z"⟩
def RX3 : String := "ChainLeap$Setting"
def TX3 : u_T := fun k => match k with
  | 0 => ("ChainLeap$Setting", "rod", "I", false)
  | 1 => ("ChainLeap$Setting", "bend", "I", false)
  | 2 => ("ChainLeap$Setting", "laid", "I", false)
  | _ => ("ChainLeap$Setting", "drop", "I", false)
def tyX3 : Nat → FieldType := fun k => match k with
  | 0 => .int
  | 1 => .int
  | 2 => .int
  | _ => .int
abbrev wsX30 : List Cond := u_ws RX3 TX3 4
theorem nmX3 : ∀ a, a < 4 → ∀ b, b < 4 → a ≠ b → (TX3 a).2.1 ≠ (TX3 b).2.1 := by decide +kernel
theorem tyX3_ok : ∀ k, k < 4 → parseFieldDescriptor (TX3 k).2.2.1 = some (tyX3 k) := by decide +kernel
abbrev cX3_init : ByteArray := prog_5_method_1_code
def yX3_init : MethodName := ⟨RX3, "<init>", "()V"⟩
abbrev cX3_take : ByteArray := prog_5_method_2_code
def yX3_take : MethodName := ⟨RX3, "take", "(LChainLeap$Setting;)V"⟩
abbrev cX3_isAsTold : ByteArray := prog_5_method_3_code
def yX3_isAsTold : MethodName := ⟨RX3, "isAsTold", "()Z"⟩
def RX4 : String := "ChainLeap$Shelf"
def TX4 : u_T := fun k => match k with
  | 0 => ("ChainLeap$Shelf", "held", "I", false)
  | 1 => ("ChainLeap$Shelf", "tale", "LChainLeap$Tale;", true)
  | 2 => ("ChainLeap$Shelf", "sort", "I", false)
  | 3 => ("ChainLeap$Shelf", "size", "I", false)
  | _ => ("ChainLeap$Shelf", "elements", "[I", true)
def tyX4 : Nat → FieldType := fun k => match k with
  | 0 => .int
  | 1 => .object "ChainLeap$Tale"
  | 2 => .int
  | 3 => .int
  | _ => .array .int
abbrev wsX40 : List Cond := u_ws RX4 TX4 5
theorem nmX4 : ∀ a, a < 5 → ∀ b, b < 5 → a ≠ b → (TX4 a).2.1 ≠ (TX4 b).2.1 := by decide +kernel
theorem tyX4_ok : ∀ k, k < 5 → parseFieldDescriptor (TX4 k).2.2.1 = some (tyX4 k) := by decide +kernel
abbrev cX4_init : ByteArray := prog_6_method_1_code
def yX4_init : MethodName := ⟨RX4, "<init>", "()V"⟩
abbrev cX4_holdsRow : ByteArray := prog_6_method_2_code
def yX4_holdsRow : MethodName := ⟨RX4, "holdsRow", "()Z"⟩
abbrev cX4_clear : ByteArray := prog_6_method_3_code
def yX4_clear : MethodName := ⟨RX4, "clear", "()V"⟩
abbrev cX4_holdStory : ByteArray := prog_6_method_4_code
def yX4_holdStory : MethodName := ⟨RX4, "holdStory", "(II)V"⟩
abbrev cX4_holdRow : ByteArray := prog_6_method_5_code
def yX4_holdRow : MethodName := ⟨RX4, "holdRow", "(II)V"⟩
abbrev cX4_hasPlace : ByteArray := prog_6_method_6_code
def yX4_hasPlace : MethodName := ⟨RX4, "hasPlace", "(I)Z"⟩
abbrev cX4_hasStretch : ByteArray := prog_6_method_7_code
def yX4_hasStretch : MethodName := ⟨RX4, "hasStretch", "(II)Z"⟩
abbrev cX4_change : ByteArray := prog_6_method_8_code
def yX4_change : MethodName := ⟨RX4, "change", "(II)V"⟩
abbrev cX4_at : ByteArray := prog_6_method_9_code
def yX4_at : MethodName := ⟨RX4, "at", "(I)I"⟩
abbrev cX4_tells : ByteArray := prog_6_method_10_code
def yX4_tells : MethodName := ⟨RX4, "tells", "(I)Z"⟩
def RX5 : String := "ChainLeap$Tale"
def TX5 : u_T := fun k => match k with
  | 0 => ("ChainLeap$Tale", "kind", "I", false)
  | _ => ("ChainLeap$Tale", "figure", "I", false)
def tyX5 : Nat → FieldType := fun k => match k with
  | 0 => .int
  | _ => .int
abbrev wsX50 : List Cond := u_ws RX5 TX5 2
theorem nmX5 : ∀ a, a < 2 → ∀ b, b < 2 → a ≠ b → (TX5 a).2.1 ≠ (TX5 b).2.1 := by decide +kernel
theorem tyX5_ok : ∀ k, k < 2 → parseFieldDescriptor (TX5 k).2.2.1 = some (tyX5 k) := by decide +kernel
abbrev cX5_init : ByteArray := prog_7_method_1_code
def yX5_init : MethodName := ⟨RX5, "<init>", "()V"⟩
abbrev cX5_become : ByteArray := prog_7_method_2_code
def yX5_become : MethodName := ⟨RX5, "become", "(II)V"⟩
abbrev cX5_kick : ByteArray := prog_7_method_3_code
def yX5_kick : MethodName := ⟨RX5, "kick", "(LChainLeap$Setting;)I"⟩
abbrev cX5_kickOfKicked : ByteArray := prog_7_method_4_code
def yX5_kickOfKicked : MethodName := ⟨RX5, "kickOfKicked", "(LChainLeap$Setting;)I"⟩
abbrev cX5_kickOfThrown : ByteArray := prog_7_method_5_code
def yX5_kickOfThrown : MethodName := ⟨RX5, "kickOfThrown", "(LChainLeap$Setting;)I"⟩
abbrev cX5_draw : ByteArray := prog_7_method_6_code
def yX5_draw : MethodName := ⟨RX5, "draw", "()I"⟩
abbrev cX5_hold : ByteArray := prog_7_method_7_code
def yX5_hold : MethodName := ⟨RX5, "hold", "()I"⟩
abbrev cX5_less : ByteArray := prog_7_method_8_code
def yX5_less : MethodName := ⟨RX5, "less", "(LChainLeap$Setting;)I"⟩
abbrev cX5_archAt : ByteArray := prog_7_method_9_code
def yX5_archAt : MethodName := ⟨RX5, "archAt", "(LChainLeap$Setting;I)I"⟩
abbrev cX5_arch : ByteArray := prog_7_method_10_code
def yX5_arch : MethodName := ⟨RX5, "arch", "(LChainLeap$Setting;)I"⟩
abbrev cX5_waiting : ByteArray := prog_7_method_11_code
def yX5_waiting : MethodName := ⟨RX5, "waiting", "()I"⟩
abbrev cX5_waitOfKicked : ByteArray := prog_7_method_12_code
def yX5_waitOfKicked : MethodName := ⟨RX5, "waitOfKicked", "()I"⟩
abbrev cX5_waitOfThrown : ByteArray := prog_7_method_13_code
def yX5_waitOfThrown : MethodName := ⟨RX5, "waitOfThrown", "()I"⟩
abbrev cX5_fail : ByteArray := prog_7_method_14_code
def yX5_fail : MethodName := ⟨RX5, "fail", "()V"⟩
def RX6 : String := "ChainLeap"
def TX6 : u_T := fun k => match k with
  | 0 => ("ChainLeap", "scene", "LChainLeap$Scene;", true)
  | 1 => ("ChainLeap", "pictured", "LChainLeap$Scene;", true)
  | 2 => ("ChainLeap", "isPictured", "Z", false)
  | 3 => ("ChainLeap", "shelves", "[LChainLeap$Shelf;", true)
  | 4 => ("ChainLeap", "reader", "LChainLeap$Reader;", true)
  | 5 => ("ChainLeap", "draft", "LChainLeap$Setting;", true)
  | 6 => ("ChainLeap", "fancy", "LChainLeap$Tale;", true)
  | 7 => ("ChainLeap", "plain", "LChainLeap$Tale;", true)
  | _ => ("ChainLeap", "mind", "LChainLeap$Course;", true)
def tyX6 : Nat → FieldType := fun k => match k with
  | 0 => .object "ChainLeap$Scene"
  | 1 => .object "ChainLeap$Scene"
  | 2 => .boolean
  | 3 => .array (.object "ChainLeap$Shelf")
  | 4 => .object "ChainLeap$Reader"
  | 5 => .object "ChainLeap$Setting"
  | 6 => .object "ChainLeap$Tale"
  | 7 => .object "ChainLeap$Tale"
  | _ => .object "ChainLeap$Course"
abbrev wsX60 : List Cond := u_ws RX6 TX6 9
theorem nmX6 : ∀ a, a < 9 → ∀ b, b < 9 → a ≠ b → (TX6 a).2.1 ≠ (TX6 b).2.1 := by decide +kernel
theorem tyX6_ok : ∀ k, k < 9 → parseFieldDescriptor (TX6 k).2.2.1 = some (tyX6 k) := by decide +kernel
abbrev cX6_init : ByteArray := prog_1_method_1_code
def yX6_init : MethodName := ⟨RX6, "<init>", "()V"⟩
abbrev cX6_isWithin : ByteArray := prog_1_method_2_code
def yX6_isWithin : MethodName := ⟨RX6, "isWithin", "(III)Z"⟩
abbrev cX6_isShelf : ByteArray := prog_1_method_3_code
def yX6_isShelf : MethodName := ⟨RX6, "isShelf", "(I)Z"⟩
abbrev cX6_storyRefusal : ByteArray := prog_1_method_4_code
def yX6_storyRefusal : MethodName := ⟨RX6, "storyRefusal", "(I)I"⟩
abbrev cX6_rowRefusal : ByteArray := prog_1_method_5_code
def yX6_rowRefusal : MethodName := ⟨RX6, "rowRefusal", "(I)I"⟩
abbrev cX6_refusalOf : ByteArray := prog_1_method_6_code
def yX6_refusalOf : MethodName := ⟨RX6, "refusalOf", "(II)I"⟩
abbrev cX6_firstRefusal : ByteArray := prog_1_method_7_code
def yX6_firstRefusal : MethodName := ⟨RX6, "firstRefusal", "(II)I"⟩
abbrev cX6_putApart : ByteArray := prog_1_method_8_code
def yX6_putApart : MethodName := ⟨RX6, "putApart", "(I)I"⟩
abbrev cX6_set : ByteArray := prog_1_method_9_code
def yX6_set : MethodName := ⟨RX6, "set", "(II)I"⟩
abbrev cX6_maySet : ByteArray := prog_1_method_10_code
def yX6_maySet : MethodName := ⟨RX6, "maySet", "(II)Z"⟩
abbrev cX6_chainNumber : ByteArray := prog_1_method_11_code
def yX6_chainNumber : MethodName := ⟨RX6, "chainNumber", "(I)I"⟩
abbrev cX6_tries : ByteArray := prog_1_method_12_code
def yX6_tries : MethodName := ⟨RX6, "tries", "(I)I"⟩
abbrev cX6_readTries : ByteArray := prog_1_method_13_code
def yX6_readTries : MethodName := ⟨RX6, "readTries", "(LChainLeap$Shelf;)I"⟩
abbrev cX6_tryOf : ByteArray := prog_1_method_14_code
def yX6_tryOf : MethodName := ⟨RX6, "tryOf", "(II)I"⟩
abbrev cX6_leave : ByteArray := prog_1_method_15_code
def yX6_leave : MethodName := ⟨RX6, "leave", "()I"⟩
abbrev cX6_story : ByteArray := prog_1_method_16_code
def yX6_story : MethodName := ⟨RX6, "story", "(II)I"⟩
abbrev cX6_run : ByteArray := prog_1_method_17_code
def yX6_run : MethodName := ⟨RX6, "run", "(II)I"⟩
abbrev cX6_anew : ByteArray := prog_1_method_18_code
def yX6_anew : MethodName := ⟨RX6, "anew", "()I"⟩
abbrev cX6_state : ByteArray := prog_1_method_19_code
def yX6_state : MethodName := ⟨RX6, "state", "(I)I"⟩
abbrev cX6_rests : ByteArray := prog_1_method_20_code
def yX6_rests : MethodName := ⟨RX6, "rests", "(II)I"⟩
abbrev cX6_greatestShared : ByteArray := prog_1_method_21_code
def yX6_greatestShared : MethodName := ⟨RX6, "greatestShared", "(II)I"⟩
abbrev cX6_ahead : ByteArray := prog_1_method_22_code
def yX6_ahead : MethodName := ⟨RX6, "ahead", "(II)I"⟩
abbrev cX6_parts : ByteArray := prog_1_method_23_code
def yX6_parts : MethodName := ⟨RX6, "parts", "(III)I"⟩
abbrev cX6_unlikeness : ByteArray := prog_1_method_24_code
def yX6_unlikeness : MethodName := ⟨RX6, "unlikeness", "(LChainLeap$Tale;LChainLeap$Tale;LChainLeap$Setting;)I"⟩
abbrev cX6_films : ByteArray := prog_1_method_25_code
def yX6_films : MethodName := ⟨RX6, "films", "(III)I"⟩
abbrev cX6_filmRefusal : ByteArray := prog_1_method_26_code
def yX6_filmRefusal : MethodName := ⟨RX6, "filmRefusal", "(I)I"⟩
abbrev cX6_fits : ByteArray := prog_1_method_27_code
def yX6_fits : MethodName := ⟨RX6, "fits", "(LChainLeap$Tale;LChainLeap$Shelf;I)Z"⟩
abbrev cX6_isNear : ByteArray := prog_1_method_28_code
def yX6_isNear : MethodName := ⟨RX6, "isNear", "(III)Z"⟩
abbrev cX6_numbers : ByteArray := prog_1_method_29_code
def yX6_numbers : MethodName := ⟨RX6, "numbers", "(IIII)I"⟩
abbrev cX6_most : ByteArray := prog_1_method_30_code
def yX6_most : MethodName := ⟨RX6, "most", "(I)I"⟩
abbrev cX6_lays : ByteArray := prog_1_method_31_code
def yX6_lays : MethodName := ⟨RX6, "lays", "(I)I"⟩
abbrev cX6_without : ByteArray := prog_1_method_32_code
def yX6_without : MethodName := ⟨RX6, "without", "(II)I"⟩
abbrev cX6_paceBehind : ByteArray := prog_1_method_33_code
def yX6_paceBehind : MethodName := ⟨RX6, "paceBehind", "(LChainLeap$Tale;II)I"⟩
abbrev cX6_rested : ByteArray := prog_1_method_34_code
def yX6_rested : MethodName := ⟨RX6, "rested", "(I)I"⟩
abbrev cX6_when : ByteArray := prog_1_method_35_code
def yX6_when : MethodName := ⟨RX6, "when", "(I)I"⟩
abbrev cX6_floor : ByteArray := prog_1_method_36_code
def yX6_floor : MethodName := ⟨RX6, "floor", "(III)I"⟩
abbrev cX6_scale : ByteArray := prog_1_method_37_code
def yX6_scale : MethodName := ⟨RX6, "scale", "(II)I"⟩
abbrev cX6_slant : ByteArray := prog_1_method_38_code
def yX6_slant : MethodName := ⟨RX6, "slant", "(II)I"⟩
abbrev cX6_judge : ByteArray := prog_1_method_39_code
def yX6_judge : MethodName := ⟨RX6, "judge", "(II)I"⟩
abbrev cX6_image : ByteArray := prog_1_method_40_code
def yX6_image : MethodName := ⟨RX6, "image", "()I"⟩
abbrev cX6_restore : ByteArray := prog_1_method_41_code
def yX6_restore : MethodName := ⟨RX6, "restore", "()I"⟩
abbrev cX6_count : ByteArray := prog_1_method_42_code
def yX6_count : MethodName := ⟨RX6, "count", "(I)I"⟩
abbrev cX6_keep : ByteArray := prog_1_method_43_code
def yX6_keep : MethodName := ⟨RX6, "keep", "(IIII)I"⟩
abbrev cX6_row : ByteArray := prog_1_method_44_code
def yX6_row : MethodName := ⟨RX6, "row", "(III)I"⟩
abbrev cX6_put : ByteArray := prog_1_method_45_code
def yX6_put : MethodName := ⟨RX6, "put", "(III)I"⟩
abbrev cX6_element : ByteArray := prog_1_method_46_code
def yX6_element : MethodName := ⟨RX6, "element", "(II)J"⟩
abbrev cX6_copy : ByteArray := prog_1_method_47_code
def yX6_copy : MethodName := ⟨RX6, "copy", "(IIIII)I"⟩
abbrev cX6_waits : ByteArray := prog_1_method_48_code
def yX6_waits : MethodName := ⟨RX6, "waits", "(I)I"⟩
abbrev cX6_toss : ByteArray := prog_1_method_49_code
def yX6_toss : MethodName := ⟨RX6, "toss", "(I)I"⟩
abbrev cX6_tossed : ByteArray := prog_1_method_50_code
def yX6_tossed : MethodName := ⟨RX6, "tossed", "(LChainLeap$Tale;)I"⟩
def RX7 : String := "ChainLeapModel"
def TX7 : u_T := fun k => match k with
  | 0 => ("ChainLeapModel", "rod", "I", false)
  | 1 => ("ChainLeapModel", "bend", "I", false)
  | 2 => ("ChainLeapModel", "laid", "I", false)
  | 3 => ("ChainLeapModel", "length", "I", false)
  | 4 => ("ChainLeapModel", "drop", "I", false)
  | 5 => ("ChainLeapModel", "tries", "I", false)
  | 6 => ("ChainLeapModel", "told", "[I", true)
  | 7 => ("ChainLeapModel", "tick", "I", false)
  | 8 => ("ChainLeapModel", "pace", "I", false)
  | 9 => ("ChainLeapModel", "arch", "I", false)
  | 10 => ("ChainLeapModel", "out", "I", false)
  | 11 => ("ChainLeapModel", "highest", "I", false)
  | 12 => ("ChainLeapModel", "thrown", "I", false)
  | 13 => ("ChainLeapModel", "base", "I", false)
  | 14 => ("ChainLeapModel", "end", "I", false)
  | 15 => ("ChainLeapModel", "at", "I", false)
  | 16 => ("ChainLeapModel", "isBad", "Z", false)
  | 17 => ("ChainLeapModel", "statements", "I", false)
  | 18 => ("ChainLeapModel", "placeOf", "[I", true)
  | 19 => ("ChainLeapModel", "numbers", "[I", true)
  | 20 => ("ChainLeapModel", "kick", "I", false)
  | 21 => ("ChainLeapModel", "draw", "I", false)
  | 22 => ("ChainLeapModel", "hold", "I", false)
  | 23 => ("ChainLeapModel", "savedTick", "I", false)
  | 24 => ("ChainLeapModel", "savedPace", "I", false)
  | 25 => ("ChainLeapModel", "savedArch", "I", false)
  | 26 => ("ChainLeapModel", "savedOut", "I", false)
  | 27 => ("ChainLeapModel", "savedHighest", "I", false)
  | 28 => ("ChainLeapModel", "hasImage", "Z", false)
  | 29 => ("ChainLeapModel", "imaged", "[I", true)
  | 30 => ("ChainLeapModel", "imageAt", "I", false)
  | 31 => ("ChainLeapModel", "isTaking", "Z", false)
  | 32 => ("ChainLeapModel", "holdsWhat", "[I", true)
  | 33 => ("ChainLeapModel", "storyKind", "[I", true)
  | 34 => ("ChainLeapModel", "storyFigure", "[I", true)
  | 35 => ("ChainLeapModel", "rowSort", "[I", true)
  | 36 => ("ChainLeapModel", "rowMany", "[I", true)
  | 37 => ("ChainLeapModel", "rows", "[J", true)
  | _ => ("ChainLeapModel", "between", "[J", true)
def tyX7 : Nat → FieldType := fun k => match k with
  | 0 => .int
  | 1 => .int
  | 2 => .int
  | 3 => .int
  | 4 => .int
  | 5 => .int
  | 6 => .array .int
  | 7 => .int
  | 8 => .int
  | 9 => .int
  | 10 => .int
  | 11 => .int
  | 12 => .int
  | 13 => .int
  | 14 => .int
  | 15 => .int
  | 16 => .boolean
  | 17 => .int
  | 18 => .array .int
  | 19 => .array .int
  | 20 => .int
  | 21 => .int
  | 22 => .int
  | 23 => .int
  | 24 => .int
  | 25 => .int
  | 26 => .int
  | 27 => .int
  | 28 => .boolean
  | 29 => .array .int
  | 30 => .int
  | 31 => .boolean
  | 32 => .array .int
  | 33 => .array .int
  | 34 => .array .int
  | 35 => .array .int
  | 36 => .array .int
  | 37 => .array .long
  | _ => .array .long
abbrev wsX70 : List Cond := u_ws RX7 TX7 39
theorem nmX7 : ∀ a, a < 39 → ∀ b, b < 39 → a ≠ b → (TX7 a).2.1 ≠ (TX7 b).2.1 := by decide +kernel
theorem tyX7_ok : ∀ k, k < 39 → parseFieldDescriptor (TX7 k).2.2.1 = some (tyX7 k) := by decide +kernel
abbrev cX7_init : ByteArray := prog_9_method_1_code
def yX7_init : MethodName := ⟨RX7, "<init>", "()V"⟩
abbrev cX7_thrown : ByteArray := prog_9_method_2_code
def yX7_thrown : MethodName := ⟨RX7, "thrown", "()I"⟩
abbrev cX7_in : ByteArray := prog_9_method_3_code
def yX7_in : MethodName := ⟨RX7, "in", "(JJJ)Z"⟩
abbrev cX7_far : ByteArray := prog_9_method_4_code
def yX7_far : MethodName := ⟨RX7, "far", "(I)I"⟩
abbrev cX7_set : ByteArray := prog_9_method_5_code
def yX7_set : MethodName := ⟨RX7, "set", "(II)I"⟩
abbrev cX7_here : ByteArray := prog_9_method_6_code
def yX7_here : MethodName := ⟨RX7, "here", "()I"⟩
abbrev cX7_take : ByteArray := prog_9_method_7_code
def yX7_take : MethodName := ⟨RX7, "take", "(I)V"⟩
abbrev cX7_readDigit : ByteArray := prog_9_method_8_code
def yX7_readDigit : MethodName := ⟨RX7, "readDigit", "()I"⟩
abbrev cX7_readNumber : ByteArray := prog_9_method_9_code
def yX7_readNumber : MethodName := ⟨RX7, "readNumber", "()I"⟩
abbrev cX7_hasLetter : ByteArray := prog_9_method_10_code
def yX7_hasLetter : MethodName := ⟨RX7, "hasLetter", "(I)Z"⟩
abbrev cX7_readStatement : ByteArray := prog_9_method_11_code
def yX7_readStatement : MethodName := ⟨RX7, "readStatement", "()V"⟩
abbrev cX7_tries : ByteArray := prog_9_method_12_code
def yX7_tries : MethodName := ⟨RX7, "tries", "(I)I"⟩
abbrev cX7_tryOf : ByteArray := prog_9_method_13_code
def yX7_tryOf : MethodName := ⟨RX7, "tryOf", "(II)I"⟩
abbrev cX7_leave : ByteArray := prog_9_method_14_code
def yX7_leave : MethodName := ⟨RX7, "leave", "()I"⟩
abbrev cX7_tell : ByteArray := prog_9_method_15_code
def yX7_tell : MethodName := ⟨RX7, "tell", "(IIIII)V"⟩
abbrev cX7_less : ByteArray := prog_9_method_16_code
def yX7_less : MethodName := ⟨RX7, "less", "()I"⟩
abbrev cX7_tellOn : ByteArray := prog_9_method_17_code
def yX7_tellOn : MethodName := ⟨RX7, "tellOn", "(I)V"⟩
abbrev cX7_wrongStory : ByteArray := prog_9_method_18_code
def yX7_wrongStory : MethodName := ⟨RX7, "wrongStory", "(I)I"⟩
abbrev cX7_story : ByteArray := prog_9_method_19_code
def yX7_story : MethodName := ⟨RX7, "story", "(II)I"⟩
abbrev cX7_tickOn : ByteArray := prog_9_method_20_code
def yX7_tickOn : MethodName := ⟨RX7, "tickOn", "()V"⟩
abbrev cX7_begin : ByteArray := prog_9_method_21_code
def yX7_begin : MethodName := ⟨RX7, "begin", "()V"⟩
abbrev cX7_open : ByteArray := prog_9_method_22_code
def yX7_open : MethodName := ⟨RX7, "open", "()V"⟩
abbrev cX7_close : ByteArray := prog_9_method_23_code
def yX7_close : MethodName := ⟨RX7, "close", "()V"⟩
abbrev cX7_run : ByteArray := prog_9_method_24_code
def yX7_run : MethodName := ⟨RX7, "run", "(II)I"⟩
abbrev cX7_anew : ByteArray := prog_9_method_25_code
def yX7_anew : MethodName := ⟨RX7, "anew", "()I"⟩
abbrev cX7_state : ByteArray := prog_9_method_26_code
def yX7_state : MethodName := ⟨RX7, "state", "(I)I"⟩
abbrev cX7_divisor : ByteArray := prog_9_method_27_code
def yX7_divisor : MethodName := ⟨RX7, "divisor", "(II)I"⟩
abbrev cX7_rests : ByteArray := prog_9_method_28_code
def yX7_rests : MethodName := ⟨RX7, "rests", "(II)I"⟩
abbrev cX7_sharedOf : ByteArray := prog_9_method_29_code
def yX7_sharedOf : MethodName := ⟨RX7, "sharedOf", "(I)I"⟩
abbrev cX7_aheadOf : ByteArray := prog_9_method_30_code
def yX7_aheadOf : MethodName := ⟨RX7, "aheadOf", "(III)I"⟩
abbrev cX7_ahead : ByteArray := prog_9_method_31_code
def yX7_ahead : MethodName := ⟨RX7, "ahead", "(II)I"⟩
abbrev cX7_wrongTwo : ByteArray := prog_9_method_32_code
def yX7_wrongTwo : MethodName := ⟨RX7, "wrongTwo", "(II)I"⟩
abbrev cX7_parts : ByteArray := prog_9_method_33_code
def yX7_parts : MethodName := ⟨RX7, "parts", "(III)I"⟩
abbrev cX7_skippedIn : ByteArray := prog_9_method_34_code
def yX7_skippedIn : MethodName := ⟨RX7, "skippedIn", "(I)J"⟩
abbrev cX7_isLet : ByteArray := prog_9_method_35_code
def yX7_isLet : MethodName := ⟨RX7, "isLet", "(IIII)Z"⟩
abbrev cX7_wrongFilms : ByteArray := prog_9_method_36_code
def yX7_wrongFilms : MethodName := ⟨RX7, "wrongFilms", "(I)I"⟩
abbrev cX7_films : ByteArray := prog_9_method_37_code
def yX7_films : MethodName := ⟨RX7, "films", "(III)I"⟩
abbrev cX7_numbers : ByteArray := prog_9_method_38_code
def yX7_numbers : MethodName := ⟨RX7, "numbers", "(IIII)I"⟩
abbrev cX7_most : ByteArray := prog_9_method_39_code
def yX7_most : MethodName := ⟨RX7, "most", "(I)I"⟩
abbrev cX7_lays : ByteArray := prog_9_method_40_code
def yX7_lays : MethodName := ⟨RX7, "lays", "(I)I"⟩
abbrev cX7_paceAfter : ByteArray := prog_9_method_41_code
def yX7_paceAfter : MethodName := ⟨RX7, "paceAfter", "(I)I"⟩
abbrev cX7_without : ByteArray := prog_9_method_42_code
def yX7_without : MethodName := ⟨RX7, "without", "(II)I"⟩
abbrev cX7_rested : ByteArray := prog_9_method_43_code
def yX7_rested : MethodName := ⟨RX7, "rested", "(I)I"⟩
abbrev cX7_when : ByteArray := prog_9_method_44_code
def yX7_when : MethodName := ⟨RX7, "when", "(I)I"⟩
abbrev cX7_floor : ByteArray := prog_9_method_45_code
def yX7_floor : MethodName := ⟨RX7, "floor", "(III)I"⟩
abbrev cX7_scale : ByteArray := prog_9_method_46_code
def yX7_scale : MethodName := ⟨RX7, "scale", "(II)I"⟩
abbrev cX7_slant : ByteArray := prog_9_method_47_code
def yX7_slant : MethodName := ⟨RX7, "slant", "(II)I"⟩
abbrev cX7_judge : ByteArray := prog_9_method_48_code
def yX7_judge : MethodName := ⟨RX7, "judge", "(II)I"⟩
abbrev cX7_carry : ByteArray := prog_9_method_49_code
def yX7_carry : MethodName := ⟨RX7, "carry", "(I)I"⟩
abbrev cX7_carryAll : ByteArray := prog_9_method_50_code
def yX7_carryAll : MethodName := ⟨RX7, "carryAll", "()V"⟩
abbrev cX7_image : ByteArray := prog_9_method_51_code
def yX7_image : MethodName := ⟨RX7, "image", "()I"⟩
abbrev cX7_restore : ByteArray := prog_9_method_52_code
def yX7_restore : MethodName := ⟨RX7, "restore", "()I"⟩
abbrev cX7_count : ByteArray := prog_9_method_53_code
def yX7_count : MethodName := ⟨RX7, "count", "(I)I"⟩
abbrev cX7_keep : ByteArray := prog_9_method_54_code
def yX7_keep : MethodName := ⟨RX7, "keep", "(IIII)I"⟩
abbrev cX7_wrongRow : ByteArray := prog_9_method_55_code
def yX7_wrongRow : MethodName := ⟨RX7, "wrongRow", "(I)I"⟩
abbrev cX7_narrowed : ByteArray := prog_9_method_56_code
def yX7_narrowed : MethodName := ⟨RX7, "narrowed", "(II)J"⟩
abbrev cX7_row : ByteArray := prog_9_method_57_code
def yX7_row : MethodName := ⟨RX7, "row", "(III)I"⟩
abbrev cX7_put : ByteArray := prog_9_method_58_code
def yX7_put : MethodName := ⟨RX7, "put", "(III)I"⟩
abbrev cX7_element : ByteArray := prog_9_method_59_code
def yX7_element : MethodName := ⟨RX7, "element", "(II)J"⟩
abbrev cX7_copy : ByteArray := prog_9_method_60_code
def yX7_copy : MethodName := ⟨RX7, "copy", "(IIIII)I"⟩
abbrev cX7_waitOf : ByteArray := prog_9_method_61_code
def yX7_waitOf : MethodName := ⟨RX7, "waitOf", "(I)I"⟩
abbrev cX7_waits : ByteArray := prog_9_method_62_code
def yX7_waits : MethodName := ⟨RX7, "waits", "(I)I"⟩
abbrev cX7_toss : ByteArray := prog_9_method_63_code
def yX7_toss : MethodName := ⟨RX7, "toss", "(I)I"⟩
def RJ9 : String := "java/lang/Math"
def TJ9 : u_T := fun k => match k with
  | _ => ("", "", "", false)
def tyJ9 : Nat → FieldType := fun k => match k with
  | _ => .int
abbrev wsJ90 : List Cond := u_ws RJ9 TJ9 0
theorem nmJ9 : ∀ a, a < 0 → ∀ b, b < 0 → a ≠ b → (TJ9 a).2.1 ≠ (TJ9 b).2.1 := by decide +kernel
theorem tyJ9_ok : ∀ k, k < 0 → parseFieldDescriptor (TJ9 k).2.2.1 = some (tyJ9 k) := by decide +kernel
abbrev cJ9_abs_0f7a4 : ByteArray := prog_13_method_59_code
def yJ9_abs_0f7a4 : MethodName := ⟨RJ9, "abs", "(I)I"⟩
abbrev cJ9_abs_067f4 : ByteArray := prog_13_method_61_code
def yJ9_abs_067f4 : MethodName := ⟨RJ9, "abs", "(J)J"⟩
abbrev cJ9_max_7cf53 : ByteArray := prog_13_method_65_code
def yJ9_max_7cf53 : MethodName := ⟨RJ9, "max", "(II)I"⟩
abbrev cJ9_min_7cf53 : ByteArray := prog_13_method_69_code
def yJ9_min_7cf53 : MethodName := ⟨RJ9, "min", "(II)I"⟩
def RJ0 : String := "java/lang/String"
def TJ0 : u_T := fun k => match k with
  | _ => ("", "", "", false)
def tyJ0 : Nat → FieldType := fun k => match k with
  | _ => .int
abbrev wsJ00 : List Cond := u_ws RJ0 TJ0 0
theorem nmJ0 : ∀ a, a < 0 → ∀ b, b < 0 → a ≠ b → (TJ0 a).2.1 ≠ (TJ0 b).2.1 := by decide +kernel
theorem tyJ0_ok : ∀ k, k < 0 → parseFieldDescriptor (TJ0 k).2.2.1 = some (tyJ0 k) := by decide +kernel
def RJ10 : String := "java/lang/System"
def TJ10 : u_T := fun k => match k with
  | _ => ("", "", "", false)
def tyJ10 : Nat → FieldType := fun k => match k with
  | _ => .int
abbrev wsJ100 : List Cond := u_ws RJ10 TJ10 0
theorem nmJ10 : ∀ a, a < 0 → ∀ b, b < 0 → a ≠ b → (TJ10 a).2.1 ≠ (TJ10 b).2.1 := by decide +kernel
theorem tyJ10_ok : ∀ k, k < 0 → parseFieldDescriptor (TJ10 k).2.2.1 = some (tyJ10 k) := by decide +kernel
def RL : String := "ChainLeapLaw"
abbrev cL_element : ByteArray := method_3_code
def yL_element : MethodName := ⟨RL, "element", "(LChainLeap;II[J)I"⟩
abbrev cL_law : ByteArray := code
def yL_law : MethodName := ⟨RL, "law", "([I)Z"⟩
abbrev vwCl : List vw_C := [(RX0, TX0, 5), (RX1, TX1, 4), (RX2, TX2, 5), (RX3, TX3, 4), (RX4, TX4, 5), (RX5, TX5, 2), (RX6, TX6, 9), (RX7, TX7, 39)]
-- ===== the words that last =====
def gtbl : List Cond := lw_tbl.filter goodWord
theorem gt_of {w : Cond} (i : Nat) (h : lw_tbl[i]? = some w) (hg : goodWord w = true) : w ∈ gtbl := List.mem_filter.mpr ⟨List.mem_of_getElem? h, hg⟩
theorem gt_good {w : Cond} (h : w ∈ gtbl) : (w.onTables && w.keeps) = true ∨ ∃ ty, w = .arrayClass ty := good_of_word (List.mem_filter.mp h).2
theorem gt_in {w : Cond} (h : w ∈ gtbl) : w ∈ lw_tbl := (List.mem_filter.mp h).1
theorem gt_ws (ws : List Cond) (ps : List Nat) (hp : ws = ps.filterMap (fun i => lw_tbl[i]?)) (hg : ws.all goodWord = true) : ∀ w ∈ ws, w ∈ gtbl := by
  intro w hw
  have h1 := List.all_eq_true.mp hg w hw
  rw [hp] at hw
  obtain ⟨i, -, hi⟩ := List.mem_filterMap.mp hw
  exact gt_of i hi h1
theorem gt_GoodIn {y : MethodName} {b : ByteArray} {n : Nat} {r : Option FieldType} (h : Cond.code y b n r ∈ gtbl) : GoodIn gtbl (Cond.code y b n r :: gtbl) := by
  intro w hw
  rcases List.mem_cons.mp hw with rfl | hw
  · exact ⟨h, gt_good h⟩
  · exact ⟨hw, gt_good hw⟩
set_option maxRecDepth 20000 in
theorem inX0 : ∀ w ∈ u_ws RX0 TX0 5, w ∈ gtbl := gt_ws _ [125, 127, 129, 131, 133] (by decide +kernel) (by decide +kernel)
set_option maxRecDepth 20000 in
theorem inX1 : ∀ w ∈ u_ws RX1 TX1 4, w ∈ gtbl := gt_ws _ [213, 215, 217, 219] (by decide +kernel) (by decide +kernel)
set_option maxRecDepth 20000 in
theorem inX2 : ∀ w ∈ u_ws RX2 TX2 5, w ∈ gtbl := gt_ws _ [146, 148, 150, 152, 154] (by decide +kernel) (by decide +kernel)
set_option maxRecDepth 20000 in
theorem inX3 : ∀ w ∈ u_ws RX3 TX3 4, w ∈ gtbl := gt_ws _ [98, 100, 102, 104] (by decide +kernel) (by decide +kernel)
set_option maxRecDepth 20000 in
theorem inX4 : ∀ w ∈ u_ws RX4 TX4 5, w ∈ gtbl := gt_ws _ [189, 191, 193, 195, 197] (by decide +kernel) (by decide +kernel)
set_option maxRecDepth 20000 in
theorem inX5 : ∀ w ∈ u_ws RX5 TX5 2, w ∈ gtbl := gt_ws _ [173, 175] (by decide +kernel) (by decide +kernel)
set_option maxRecDepth 20000 in
theorem inX6 : ∀ w ∈ u_ws RX6 TX6 9, w ∈ gtbl := gt_ws _ [237, 239, 241, 243, 245, 247, 249, 251, 253] (by decide +kernel) (by decide +kernel)
set_option maxRecDepth 20000 in
theorem inX7 : ∀ w ∈ u_ws RX7 TX7 39, w ∈ gtbl := gt_ws _ [797, 799, 801, 803, 805, 807, 809, 811, 813, 815, 817, 819, 821, 823, 825, 827, 829, 831, 833, 835, 837, 839, 841, 843, 845, 847, 849, 851, 853, 855, 857, 859, 861, 863, 865, 867, 869, 871, 873] (by decide +kernel) (by decide +kernel)
