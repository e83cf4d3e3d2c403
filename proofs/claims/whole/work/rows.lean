section
-- ===== PART A: goes FIRST, ahead of the names: the tables' words, and 'selects' of the private methods out of them =====
/-- a private method of a class that the tables say can be made, by its rows of tables_1 -/
def lw_okq (q : MethodName × Nat) : Prop := (q.1.cls ≠ "java/lang/invoke/MethodHandle" ∧ q.1.cls ≠ "java/lang/invoke/VarHandle") ∧ Cond.instantiable q.1.cls q.2 ∈ tables_1 ∧ Cond.privateMethod q.1 ∈ tables_1 ∧ Cond.instanceMethod q.1 ∈ tables_1
theorem lw_p0 : lw_okq (⟨"EightMinutes", "refuse", "(I)I"⟩, 11) := ⟨⟨by decide +kernel, by decide +kernel⟩, List.mem_of_getElem? (i := 17) (by decide +kernel), List.mem_of_getElem? (i := 181) (by decide +kernel), List.mem_of_getElem? (i := 182) (by decide +kernel)⟩
theorem lw_p1 : lw_okq (⟨"EightMinutes$Script", "carryOutOne", "(LEightMinutes$Told;I)Z"⟩, 2) := ⟨⟨by decide +kernel, by decide +kernel⟩, List.mem_of_getElem? (i := 69) (by decide +kernel), List.mem_of_getElem? (i := 340) (by decide +kernel), List.mem_of_getElem? (i := 341) (by decide +kernel)⟩
theorem lw_p2 : lw_okq (⟨"EightMinutes$Script", "kindAt", "(I)I"⟩, 2) := ⟨⟨by decide +kernel, by decide +kernel⟩, List.mem_of_getElem? (i := 69) (by decide +kernel), List.mem_of_getElem? (i := 344) (by decide +kernel), List.mem_of_getElem? (i := 345) (by decide +kernel)⟩
theorem lw_p3 : lw_okq (⟨"EightMinutes$Script", "digitAt", "(I)I"⟩, 2) := ⟨⟨by decide +kernel, by decide +kernel⟩, List.mem_of_getElem? (i := 69) (by decide +kernel), List.mem_of_getElem? (i := 348) (by decide +kernel), List.mem_of_getElem? (i := 349) (by decide +kernel)⟩
theorem lw_p4 : lw_okq (⟨"EightMinutes$Script", "setLiking", "(LEightMinutes$Told;I)Z"⟩, 2) := ⟨⟨by decide +kernel, by decide +kernel⟩, List.mem_of_getElem? (i := 69) (by decide +kernel), List.mem_of_getElem? (i := 360) (by decide +kernel), List.mem_of_getElem? (i := 361) (by decide +kernel)⟩
theorem lw_p5 : lw_okq (⟨"EightMinutes$Script", "setOrder", "(LEightMinutes$Told;I)Z"⟩, 2) := ⟨⟨by decide +kernel, by decide +kernel⟩, List.mem_of_getElem? (i := 69) (by decide +kernel), List.mem_of_getElem? (i := 376) (by decide +kernel), List.mem_of_getElem? (i := 377) (by decide +kernel)⟩
theorem lw_p6 : lw_okq (⟨"EightMinutes$Script", "setLaw", "(LEightMinutes$Told;I)Z"⟩, 2) := ⟨⟨by decide +kernel, by decide +kernel⟩, List.mem_of_getElem? (i := 69) (by decide +kernel), List.mem_of_getElem? (i := 380) (by decide +kernel), List.mem_of_getElem? (i := 381) (by decide +kernel)⟩
theorem lw_p7 : lw_okq (⟨"EightMinutes$Rounds", "partner", "(LEightMinutes$Told;II)I"⟩, 5) := ⟨⟨by decide +kernel, by decide +kernel⟩, List.mem_of_getElem? (i := 83) (by decide +kernel), List.mem_of_getElem? (i := 407) (by decide +kernel), List.mem_of_getElem? (i := 408) (by decide +kernel)⟩
theorem lw_p8 : lw_okq (⟨"EightMinutes$Rounds", "feelAndSay", "(LEightMinutes$Told;II)V"⟩, 5) := ⟨⟨by decide +kernel, by decide +kernel⟩, List.mem_of_getElem? (i := 83) (by decide +kernel), List.mem_of_getElem? (i := 418) (by decide +kernel), List.mem_of_getElem? (i := 419) (by decide +kernel)⟩
theorem lw_p9 : lw_okq (⟨"EightMinutes$Rounds", "feeling", "(LEightMinutes$Told;III)I"⟩, 5) := ⟨⟨by decide +kernel, by decide +kernel⟩, List.mem_of_getElem? (i := 83) (by decide +kernel), List.mem_of_getElem? (i := 422) (by decide +kernel), List.mem_of_getElem? (i := 423) (by decide +kernel)⟩
theorem lw_p10 : lw_okq (⟨"EightMinutes$Rounds", "isInShade", "(LEightMinutes$Told;III)Z"⟩, 5) := ⟨⟨by decide +kernel, by decide +kernel⟩, List.mem_of_getElem? (i := 83) (by decide +kernel), List.mem_of_getElem? (i := 430) (by decide +kernel), List.mem_of_getElem? (i := 431) (by decide +kernel)⟩
theorem lw_p11 : lw_okq (⟨"EightMinutes$Rounds", "wasAlone", "(II)Z"⟩, 5) := ⟨⟨by decide +kernel, by decide +kernel⟩, List.mem_of_getElem? (i := 83) (by decide +kernel), List.mem_of_getElem? (i := 434) (by decide +kernel), List.mem_of_getElem? (i := 435) (by decide +kernel)⟩
theorem lw_p12 : lw_okq (⟨"EightMinutes$Pairing", "firstWhoWillAsk", "()I"⟩, 4) := ⟨⟨by decide +kernel, by decide +kernel⟩, List.mem_of_getElem? (i := 112) (by decide +kernel), List.mem_of_getElem? (i := 509) (by decide +kernel), List.mem_of_getElem? (i := 510) (by decide +kernel)⟩
theorem lw_p13 : lw_okq (⟨"EightMinutes$Pairing", "ask", "(LEightMinutes$Told;I)V"⟩, 4) := ⟨⟨by decide +kernel, by decide +kernel⟩, List.mem_of_getElem? (i := 112) (by decide +kernel), List.mem_of_getElem? (i := 513) (by decide +kernel), List.mem_of_getElem? (i := 514) (by decide +kernel)⟩
theorem lw_p14 : lw_okq (⟨"EightMinutes$Pairing", "validYeses", "(LEightMinutes$Told;III)I"⟩, 4) := ⟨⟨by decide +kernel, by decide +kernel⟩, List.mem_of_getElem? (i := 112) (by decide +kernel), List.mem_of_getElem? (i := 526) (by decide +kernel), List.mem_of_getElem? (i := 527) (by decide +kernel)⟩
theorem lw_p15 : lw_okq (⟨"EightMinutes", "gotWhenAsking", "(II)I"⟩, 11) := ⟨⟨by decide +kernel, by decide +kernel⟩, List.mem_of_getElem? (i := 17) (by decide +kernel), List.mem_of_getElem? (i := 567) (by decide +kernel), List.mem_of_getElem? (i := 568) (by decide +kernel)⟩
def lw_privs_1 : List (MethodName × Nat) := [(⟨"EightMinutes", "refuse", "(I)I"⟩, 11), (⟨"EightMinutes$Script", "carryOutOne", "(LEightMinutes$Told;I)Z"⟩, 2), (⟨"EightMinutes$Script", "kindAt", "(I)I"⟩, 2), (⟨"EightMinutes$Script", "digitAt", "(I)I"⟩, 2), (⟨"EightMinutes$Script", "setLiking", "(LEightMinutes$Told;I)Z"⟩, 2), (⟨"EightMinutes$Script", "setOrder", "(LEightMinutes$Told;I)Z"⟩, 2), (⟨"EightMinutes$Script", "setLaw", "(LEightMinutes$Told;I)Z"⟩, 2), (⟨"EightMinutes$Rounds", "partner", "(LEightMinutes$Told;II)I"⟩, 5), (⟨"EightMinutes$Rounds", "feelAndSay", "(LEightMinutes$Told;II)V"⟩, 5), (⟨"EightMinutes$Rounds", "feeling", "(LEightMinutes$Told;III)I"⟩, 5), (⟨"EightMinutes$Rounds", "isInShade", "(LEightMinutes$Told;III)Z"⟩, 5), (⟨"EightMinutes$Rounds", "wasAlone", "(II)Z"⟩, 5), (⟨"EightMinutes$Pairing", "firstWhoWillAsk", "()I"⟩, 4), (⟨"EightMinutes$Pairing", "ask", "(LEightMinutes$Told;I)V"⟩, 4), (⟨"EightMinutes$Pairing", "validYeses", "(LEightMinutes$Told;III)I"⟩, 4), (⟨"EightMinutes", "gotWhenAsking", "(II)I"⟩, 11)]
theorem lw_r1 : ∀ q ∈ lw_privs_1, lw_okq q := List.forall_mem_cons.mpr ⟨lw_p0, List.forall_mem_cons.mpr ⟨lw_p1, List.forall_mem_cons.mpr ⟨lw_p2, List.forall_mem_cons.mpr ⟨lw_p3, List.forall_mem_cons.mpr ⟨lw_p4, List.forall_mem_cons.mpr ⟨lw_p5, List.forall_mem_cons.mpr ⟨lw_p6, List.forall_mem_cons.mpr ⟨lw_p7, List.forall_mem_cons.mpr ⟨lw_p8, List.forall_mem_cons.mpr ⟨lw_p9, List.forall_mem_cons.mpr ⟨lw_p10, List.forall_mem_cons.mpr ⟨lw_p11, List.forall_mem_cons.mpr ⟨lw_p12, List.forall_mem_cons.mpr ⟨lw_p13, List.forall_mem_cons.mpr ⟨lw_p14, List.forall_mem_cons.mpr ⟨lw_p15, fun _ h => absurd h List.not_mem_nil⟩⟩⟩⟩⟩⟩⟩⟩⟩⟩⟩⟩⟩⟩⟩⟩
theorem lw_p16 : lw_okq (⟨"EightMinutes$Holding", "giveByCode", "(LEightMinutes$Told;II)Z"⟩, 1) := ⟨⟨by decide +kernel, by decide +kernel⟩, List.mem_of_getElem? (i := 133) (by decide +kernel), List.mem_of_getElem? (i := 584) (by decide +kernel), List.mem_of_getElem? (i := 585) (by decide +kernel)⟩
theorem lw_p17 : lw_okq (⟨"EightMinutes$Holding", "wouldRather", "(LEightMinutes$Told;II)Z"⟩, 1) := ⟨⟨by decide +kernel, by decide +kernel⟩, List.mem_of_getElem? (i := 133) (by decide +kernel), List.mem_of_getElem? (i := 601) (by decide +kernel), List.mem_of_getElem? (i := 602) (by decide +kernel)⟩
theorem lw_p18 : lw_okq (⟨"EightMinutes", "holdAsTheRowTells", "()Z"⟩, 11) := ⟨⟨by decide +kernel, by decide +kernel⟩, List.mem_of_getElem? (i := 17) (by decide +kernel), List.mem_of_getElem? (i := 614) (by decide +kernel), List.mem_of_getElem? (i := 615) (by decide +kernel)⟩
theorem lw_p19 : lw_okq (⟨"EightMinutesModel", "no", "(I)I"⟩, 35) := ⟨⟨by decide +kernel, by decide +kernel⟩, List.mem_of_getElem? (i := 671) (by decide +kernel), List.mem_of_getElem? (i := 787) (by decide +kernel), List.mem_of_getElem? (i := 788) (by decide +kernel)⟩
theorem lw_p20 : lw_okq (⟨"EightMinutesModel", "isText", "()Z"⟩, 35) := ⟨⟨by decide +kernel, by decide +kernel⟩, List.mem_of_getElem? (i := 671) (by decide +kernel), List.mem_of_getElem? (i := 795) (by decide +kernel), List.mem_of_getElem? (i := 796) (by decide +kernel)⟩
theorem lw_p21 : lw_okq (⟨"EightMinutesModel", "takesStatement", "()Z"⟩, 35) := ⟨⟨by decide +kernel, by decide +kernel⟩, List.mem_of_getElem? (i := 671) (by decide +kernel), List.mem_of_getElem? (i := 799) (by decide +kernel), List.mem_of_getElem? (i := 800) (by decide +kernel)⟩
theorem lw_p22 : lw_okq (⟨"EightMinutesModel", "next", "()I"⟩, 35) := ⟨⟨by decide +kernel, by decide +kernel⟩, List.mem_of_getElem? (i := 671) (by decide +kernel), List.mem_of_getElem? (i := 803) (by decide +kernel), List.mem_of_getElem? (i := 804) (by decide +kernel)⟩
theorem lw_p23 : lw_okq (⟨"EightMinutesModel", "takesRest", "(I)Z"⟩, 35) := ⟨⟨by decide +kernel, by decide +kernel⟩, List.mem_of_getElem? (i := 671) (by decide +kernel), List.mem_of_getElem? (i := 807) (by decide +kernel), List.mem_of_getElem? (i := 808) (by decide +kernel)⟩
theorem lw_p24 : lw_okq (⟨"EightMinutesModel", "takesKind", "()Z"⟩, 35) := ⟨⟨by decide +kernel, by decide +kernel⟩, List.mem_of_getElem? (i := 671) (by decide +kernel), List.mem_of_getElem? (i := 811) (by decide +kernel), List.mem_of_getElem? (i := 812) (by decide +kernel)⟩
theorem lw_p25 : lw_okq (⟨"EightMinutesModel", "kindOf", "(I)I"⟩, 35) := ⟨⟨by decide +kernel, by decide +kernel⟩, List.mem_of_getElem? (i := 671) (by decide +kernel), List.mem_of_getElem? (i := 815) (by decide +kernel), List.mem_of_getElem? (i := 816) (by decide +kernel)⟩
theorem lw_p26 : lw_okq (⟨"EightMinutesModel", "takesOne", "()Z"⟩, 35) := ⟨⟨by decide +kernel, by decide +kernel⟩, List.mem_of_getElem? (i := 671) (by decide +kernel), List.mem_of_getElem? (i := 819) (by decide +kernel), List.mem_of_getElem? (i := 820) (by decide +kernel)⟩
theorem lw_p27 : lw_okq (⟨"EightMinutesModel", "digit", "()I"⟩, 35) := ⟨⟨by decide +kernel, by decide +kernel⟩, List.mem_of_getElem? (i := 671) (by decide +kernel), List.mem_of_getElem? (i := 823) (by decide +kernel), List.mem_of_getElem? (i := 824) (by decide +kernel)⟩
theorem lw_p28 : lw_okq (⟨"EightMinutesModel", "in", "(III)Z"⟩, 35) := ⟨⟨by decide +kernel, by decide +kernel⟩, List.mem_of_getElem? (i := 671) (by decide +kernel), List.mem_of_getElem? (i := 827) (by decide +kernel), List.mem_of_getElem? (i := 828) (by decide +kernel)⟩
theorem lw_p29 : lw_okq (⟨"EightMinutesModel", "takesThree", "()Z"⟩, 35) := ⟨⟨by decide +kernel, by decide +kernel⟩, List.mem_of_getElem? (i := 671) (by decide +kernel), List.mem_of_getElem? (i := 831) (by decide +kernel), List.mem_of_getElem? (i := 832) (by decide +kernel)⟩
theorem lw_p30 : lw_okq (⟨"EightMinutesModel", "takesTwo", "()Z"⟩, 35) := ⟨⟨by decide +kernel, by decide +kernel⟩, List.mem_of_getElem? (i := 671) (by decide +kernel), List.mem_of_getElem? (i := 835) (by decide +kernel), List.mem_of_getElem? (i := 836) (by decide +kernel)⟩
theorem lw_p31 : lw_okq (⟨"EightMinutesModel", "takes", "(I)Z"⟩, 35) := ⟨⟨by decide +kernel, by decide +kernel⟩, List.mem_of_getElem? (i := 671) (by decide +kernel), List.mem_of_getElem? (i := 839) (by decide +kernel), List.mem_of_getElem? (i := 840) (by decide +kernel)⟩
def lw_privs_2 : List (MethodName × Nat) := [(⟨"EightMinutes$Holding", "giveByCode", "(LEightMinutes$Told;II)Z"⟩, 1), (⟨"EightMinutes$Holding", "wouldRather", "(LEightMinutes$Told;II)Z"⟩, 1), (⟨"EightMinutes", "holdAsTheRowTells", "()Z"⟩, 11), (⟨"EightMinutesModel", "no", "(I)I"⟩, 35), (⟨"EightMinutesModel", "isText", "()Z"⟩, 35), (⟨"EightMinutesModel", "takesStatement", "()Z"⟩, 35), (⟨"EightMinutesModel", "next", "()I"⟩, 35), (⟨"EightMinutesModel", "takesRest", "(I)Z"⟩, 35), (⟨"EightMinutesModel", "takesKind", "()Z"⟩, 35), (⟨"EightMinutesModel", "kindOf", "(I)I"⟩, 35), (⟨"EightMinutesModel", "takesOne", "()Z"⟩, 35), (⟨"EightMinutesModel", "digit", "()I"⟩, 35), (⟨"EightMinutesModel", "in", "(III)Z"⟩, 35), (⟨"EightMinutesModel", "takesThree", "()Z"⟩, 35), (⟨"EightMinutesModel", "takesTwo", "()Z"⟩, 35), (⟨"EightMinutesModel", "takes", "(I)Z"⟩, 35)]
theorem lw_r2 : ∀ q ∈ lw_privs_2, lw_okq q := List.forall_mem_cons.mpr ⟨lw_p16, List.forall_mem_cons.mpr ⟨lw_p17, List.forall_mem_cons.mpr ⟨lw_p18, List.forall_mem_cons.mpr ⟨lw_p19, List.forall_mem_cons.mpr ⟨lw_p20, List.forall_mem_cons.mpr ⟨lw_p21, List.forall_mem_cons.mpr ⟨lw_p22, List.forall_mem_cons.mpr ⟨lw_p23, List.forall_mem_cons.mpr ⟨lw_p24, List.forall_mem_cons.mpr ⟨lw_p25, List.forall_mem_cons.mpr ⟨lw_p26, List.forall_mem_cons.mpr ⟨lw_p27, List.forall_mem_cons.mpr ⟨lw_p28, List.forall_mem_cons.mpr ⟨lw_p29, List.forall_mem_cons.mpr ⟨lw_p30, List.forall_mem_cons.mpr ⟨lw_p31, fun _ h => absurd h List.not_mem_nil⟩⟩⟩⟩⟩⟩⟩⟩⟩⟩⟩⟩⟩⟩⟩⟩
theorem lw_p32 : lw_okq (⟨"EightMinutesModel", "wrongPlace", "()I"⟩, 35) := ⟨⟨by decide +kernel, by decide +kernel⟩, List.mem_of_getElem? (i := 671) (by decide +kernel), List.mem_of_getElem? (i := 843) (by decide +kernel), List.mem_of_getElem? (i := 844) (by decide +kernel)⟩
theorem lw_p33 : lw_okq (⟨"EightMinutesModel", "isGood", "(III)Z"⟩, 35) := ⟨⟨by decide +kernel, by decide +kernel⟩, List.mem_of_getElem? (i := 671) (by decide +kernel), List.mem_of_getElem? (i := 847) (by decide +kernel), List.mem_of_getElem? (i := 848) (by decide +kernel)⟩
theorem lw_p34 : lw_okq (⟨"EightMinutesModel", "isOf", "(III)Z"⟩, 35) := ⟨⟨by decide +kernel, by decide +kernel⟩, List.mem_of_getElem? (i := 671) (by decide +kernel), List.mem_of_getElem? (i := 851) (by decide +kernel), List.mem_of_getElem? (i := 852) (by decide +kernel)⟩
theorem lw_p35 : lw_okq (⟨"EightMinutesModel", "comesAll", "()I"⟩, 35) := ⟨⟨by decide +kernel, by decide +kernel⟩, List.mem_of_getElem? (i := 671) (by decide +kernel), List.mem_of_getElem? (i := 855) (by decide +kernel), List.mem_of_getElem? (i := 856) (by decide +kernel)⟩
theorem lw_p36 : lw_okq (⟨"EightMinutesModel", "comes", "(I)V"⟩, 35) := ⟨⟨by decide +kernel, by decide +kernel⟩, List.mem_of_getElem? (i := 671) (by decide +kernel), List.mem_of_getElem? (i := 859) (by decide +kernel), List.mem_of_getElem? (i := 860) (by decide +kernel)⟩
theorem lw_p37 : lw_okq (⟨"EightMinutesModel", "newOne", "(I)V"⟩, 35) := ⟨⟨by decide +kernel, by decide +kernel⟩, List.mem_of_getElem? (i := 671) (by decide +kernel), List.mem_of_getElem? (i := 863) (by decide +kernel), List.mem_of_getElem? (i := 864) (by decide +kernel)⟩
theorem lw_p38 : lw_okq (⟨"EightMinutesModel", "otherOf", "(II)I"⟩, 35) := ⟨⟨by decide +kernel, by decide +kernel⟩, List.mem_of_getElem? (i := 671) (by decide +kernel), List.mem_of_getElem? (i := 867) (by decide +kernel), List.mem_of_getElem? (i := 868) (by decide +kernel)⟩
theorem lw_p39 : lw_okq (⟨"EightMinutesModel", "isPerson", "(I)Z"⟩, 35) := ⟨⟨by decide +kernel, by decide +kernel⟩, List.mem_of_getElem? (i := 671) (by decide +kernel), List.mem_of_getElem? (i := 875) (by decide +kernel), List.mem_of_getElem? (i := 876) (by decide +kernel)⟩
theorem lw_p40 : lw_okq (⟨"EightMinutesModel", "gapsOf", "(I)I"⟩, 35) := ⟨⟨by decide +kernel, by decide +kernel⟩, List.mem_of_getElem? (i := 671) (by decide +kernel), List.mem_of_getElem? (i := 879) (by decide +kernel), List.mem_of_getElem? (i := 880) (by decide +kernel)⟩
theorem lw_p41 : lw_okq (⟨"EightMinutesModel", "roundsNow", "()I"⟩, 35) := ⟨⟨by decide +kernel, by decide +kernel⟩, List.mem_of_getElem? (i := 671) (by decide +kernel), List.mem_of_getElem? (i := 883) (by decide +kernel), List.mem_of_getElem? (i := 884) (by decide +kernel)⟩
theorem lw_p42 : lw_okq (⟨"EightMinutesModel", "metBy", "(II)I"⟩, 35) := ⟨⟨by decide +kernel, by decide +kernel⟩, List.mem_of_getElem? (i := 671) (by decide +kernel), List.mem_of_getElem? (i := 887) (by decide +kernel), List.mem_of_getElem? (i := 888) (by decide +kernel)⟩
theorem lw_p43 : lw_okq (⟨"EightMinutesModel", "areTwo", "(II)Z"⟩, 35) := ⟨⟨by decide +kernel, by decide +kernel⟩, List.mem_of_getElem? (i := 671) (by decide +kernel), List.mem_of_getElem? (i := 895) (by decide +kernel), List.mem_of_getElem? (i := 896) (by decide +kernel)⟩
theorem lw_p44 : lw_okq (⟨"EightMinutesModel", "likingOf", "(II)I"⟩, 35) := ⟨⟨by decide +kernel, by decide +kernel⟩, List.mem_of_getElem? (i := 671) (by decide +kernel), List.mem_of_getElem? (i := 899) (by decide +kernel), List.mem_of_getElem? (i := 900) (by decide +kernel)⟩
theorem lw_p45 : lw_okq (⟨"EightMinutesModel", "isRound", "(I)Z"⟩, 35) := ⟨⟨by decide +kernel, by decide +kernel⟩, List.mem_of_getElem? (i := 671) (by decide +kernel), List.mem_of_getElem? (i := 919) (by decide +kernel), List.mem_of_getElem? (i := 920) (by decide +kernel)⟩
theorem lw_p46 : lw_okq (⟨"EightMinutesModel", "feels", "(III)I"⟩, 35) := ⟨⟨by decide +kernel, by decide +kernel⟩, List.mem_of_getElem? (i := 671) (by decide +kernel), List.mem_of_getElem? (i := 928) (by decide +kernel), List.mem_of_getElem? (i := 929) (by decide +kernel)⟩
theorem lw_p47 : lw_okq (⟨"EightMinutesModel", "tired", "(III)I"⟩, 35) := ⟨⟨by decide +kernel, by decide +kernel⟩, List.mem_of_getElem? (i := 671) (by decide +kernel), List.mem_of_getElem? (i := 932) (by decide +kernel), List.mem_of_getElem? (i := 933) (by decide +kernel)⟩
def lw_privs_3 : List (MethodName × Nat) := [(⟨"EightMinutesModel", "wrongPlace", "()I"⟩, 35), (⟨"EightMinutesModel", "isGood", "(III)Z"⟩, 35), (⟨"EightMinutesModel", "isOf", "(III)Z"⟩, 35), (⟨"EightMinutesModel", "comesAll", "()I"⟩, 35), (⟨"EightMinutesModel", "comes", "(I)V"⟩, 35), (⟨"EightMinutesModel", "newOne", "(I)V"⟩, 35), (⟨"EightMinutesModel", "otherOf", "(II)I"⟩, 35), (⟨"EightMinutesModel", "isPerson", "(I)Z"⟩, 35), (⟨"EightMinutesModel", "gapsOf", "(I)I"⟩, 35), (⟨"EightMinutesModel", "roundsNow", "()I"⟩, 35), (⟨"EightMinutesModel", "metBy", "(II)I"⟩, 35), (⟨"EightMinutesModel", "areTwo", "(II)Z"⟩, 35), (⟨"EightMinutesModel", "likingOf", "(II)I"⟩, 35), (⟨"EightMinutesModel", "isRound", "(I)Z"⟩, 35), (⟨"EightMinutesModel", "feels", "(III)I"⟩, 35), (⟨"EightMinutesModel", "tired", "(III)I"⟩, 35)]
theorem lw_r3 : ∀ q ∈ lw_privs_3, lw_okq q := List.forall_mem_cons.mpr ⟨lw_p32, List.forall_mem_cons.mpr ⟨lw_p33, List.forall_mem_cons.mpr ⟨lw_p34, List.forall_mem_cons.mpr ⟨lw_p35, List.forall_mem_cons.mpr ⟨lw_p36, List.forall_mem_cons.mpr ⟨lw_p37, List.forall_mem_cons.mpr ⟨lw_p38, List.forall_mem_cons.mpr ⟨lw_p39, List.forall_mem_cons.mpr ⟨lw_p40, List.forall_mem_cons.mpr ⟨lw_p41, List.forall_mem_cons.mpr ⟨lw_p42, List.forall_mem_cons.mpr ⟨lw_p43, List.forall_mem_cons.mpr ⟨lw_p44, List.forall_mem_cons.mpr ⟨lw_p45, List.forall_mem_cons.mpr ⟨lw_p46, List.forall_mem_cons.mpr ⟨lw_p47, fun _ h => absurd h List.not_mem_nil⟩⟩⟩⟩⟩⟩⟩⟩⟩⟩⟩⟩⟩⟩⟩⟩
theorem lw_p48 : lw_okq (⟨"EightMinutesModel", "behindOf", "(II)I"⟩, 35) := ⟨⟨by decide +kernel, by decide +kernel⟩, List.mem_of_getElem? (i := 671) (by decide +kernel), List.mem_of_getElem? (i := 936) (by decide +kernel), List.mem_of_getElem? (i := 937) (by decide +kernel)⟩
theorem lw_p49 : lw_okq (⟨"EightMinutesModel", "yesesOf", "(I)I"⟩, 35) := ⟨⟨by decide +kernel, by decide +kernel⟩, List.mem_of_getElem? (i := 671) (by decide +kernel), List.mem_of_getElem? (i := 944) (by decide +kernel), List.mem_of_getElem? (i := 945) (by decide +kernel)⟩
theorem lw_p50 : lw_okq (⟨"EightMinutesModel", "others", "(I)I"⟩, 35) := ⟨⟨by decide +kernel, by decide +kernel⟩, List.mem_of_getElem? (i := 671) (by decide +kernel), List.mem_of_getElem? (i := 948) (by decide +kernel), List.mem_of_getElem? (i := 949) (by decide +kernel)⟩
theorem lw_p51 : lw_okq (⟨"EightMinutesModel", "saysYes", "(II)Z"⟩, 35) := ⟨⟨by decide +kernel, by decide +kernel⟩, List.mem_of_getElem? (i := 671) (by decide +kernel), List.mem_of_getElem? (i := 952) (by decide +kernel), List.mem_of_getElem? (i := 953) (by decide +kernel)⟩
theorem lw_p52 : lw_okq (⟨"EightMinutesModel", "yesesTo", "(I)I"⟩, 35) := ⟨⟨by decide +kernel, by decide +kernel⟩, List.mem_of_getElem? (i := 671) (by decide +kernel), List.mem_of_getElem? (i := 956) (by decide +kernel), List.mem_of_getElem? (i := 957) (by decide +kernel)⟩
theorem lw_p53 : lw_okq (⟨"EightMinutesModel", "layRanks", "(I)V"⟩, 35) := ⟨⟨by decide +kernel, by decide +kernel⟩, List.mem_of_getElem? (i := 671) (by decide +kernel), List.mem_of_getElem? (i := 964) (by decide +kernel), List.mem_of_getElem? (i := 965) (by decide +kernel)⟩
theorem lw_p54 : lw_okq (⟨"EightMinutesModel", "nextAsker", "(III)I"⟩, 35) := ⟨⟨by decide +kernel, by decide +kernel⟩, List.mem_of_getElem? (i := 671) (by decide +kernel), List.mem_of_getElem? (i := 968) (by decide +kernel), List.mem_of_getElem? (i := 969) (by decide +kernel)⟩
theorem lw_p55 : lw_okq (⟨"EightMinutesModel", "dearest", "(II)I"⟩, 35) := ⟨⟨by decide +kernel, by decide +kernel⟩, List.mem_of_getElem? (i := 671) (by decide +kernel), List.mem_of_getElem? (i := 972) (by decide +kernel), List.mem_of_getElem? (i := 973) (by decide +kernel)⟩
theorem lw_p56 : lw_okq (⟨"EightMinutesModel", "has", "(II)Z"⟩, 35) := ⟨⟨by decide +kernel, by decide +kernel⟩, List.mem_of_getElem? (i := 671) (by decide +kernel), List.mem_of_getElem? (i := 976) (by decide +kernel), List.mem_of_getElem? (i := 977) (by decide +kernel)⟩
theorem lw_p57 : lw_okq (⟨"EightMinutesModel", "isRather", "(III)Z"⟩, 35) := ⟨⟨by decide +kernel, by decide +kernel⟩, List.mem_of_getElem? (i := 671) (by decide +kernel), List.mem_of_getElem? (i := 980) (by decide +kernel), List.mem_of_getElem? (i := 981) (by decide +kernel)⟩
theorem lw_p58 : lw_okq (⟨"EightMinutesModel", "layCounts", "(I)V"⟩, 35) := ⟨⟨by decide +kernel, by decide +kernel⟩, List.mem_of_getElem? (i := 671) (by decide +kernel), List.mem_of_getElem? (i := 992) (by decide +kernel), List.mem_of_getElem? (i := 993) (by decide +kernel)⟩
theorem lw_p59 : lw_okq (⟨"EightMinutesModel", "allPairs", "(I)I"⟩, 35) := ⟨⟨by decide +kernel, by decide +kernel⟩, List.mem_of_getElem? (i := 671) (by decide +kernel), List.mem_of_getElem? (i := 996) (by decide +kernel), List.mem_of_getElem? (i := 997) (by decide +kernel)⟩
theorem lw_p60 : lw_okq (⟨"EightMinutesModel", "pairsOf", "(I)I"⟩, 35) := ⟨⟨by decide +kernel, by decide +kernel⟩, List.mem_of_getElem? (i := 671) (by decide +kernel), List.mem_of_getElem? (i := 1000) (by decide +kernel), List.mem_of_getElem? (i := 1001) (by decide +kernel)⟩
theorem lw_p61 : lw_okq (⟨"EightMinutesModel", "shadedNow", "()I"⟩, 35) := ⟨⟨by decide +kernel, by decide +kernel⟩, List.mem_of_getElem? (i := 671) (by decide +kernel), List.mem_of_getElem? (i := 1012) (by decide +kernel), List.mem_of_getElem? (i := 1013) (by decide +kernel)⟩
theorem lw_p62 : lw_okq (⟨"EightMinutesModel", "meetAll", "()Z"⟩, 35) := ⟨⟨by decide +kernel, by decide +kernel⟩, List.mem_of_getElem? (i := 671) (by decide +kernel), List.mem_of_getElem? (i := 1020) (by decide +kernel), List.mem_of_getElem? (i := 1021) (by decide +kernel)⟩
theorem lw_p63 : lw_okq (⟨"EightMinutesModel", "layWay", "(I)Z"⟩, 35) := ⟨⟨by decide +kernel, by decide +kernel⟩, List.mem_of_getElem? (i := 671) (by decide +kernel), List.mem_of_getElem? (i := 1028) (by decide +kernel), List.mem_of_getElem? (i := 1029) (by decide +kernel)⟩
def lw_privs_4 : List (MethodName × Nat) := [(⟨"EightMinutesModel", "behindOf", "(II)I"⟩, 35), (⟨"EightMinutesModel", "yesesOf", "(I)I"⟩, 35), (⟨"EightMinutesModel", "others", "(I)I"⟩, 35), (⟨"EightMinutesModel", "saysYes", "(II)Z"⟩, 35), (⟨"EightMinutesModel", "yesesTo", "(I)I"⟩, 35), (⟨"EightMinutesModel", "layRanks", "(I)V"⟩, 35), (⟨"EightMinutesModel", "nextAsker", "(III)I"⟩, 35), (⟨"EightMinutesModel", "dearest", "(II)I"⟩, 35), (⟨"EightMinutesModel", "has", "(II)Z"⟩, 35), (⟨"EightMinutesModel", "isRather", "(III)Z"⟩, 35), (⟨"EightMinutesModel", "layCounts", "(I)V"⟩, 35), (⟨"EightMinutesModel", "allPairs", "(I)I"⟩, 35), (⟨"EightMinutesModel", "pairsOf", "(I)I"⟩, 35), (⟨"EightMinutesModel", "shadedNow", "()I"⟩, 35), (⟨"EightMinutesModel", "meetAll", "()Z"⟩, 35), (⟨"EightMinutesModel", "layWay", "(I)Z"⟩, 35)]
theorem lw_r4 : ∀ q ∈ lw_privs_4, lw_okq q := List.forall_mem_cons.mpr ⟨lw_p48, List.forall_mem_cons.mpr ⟨lw_p49, List.forall_mem_cons.mpr ⟨lw_p50, List.forall_mem_cons.mpr ⟨lw_p51, List.forall_mem_cons.mpr ⟨lw_p52, List.forall_mem_cons.mpr ⟨lw_p53, List.forall_mem_cons.mpr ⟨lw_p54, List.forall_mem_cons.mpr ⟨lw_p55, List.forall_mem_cons.mpr ⟨lw_p56, List.forall_mem_cons.mpr ⟨lw_p57, List.forall_mem_cons.mpr ⟨lw_p58, List.forall_mem_cons.mpr ⟨lw_p59, List.forall_mem_cons.mpr ⟨lw_p60, List.forall_mem_cons.mpr ⟨lw_p61, List.forall_mem_cons.mpr ⟨lw_p62, List.forall_mem_cons.mpr ⟨lw_p63, fun _ h => absurd h List.not_mem_nil⟩⟩⟩⟩⟩⟩⟩⟩⟩⟩⟩⟩⟩⟩⟩⟩
theorem lw_p64 : lw_okq (⟨"EightMinutesModel", "firstRather", "()I"⟩, 35) := ⟨⟨by decide +kernel, by decide +kernel⟩, List.mem_of_getElem? (i := 671) (by decide +kernel), List.mem_of_getElem? (i := 1032) (by decide +kernel), List.mem_of_getElem? (i := 1033) (by decide +kernel)⟩
theorem lw_p65 : lw_okq (⟨"EightMinutesModel", "wouldRather", "(II)Z"⟩, 35) := ⟨⟨by decide +kernel, by decide +kernel⟩, List.mem_of_getElem? (i := 671) (by decide +kernel), List.mem_of_getElem? (i := 1036) (by decide +kernel), List.mem_of_getElem? (i := 1037) (by decide +kernel)⟩
theorem lw_p66 : lw_okq (⟨"EightMinutesModel", "isWay", "()Z"⟩, 35) := ⟨⟨by decide +kernel, by decide +kernel⟩, List.mem_of_getElem? (i := 671) (by decide +kernel), List.mem_of_getElem? (i := 1048) (by decide +kernel), List.mem_of_getElem? (i := 1049) (by decide +kernel)⟩
theorem lw_p67 : lw_okq (⟨"EightMinutesModel", "judged", "()I"⟩, 35) := ⟨⟨by decide +kernel, by decide +kernel⟩, List.mem_of_getElem? (i := 671) (by decide +kernel), List.mem_of_getElem? (i := 1060) (by decide +kernel), List.mem_of_getElem? (i := 1061) (by decide +kernel)⟩
theorem lw_p68 : lw_okq (⟨"EightMinutesModel", "nth", "(I)I"⟩, 35) := ⟨⟨by decide +kernel, by decide +kernel⟩, List.mem_of_getElem? (i := 671) (by decide +kernel), List.mem_of_getElem? (i := 1064) (by decide +kernel), List.mem_of_getElem? (i := 1065) (by decide +kernel)⟩
theorem lw_p69 : lw_okq (⟨"EightMinutesModel", "draw", "(I)I"⟩, 35) := ⟨⟨by decide +kernel, by decide +kernel⟩, List.mem_of_getElem? (i := 671) (by decide +kernel), List.mem_of_getElem? (i := 1076) (by decide +kernel), List.mem_of_getElem? (i := 1077) (by decide +kernel)⟩
theorem lw_p70 : lw_okq (⟨"EightMinutesModel", "allGaps", "()I"⟩, 35) := ⟨⟨by decide +kernel, by decide +kernel⟩, List.mem_of_getElem? (i := 671) (by decide +kernel), List.mem_of_getElem? (i := 1095) (by decide +kernel), List.mem_of_getElem? (i := 1096) (by decide +kernel)⟩
def lw_privs_5 : List (MethodName × Nat) := [(⟨"EightMinutesModel", "firstRather", "()I"⟩, 35), (⟨"EightMinutesModel", "wouldRather", "(II)Z"⟩, 35), (⟨"EightMinutesModel", "isWay", "()Z"⟩, 35), (⟨"EightMinutesModel", "judged", "()I"⟩, 35), (⟨"EightMinutesModel", "nth", "(I)I"⟩, 35), (⟨"EightMinutesModel", "draw", "(I)I"⟩, 35), (⟨"EightMinutesModel", "allGaps", "()I"⟩, 35)]
theorem lw_r5 : ∀ q ∈ lw_privs_5, lw_okq q := List.forall_mem_cons.mpr ⟨lw_p64, List.forall_mem_cons.mpr ⟨lw_p65, List.forall_mem_cons.mpr ⟨lw_p66, List.forall_mem_cons.mpr ⟨lw_p67, List.forall_mem_cons.mpr ⟨lw_p68, List.forall_mem_cons.mpr ⟨lw_p69, List.forall_mem_cons.mpr ⟨lw_p70, fun _ h => absurd h List.not_mem_nil⟩⟩⟩⟩⟩⟩⟩
def lw_privs : List (MethodName × Nat) := lw_privs_1 ++ (lw_privs_2 ++ (lw_privs_3 ++ (lw_privs_4 ++ (lw_privs_5))))
def lw_tbl : List Cond := k2_sels lw_privs ++ tables_1
theorem lw_privs_ok : ∀ q ∈ lw_privs, lw_okq q := by
  show ∀ q ∈ lw_privs_1 ++ (lw_privs_2 ++ (lw_privs_3 ++ (lw_privs_4 ++ (lw_privs_5)))), lw_okq q
  exact List.forall_mem_append.mpr ⟨lw_r1, List.forall_mem_append.mpr ⟨lw_r2, List.forall_mem_append.mpr ⟨lw_r3, List.forall_mem_append.mpr ⟨lw_r4, lw_r5⟩⟩⟩⟩
end
section
/-! names, field tables, code and method names: out of the printed NAMES -/
def RX0 : String := "EightMinutes$Holding"
def TX0 : u_T := fun k => match k with
  | _ => ("EightMinutes$Holding", "has", "[I", true)
def tyX0 : Nat → FieldType := fun k => match k with
  | _ => .array .int
theorem nmX0 : ∀ a, a < 1 → ∀ b, b < 1 → a ≠ b → (TX0 a).2.1 ≠ (TX0 b).2.1 := by decide +kernel
theorem tyX0_ok : ∀ k, k < 1 → parseFieldDescriptor (TX0 k).2.2.1 = some (tyX0 k) := by decide +kernel
abbrev cX0_init : ByteArray := prog_2_method_1_code
def yX0_init : MethodName := ⟨RX0, "<init>", "()V"⟩
abbrev cX0_letAllGo : ByteArray := prog_2_method_2_code
def yX0_letAllGo : MethodName := ⟨RX0, "letAllGo", "()V"⟩
abbrev cX0_give : ByteArray := prog_2_method_3_code
def yX0_give : MethodName := ⟨RX0, "give", "(II)Z"⟩
abbrev cX0_firmWays : ByteArray := prog_2_method_4_code
def yX0_firmWays : MethodName := ⟨RX0, "firmWays", "(LEightMinutes$Told;)I"⟩
abbrev cX0_giveByCode : ByteArray := prog_2_method_5_code
def yX0_giveByCode : MethodName := ⟨RX0, "giveByCode", "(LEightMinutes$Told;II)Z"⟩
abbrev cX0_firstWhoWouldRather : ByteArray := prog_2_method_6_code
def yX0_firstWhoWouldRather : MethodName := ⟨RX0, "firstWhoWouldRather", "(LEightMinutes$Told;)I"⟩
abbrev cX0_wouldRather : ByteArray := prog_2_method_7_code
def yX0_wouldRather : MethodName := ⟨RX0, "wouldRather", "(LEightMinutes$Told;II)Z"⟩
def RX1 : String := "EightMinutes$Pairing"
def TX1 : u_T := fun k => match k with
  | 0 => ("EightMinutes$Pairing", "pairBits", "[I", true)
  | 1 => ("EightMinutes$Pairing", "got", "[I", true)
  | 2 => ("EightMinutes$Pairing", "valid", "[I", true)
  | _ => ("EightMinutes$Pairing", "unasked", "[I", true)
def tyX1 : Nat → FieldType := fun k => match k with
  | 0 => .array .int
  | 1 => .array .int
  | 2 => .array .int
  | _ => .array .int
theorem nmX1 : ∀ a, a < 4 → ∀ b, b < 4 → a ≠ b → (TX1 a).2.1 ≠ (TX1 b).2.1 := by decide +kernel
theorem tyX1_ok : ∀ k, k < 4 → parseFieldDescriptor (TX1 k).2.2.1 = some (tyX1 k) := by decide +kernel
abbrev cX1_init : ByteArray := prog_3_method_1_code
def yX1_init : MethodName := ⟨RX1, "<init>", "()V"⟩
abbrev cX1_settle : ByteArray := prog_3_method_2_code
def yX1_settle : MethodName := ⟨RX1, "settle", "(LEightMinutes$Told;LEightMinutes$Rounds;I)V"⟩
abbrev cX1_validYeses : ByteArray := prog_3_method_3_code
def yX1_validYeses : MethodName := ⟨RX1, "validYeses", "(LEightMinutes$Told;III)I"⟩
abbrev cX1_howMany : ByteArray := prog_3_method_4_code
def yX1_howMany : MethodName := ⟨RX1, "howMany", "()I"⟩
abbrev cX1_gladness : ByteArray := prog_3_method_5_code
def yX1_gladness : MethodName := ⟨RX1, "gladness", "(LEightMinutes$Told;)I"⟩
abbrev cX1_likedMost : ByteArray := prog_3_method_6_code
def yX1_likedMost : MethodName := ⟨RX1, "likedMost", "(LEightMinutes$Told;III)I"⟩
abbrev cX1_favourite : ByteArray := prog_3_method_7_code
def yX1_favourite : MethodName := ⟨RX1, "favourite", "(LEightMinutes$Told;II)I"⟩
abbrev cX1_askInTurn : ByteArray := prog_3_method_8_code
def yX1_askInTurn : MethodName := ⟨RX1, "askInTurn", "(LEightMinutes$Told;I)V"⟩
abbrev cX1_firstWhoWillAsk : ByteArray := prog_3_method_9_code
def yX1_firstWhoWillAsk : MethodName := ⟨RX1, "firstWhoWillAsk", "()I"⟩
abbrev cX1_ask : ByteArray := prog_3_method_10_code
def yX1_ask : MethodName := ⟨RX1, "ask", "(LEightMinutes$Told;I)V"⟩
abbrev cX1_isLikedBefore : ByteArray := prog_3_method_11_code
def yX1_isLikedBefore : MethodName := ⟨RX1, "isLikedBefore", "(LEightMinutes$Told;III)Z"⟩
def RX2 : String := "EightMinutes$Rounds"
def TX2 : u_T := fun k => match k with
  | 0 => ("EightMinutes$Rounds", "partners", "[[I", true)
  | 1 => ("EightMinutes$Rounds", "feelings", "[[I", true)
  | 2 => ("EightMinutes$Rounds", "slips", "[I", true)
  | 3 => ("EightMinutes$Rounds", "shadedRounds", "I", false)
  | _ => ("EightMinutes$Rounds", "howMany", "I", false)
def tyX2 : Nat → FieldType := fun k => match k with
  | 0 => .array (.array .int)
  | 1 => .array (.array .int)
  | 2 => .array .int
  | 3 => .int
  | _ => .int
theorem nmX2 : ∀ a, a < 5 → ∀ b, b < 5 → a ≠ b → (TX2 a).2.1 ≠ (TX2 b).2.1 := by decide +kernel
theorem tyX2_ok : ∀ k, k < 5 → parseFieldDescriptor (TX2 k).2.2.1 = some (tyX2 k) := by decide +kernel
abbrev cX2_init : ByteArray := prog_4_method_1_code
def yX2_init : MethodName := ⟨RX2, "<init>", "()V"⟩
abbrev cX2_hold : ByteArray := prog_4_method_2_code
def yX2_hold : MethodName := ⟨RX2, "hold", "(LEightMinutes$Told;)V"⟩
abbrev cX2_partner : ByteArray := prog_4_method_3_code
def yX2_partner : MethodName := ⟨RX2, "partner", "(LEightMinutes$Told;II)I"⟩
abbrev cX2_feelAndSay : ByteArray := prog_4_method_4_code
def yX2_feelAndSay : MethodName := ⟨RX2, "feelAndSay", "(LEightMinutes$Told;II)V"⟩
abbrev cX2_feeling : ByteArray := prog_4_method_5_code
def yX2_feeling : MethodName := ⟨RX2, "feeling", "(LEightMinutes$Told;III)I"⟩
abbrev cX2_isInShade : ByteArray := prog_4_method_6_code
def yX2_isInShade : MethodName := ⟨RX2, "isInShade", "(LEightMinutes$Told;III)Z"⟩
abbrev cX2_wasAlone : ByteArray := prog_4_method_7_code
def yX2_wasAlone : MethodName := ⟨RX2, "wasAlone", "(II)Z"⟩
abbrev cX2_gaps : ByteArray := prog_4_method_8_code
def yX2_gaps : MethodName := ⟨RX2, "gaps", "(I)I"⟩
abbrev cX2_allGaps : ByteArray := prog_4_method_9_code
def yX2_allGaps : MethodName := ⟨RX2, "allGaps", "(LEightMinutes$Told;)I"⟩
abbrev cX2_saysYes : ByteArray := prog_4_method_10_code
def yX2_saysYes : MethodName := ⟨RX2, "saysYes", "(II)Z"⟩
abbrev cX2_slipsFor : ByteArray := prog_4_method_11_code
def yX2_slipsFor : MethodName := ⟨RX2, "slipsFor", "(I)I"⟩
abbrev cX2_letAllMeetAll : ByteArray := prog_4_method_12_code
def yX2_letAllMeetAll : MethodName := ⟨RX2, "letAllMeetAll", "(LEightMinutes$Told;)Z"⟩
def RX3 : String := "EightMinutes$Script"
def TX3 : u_T := fun k => match k with
  | 0 => ("EightMinutes$Script", "letters", "[I", true)
  | _ => ("EightMinutes$Script", "length", "I", false)
def tyX3 : Nat → FieldType := fun k => match k with
  | 0 => .array .int
  | _ => .int
theorem nmX3 : ∀ a, a < 2 → ∀ b, b < 2 → a ≠ b → (TX3 a).2.1 ≠ (TX3 b).2.1 := by decide +kernel
theorem tyX3_ok : ∀ k, k < 2 → parseFieldDescriptor (TX3 k).2.2.1 = some (tyX3 k) := by decide +kernel
abbrev cX3_init : ByteArray := prog_5_method_1_code
def yX3_init : MethodName := ⟨RX3, "<init>", "()V"⟩
abbrev cX3_isFull : ByteArray := prog_5_method_2_code
def yX3_isFull : MethodName := ⟨RX3, "isFull", "()Z"⟩
abbrev cX3_add : ByteArray := prog_5_method_3_code
def yX3_add : MethodName := ⟨RX3, "add", "(I)I"⟩
abbrev cX3_forget : ByteArray := prog_5_method_4_code
def yX3_forget : MethodName := ⟨RX3, "forget", "()V"⟩
abbrev cX3_firstBadLetter : ByteArray := prog_5_method_5_code
def yX3_firstBadLetter : MethodName := ⟨RX3, "firstBadLetter", "()I"⟩
abbrev cX3_formBehind : ByteArray := prog_5_method_6_code
def yX3_formBehind : MethodName := ⟨RX3, "formBehind", "(I)Ljava/lang/String;"⟩
abbrev cX3_fits : ByteArray := prog_5_method_7_code
def yX3_fits : MethodName := ⟨RX3, "fits", "(CI)Z"⟩
abbrev cX3_statements : ByteArray := prog_5_method_8_code
def yX3_statements : MethodName := ⟨RX3, "statements", "()I"⟩
abbrev cX3_carryOut : ByteArray := prog_5_method_9_code
def yX3_carryOut : MethodName := ⟨RX3, "carryOut", "(LEightMinutes$Told;)I"⟩
abbrev cX3_carryOutOne : ByteArray := prog_5_method_10_code
def yX3_carryOutOne : MethodName := ⟨RX3, "carryOutOne", "(LEightMinutes$Told;I)Z"⟩
abbrev cX3_setLiking : ByteArray := prog_5_method_11_code
def yX3_setLiking : MethodName := ⟨RX3, "setLiking", "(LEightMinutes$Told;I)Z"⟩
abbrev cX3_setOrder : ByteArray := prog_5_method_12_code
def yX3_setOrder : MethodName := ⟨RX3, "setOrder", "(LEightMinutes$Told;I)Z"⟩
abbrev cX3_setLaw : ByteArray := prog_5_method_13_code
def yX3_setLaw : MethodName := ⟨RX3, "setLaw", "(LEightMinutes$Told;I)Z"⟩
abbrev cX3_kindAt : ByteArray := prog_5_method_14_code
def yX3_kindAt : MethodName := ⟨RX3, "kindAt", "(I)I"⟩
abbrev cX3_digitAt : ByteArray := prog_5_method_15_code
def yX3_digitAt : MethodName := ⟨RX3, "digitAt", "(I)I"⟩
def RX4 : String := "EightMinutes$Told"
def TX4 : u_T := fun k => match k with
  | 0 => ("EightMinutes$Told", "people", "[I", true)
  | 1 => ("EightMinutes$Told", "kinds", "[I", true)
  | 2 => ("EightMinutes$Told", "bars", "[I", true)
  | 3 => ("EightMinutes$Told", "likings", "[I", true)
  | 4 => ("EightMinutes$Told", "step", "I", false)
  | 5 => ("EightMinutes$Told", "shift", "I", false)
  | _ => ("EightMinutes$Told", "law", "I", false)
def tyX4 : Nat → FieldType := fun k => match k with
  | 0 => .array .int
  | 1 => .array .int
  | 2 => .array .int
  | 3 => .array .int
  | 4 => .int
  | 5 => .int
  | _ => .int
theorem nmX4 : ∀ a, a < 7 → ∀ b, b < 7 → a ≠ b → (TX4 a).2.1 ≠ (TX4 b).2.1 := by decide +kernel
theorem tyX4_ok : ∀ k, k < 7 → parseFieldDescriptor (TX4 k).2.2.1 = some (tyX4 k) := by decide +kernel
abbrev cX4_init : ByteArray := prog_6_method_1_code
def yX4_init : MethodName := ⟨RX4, "<init>", "()V"⟩
abbrev cX4_become : ByteArray := prog_6_method_2_code
def yX4_become : MethodName := ⟨RX4, "become", "(LEightMinutes$Told;)V"⟩
abbrev cX4_isThere : ByteArray := prog_6_method_3_code
def yX4_isThere : MethodName := ⟨RX4, "isThere", "(I)Z"⟩
abbrev cX4_areUnlike : ByteArray := prog_6_method_4_code
def yX4_areUnlike : MethodName := ⟨RX4, "areUnlike", "(II)Z"⟩
abbrev cX4_howManyPeople : ByteArray := prog_6_method_5_code
def yX4_howManyPeople : MethodName := ⟨RX4, "howManyPeople", "()I"⟩
abbrev cX4_howManyFacing : ByteArray := prog_6_method_6_code
def yX4_howManyFacing : MethodName := ⟨RX4, "howManyFacing", "(I)I"⟩
abbrev cX4_rounds : ByteArray := prog_6_method_7_code
def yX4_rounds : MethodName := ⟨RX4, "rounds", "()I"⟩
abbrev cX4_isRound : ByteArray := prog_6_method_8_code
def yX4_isRound : MethodName := ⟨RX4, "isRound", "(I)Z"⟩
abbrev cX4_likes : ByteArray := prog_6_method_9_code
def yX4_likes : MethodName := ⟨RX4, "likes", "(II)I"⟩
abbrev cX4_setLiking : ByteArray := prog_6_method_10_code
def yX4_setLiking : MethodName := ⟨RX4, "setLiking", "(III)V"⟩
abbrev cX4_addPerson : ByteArray := prog_6_method_11_code
def yX4_addPerson : MethodName := ⟨RX4, "addPerson", "(III)Z"⟩
abbrev cX4_drawLikings : ByteArray := prog_6_method_12_code
def yX4_drawLikings : MethodName := ⟨RX4, "drawLikings", "(I)I"⟩
def RX5 : String := "EightMinutes"
def TX5 : u_T := fun k => match k with
  | 0 => ("EightMinutes", "told", "LEightMinutes$Told;", true)
  | 1 => ("EightMinutes", "mind", "LEightMinutes$Told;", true)
  | 2 => ("EightMinutes", "kept", "LEightMinutes$Told;", true)
  | 3 => ("EightMinutes", "isKept", "Z", false)
  | 4 => ("EightMinutes", "script", "LEightMinutes$Script;", true)
  | 5 => ("EightMinutes", "rounds", "LEightMinutes$Rounds;", true)
  | 6 => ("EightMinutes", "pairing", "LEightMinutes$Pairing;", true)
  | 7 => ("EightMinutes", "holding", "LEightMinutes$Holding;", true)
  | 8 => ("EightMinutes", "slipRow", "[I", true)
  | 9 => ("EightMinutes", "inRow", "I", false)
  | _ => ("EightMinutes", "refusals", "[I", true)
def tyX5 : Nat → FieldType := fun k => match k with
  | 0 => .object "EightMinutes$Told"
  | 1 => .object "EightMinutes$Told"
  | 2 => .object "EightMinutes$Told"
  | 3 => .boolean
  | 4 => .object "EightMinutes$Script"
  | 5 => .object "EightMinutes$Rounds"
  | 6 => .object "EightMinutes$Pairing"
  | 7 => .object "EightMinutes$Holding"
  | 8 => .array .int
  | 9 => .int
  | _ => .array .int
theorem nmX5 : ∀ a, a < 11 → ∀ b, b < 11 → a ≠ b → (TX5 a).2.1 ≠ (TX5 b).2.1 := by decide +kernel
theorem tyX5_ok : ∀ k, k < 11 → parseFieldDescriptor (TX5 k).2.2.1 = some (tyX5 k) := by decide +kernel
abbrev cX5_init : ByteArray := prog_1_method_1_code
def yX5_init : MethodName := ⟨RX5, "<init>", "()V"⟩
abbrev cX5_letter : ByteArray := prog_1_method_2_code
def yX5_letter : MethodName := ⟨RX5, "letter", "(I)I"⟩
abbrev cX5_evening : ByteArray := prog_1_method_3_code
def yX5_evening : MethodName := ⟨RX5, "evening", "()I"⟩
abbrev cX5_person : ByteArray := prog_1_method_4_code
def yX5_person : MethodName := ⟨RX5, "person", "(II)I"⟩
abbrev cX5_liking : ByteArray := prog_1_method_5_code
def yX5_liking : MethodName := ⟨RX5, "liking", "(II)I"⟩
abbrev cX5_like : ByteArray := prog_1_method_6_code
def yX5_like : MethodName := ⟨RX5, "like", "(III)I"⟩
abbrev cX5_order : ByteArray := prog_1_method_7_code
def yX5_order : MethodName := ⟨RX5, "order", "(II)I"⟩
abbrev cX5_law : ByteArray := prog_1_method_8_code
def yX5_law : MethodName := ⟨RX5, "law", "(I)I"⟩
abbrev cX5_meets : ByteArray := prog_1_method_9_code
def yX5_meets : MethodName := ⟨RX5, "meets", "(II)I"⟩
abbrev cX5_felt : ByteArray := prog_1_method_10_code
def yX5_felt : MethodName := ⟨RX5, "felt", "(II)I"⟩
abbrev cX5_yeses : ByteArray := prog_1_method_11_code
def yX5_yeses : MethodName := ⟨RX5, "yeses", "(II)I"⟩
abbrev cX5_pairs : ByteArray := prog_1_method_12_code
def yX5_pairs : MethodName := ⟨RX5, "pairs", "(I)I"⟩
abbrev cX5_glad : ByteArray := prog_1_method_13_code
def yX5_glad : MethodName := ⟨RX5, "glad", "(II)I"⟩
abbrev cX5_shaded : ByteArray := prog_1_method_14_code
def yX5_shaded : MethodName := ⟨RX5, "shaded", "()I"⟩
abbrev cX5_bestOrder : ByteArray := prog_1_method_15_code
def yX5_bestOrder : MethodName := ⟨RX5, "bestOrder", "()I"⟩
abbrev cX5_ranks : ByteArray := prog_1_method_16_code
def yX5_ranks : MethodName := ⟨RX5, "ranks", "(I)I"⟩
abbrev cX5_asked : ByteArray := prog_1_method_17_code
def yX5_asked : MethodName := ⟨RX5, "asked", "(I)I"⟩
abbrev cX5_firm : ByteArray := prog_1_method_18_code
def yX5_firm : MethodName := ⟨RX5, "firm", "()I"⟩
abbrev cX5_row : ByteArray := prog_1_method_19_code
def yX5_row : MethodName := ⟨RX5, "row", "(I)I"⟩
abbrev cX5_rather : ByteArray := prog_1_method_20_code
def yX5_rather : MethodName := ⟨RX5, "rather", "()I"⟩
abbrev cX5_truly : ByteArray := prog_1_method_21_code
def yX5_truly : MethodName := ⟨RX5, "truly", "(II)I"⟩
abbrev cX5_judge : ByteArray := prog_1_method_22_code
def yX5_judge : MethodName := ⟨RX5, "judge", "()I"⟩
abbrev cX5_clear : ByteArray := prog_1_method_23_code
def yX5_clear : MethodName := ⟨RX5, "clear", "()I"⟩
abbrev cX5_lots : ByteArray := prog_1_method_24_code
def yX5_lots : MethodName := ⟨RX5, "lots", "(II)I"⟩
abbrev cX5_image : ByteArray := prog_1_method_25_code
def yX5_image : MethodName := ⟨RX5, "image", "()I"⟩
abbrev cX5_on : ByteArray := prog_1_method_26_code
def yX5_on : MethodName := ⟨RX5, "on", "()I"⟩
abbrev cX5_count : ByteArray := prog_1_method_27_code
def yX5_count : MethodName := ⟨RX5, "count", "(I)I"⟩
abbrev cX5_refuse : ByteArray := prog_1_method_28_code
def yX5_refuse : MethodName := ⟨RX5, "refuse", "(I)I"⟩
abbrev cX5_gotWhenAsking : ByteArray := prog_1_method_29_code
def yX5_gotWhenAsking : MethodName := ⟨RX5, "gotWhenAsking", "(II)I"⟩
abbrev cX5_holdAsTheRowTells : ByteArray := prog_1_method_30_code
def yX5_holdAsTheRowTells : MethodName := ⟨RX5, "holdAsTheRowTells", "()Z"⟩
abbrev cX5_isLaw : ByteArray := prog_1_method_31_code
def yX5_isLaw : MethodName := ⟨RX5, "isLaw", "(I)Z"⟩
abbrev cX5_sideOf : ByteArray := prog_1_method_32_code
def yX5_sideOf : MethodName := ⟨RX5, "sideOf", "(I)I"⟩
abbrev cX5_bitOf : ByteArray := prog_1_method_33_code
def yX5_bitOf : MethodName := ⟨RX5, "bitOf", "(I)I"⟩
abbrev cX5_otherStart : ByteArray := prog_1_method_34_code
def yX5_otherStart : MethodName := ⟨RX5, "otherStart", "(I)I"⟩
def RX6 : String := "EightMinutesModel"
def TX6 : u_T := fun k => match k with
  | 0 => ("EightMinutesModel", "lefts", "I", false)
  | 1 => ("EightMinutesModel", "rights", "I", false)
  | 2 => ("EightMinutesModel", "step", "I", false)
  | 3 => ("EightMinutesModel", "shift", "I", false)
  | 4 => ("EightMinutesModel", "law", "I", false)
  | 5 => ("EightMinutesModel", "fed", "I", false)
  | 6 => ("EightMinutesModel", "rows", "I", false)
  | 7 => ("EightMinutesModel", "kind", "[I", true)
  | 8 => ("EightMinutesModel", "bar", "[I", true)
  | 9 => ("EightMinutesModel", "likes", "[I", true)
  | 10 => ("EightMinutesModel", "text", "[I", true)
  | 11 => ("EightMinutesModel", "row", "[I", true)
  | 12 => ("EightMinutesModel", "refused", "[I", true)
  | 13 => ("EightMinutesModel", "place", "I", false)
  | 14 => ("EightMinutesModel", "one", "I", false)
  | 15 => ("EightMinutesModel", "two", "I", false)
  | 16 => ("EightMinutesModel", "three", "I", false)
  | 17 => ("EightMinutesModel", "sort", "I", false)
  | 18 => ("EightMinutesModel", "asks", "[I", true)
  | 19 => ("EightMinutesModel", "keeps", "[I", true)
  | 20 => ("EightMinutesModel", "gets", "[I", true)
  | 21 => ("EightMinutesModel", "counts", "[I", true)
  | 22 => ("EightMinutesModel", "leftHas", "[I", true)
  | 23 => ("EightMinutesModel", "rightHas", "[I", true)
  | 24 => ("EightMinutesModel", "seed", "I", false)
  | 25 => ("EightMinutesModel", "keptLikes", "[I", true)
  | 26 => ("EightMinutesModel", "hasImage", "Z", false)
  | 27 => ("EightMinutesModel", "imageLefts", "I", false)
  | 28 => ("EightMinutesModel", "imageRights", "I", false)
  | 29 => ("EightMinutesModel", "imageStep", "I", false)
  | 30 => ("EightMinutesModel", "imageShift", "I", false)
  | 31 => ("EightMinutesModel", "imageLaw", "I", false)
  | 32 => ("EightMinutesModel", "imageKind", "[I", true)
  | 33 => ("EightMinutesModel", "imageBar", "[I", true)
  | _ => ("EightMinutesModel", "imageLikes", "[I", true)
def tyX6 : Nat → FieldType := fun k => match k with
  | 0 => .int
  | 1 => .int
  | 2 => .int
  | 3 => .int
  | 4 => .int
  | 5 => .int
  | 6 => .int
  | 7 => .array .int
  | 8 => .array .int
  | 9 => .array .int
  | 10 => .array .int
  | 11 => .array .int
  | 12 => .array .int
  | 13 => .int
  | 14 => .int
  | 15 => .int
  | 16 => .int
  | 17 => .int
  | 18 => .array .int
  | 19 => .array .int
  | 20 => .array .int
  | 21 => .array .int
  | 22 => .array .int
  | 23 => .array .int
  | 24 => .int
  | 25 => .array .int
  | 26 => .boolean
  | 27 => .int
  | 28 => .int
  | 29 => .int
  | 30 => .int
  | 31 => .int
  | 32 => .array .int
  | 33 => .array .int
  | _ => .array .int
theorem nmX6 : ∀ a, a < 35 → ∀ b, b < 35 → a ≠ b → (TX6 a).2.1 ≠ (TX6 b).2.1 := by decide +kernel
theorem tyX6_ok : ∀ k, k < 35 → parseFieldDescriptor (TX6 k).2.2.1 = some (tyX6 k) := by decide +kernel
abbrev cX6_init : ByteArray := prog_8_method_1_code
def yX6_init : MethodName := ⟨RX6, "<init>", "()V"⟩
abbrev cX6_in : ByteArray := prog_8_method_2_code
def yX6_in : MethodName := ⟨RX6, "in", "(III)Z"⟩
abbrev cX6_has : ByteArray := prog_8_method_3_code
def yX6_has : MethodName := ⟨RX6, "has", "(II)Z"⟩
abbrev cX6_no : ByteArray := prog_8_method_4_code
def yX6_no : MethodName := ⟨RX6, "no", "(I)I"⟩
abbrev cX6_isOf : ByteArray := prog_8_method_5_code
def yX6_isOf : MethodName := ⟨RX6, "isOf", "(III)Z"⟩
abbrev cX6_isPerson : ByteArray := prog_8_method_6_code
def yX6_isPerson : MethodName := ⟨RX6, "isPerson", "(I)Z"⟩
abbrev cX6_areTwo : ByteArray := prog_8_method_7_code
def yX6_areTwo : MethodName := ⟨RX6, "areTwo", "(II)Z"⟩
abbrev cX6_likingOf : ByteArray := prog_8_method_8_code
def yX6_likingOf : MethodName := ⟨RX6, "likingOf", "(II)I"⟩
abbrev cX6_others : ByteArray := prog_8_method_9_code
def yX6_others : MethodName := ⟨RX6, "others", "(I)I"⟩
abbrev cX6_otherOf : ByteArray := prog_8_method_10_code
def yX6_otherOf : MethodName := ⟨RX6, "otherOf", "(II)I"⟩
abbrev cX6_letter : ByteArray := prog_8_method_11_code
def yX6_letter : MethodName := ⟨RX6, "letter", "(I)I"⟩
abbrev cX6_next : ByteArray := prog_8_method_12_code
def yX6_next : MethodName := ⟨RX6, "next", "()I"⟩
abbrev cX6_takes : ByteArray := prog_8_method_13_code
def yX6_takes : MethodName := ⟨RX6, "takes", "(I)Z"⟩
abbrev cX6_digit : ByteArray := prog_8_method_14_code
def yX6_digit : MethodName := ⟨RX6, "digit", "()I"⟩
abbrev cX6_kindOf : ByteArray := prog_8_method_15_code
def yX6_kindOf : MethodName := ⟨RX6, "kindOf", "(I)I"⟩
abbrev cX6_takesKind : ByteArray := prog_8_method_16_code
def yX6_takesKind : MethodName := ⟨RX6, "takesKind", "()Z"⟩
abbrev cX6_takesOne : ByteArray := prog_8_method_17_code
def yX6_takesOne : MethodName := ⟨RX6, "takesOne", "()Z"⟩
abbrev cX6_takesTwo : ByteArray := prog_8_method_18_code
def yX6_takesTwo : MethodName := ⟨RX6, "takesTwo", "()Z"⟩
abbrev cX6_takesThree : ByteArray := prog_8_method_19_code
def yX6_takesThree : MethodName := ⟨RX6, "takesThree", "()Z"⟩
abbrev cX6_takesRest : ByteArray := prog_8_method_20_code
def yX6_takesRest : MethodName := ⟨RX6, "takesRest", "(I)Z"⟩
abbrev cX6_takesStatement : ByteArray := prog_8_method_21_code
def yX6_takesStatement : MethodName := ⟨RX6, "takesStatement", "()Z"⟩
abbrev cX6_isText : ByteArray := prog_8_method_22_code
def yX6_isText : MethodName := ⟨RX6, "isText", "()Z"⟩
abbrev cX6_isGood : ByteArray := prog_8_method_23_code
def yX6_isGood : MethodName := ⟨RX6, "isGood", "(III)Z"⟩
abbrev cX6_wrongPlace : ByteArray := prog_8_method_24_code
def yX6_wrongPlace : MethodName := ⟨RX6, "wrongPlace", "()I"⟩
abbrev cX6_newOne : ByteArray := prog_8_method_25_code
def yX6_newOne : MethodName := ⟨RX6, "newOne", "(I)V"⟩
abbrev cX6_comes : ByteArray := prog_8_method_26_code
def yX6_comes : MethodName := ⟨RX6, "comes", "(I)V"⟩
abbrev cX6_comesAll : ByteArray := prog_8_method_27_code
def yX6_comesAll : MethodName := ⟨RX6, "comesAll", "()I"⟩
abbrev cX6_evening : ByteArray := prog_8_method_28_code
def yX6_evening : MethodName := ⟨RX6, "evening", "()I"⟩
abbrev cX6_roundsNow : ByteArray := prog_8_method_29_code
def yX6_roundsNow : MethodName := ⟨RX6, "roundsNow", "()I"⟩
abbrev cX6_isRound : ByteArray := prog_8_method_30_code
def yX6_isRound : MethodName := ⟨RX6, "isRound", "(I)Z"⟩
abbrev cX6_metBy : ByteArray := prog_8_method_31_code
def yX6_metBy : MethodName := ⟨RX6, "metBy", "(II)I"⟩
abbrev cX6_behindOf : ByteArray := prog_8_method_32_code
def yX6_behindOf : MethodName := ⟨RX6, "behindOf", "(II)I"⟩
abbrev cX6_tired : ByteArray := prog_8_method_33_code
def yX6_tired : MethodName := ⟨RX6, "tired", "(III)I"⟩
abbrev cX6_feels : ByteArray := prog_8_method_34_code
def yX6_feels : MethodName := ⟨RX6, "feels", "(III)I"⟩
abbrev cX6_saysYes : ByteArray := prog_8_method_35_code
def yX6_saysYes : MethodName := ⟨RX6, "saysYes", "(II)Z"⟩
abbrev cX6_yesesOf : ByteArray := prog_8_method_36_code
def yX6_yesesOf : MethodName := ⟨RX6, "yesesOf", "(I)I"⟩
abbrev cX6_yesesTo : ByteArray := prog_8_method_37_code
def yX6_yesesTo : MethodName := ⟨RX6, "yesesTo", "(I)I"⟩
abbrev cX6_gapsOf : ByteArray := prog_8_method_38_code
def yX6_gapsOf : MethodName := ⟨RX6, "gapsOf", "(I)I"⟩
abbrev cX6_person : ByteArray := prog_8_method_39_code
def yX6_person : MethodName := ⟨RX6, "person", "(II)I"⟩
abbrev cX6_liking : ByteArray := prog_8_method_40_code
def yX6_liking : MethodName := ⟨RX6, "liking", "(II)I"⟩
abbrev cX6_like : ByteArray := prog_8_method_41_code
def yX6_like : MethodName := ⟨RX6, "like", "(III)I"⟩
abbrev cX6_order : ByteArray := prog_8_method_42_code
def yX6_order : MethodName := ⟨RX6, "order", "(II)I"⟩
abbrev cX6_law : ByteArray := prog_8_method_43_code
def yX6_law : MethodName := ⟨RX6, "law", "(I)I"⟩
abbrev cX6_meets : ByteArray := prog_8_method_44_code
def yX6_meets : MethodName := ⟨RX6, "meets", "(II)I"⟩
abbrev cX6_felt : ByteArray := prog_8_method_45_code
def yX6_felt : MethodName := ⟨RX6, "felt", "(II)I"⟩
abbrev cX6_yeses : ByteArray := prog_8_method_46_code
def yX6_yeses : MethodName := ⟨RX6, "yeses", "(II)I"⟩
abbrev cX6_dearest : ByteArray := prog_8_method_47_code
def yX6_dearest : MethodName := ⟨RX6, "dearest", "(II)I"⟩
abbrev cX6_isRather : ByteArray := prog_8_method_48_code
def yX6_isRather : MethodName := ⟨RX6, "isRather", "(III)Z"⟩
abbrev cX6_nextAsker : ByteArray := prog_8_method_49_code
def yX6_nextAsker : MethodName := ⟨RX6, "nextAsker", "(III)I"⟩
abbrev cX6_layRanks : ByteArray := prog_8_method_50_code
def yX6_layRanks : MethodName := ⟨RX6, "layRanks", "(I)V"⟩
abbrev cX6_ranks : ByteArray := prog_8_method_51_code
def yX6_ranks : MethodName := ⟨RX6, "ranks", "(I)I"⟩
abbrev cX6_asked : ByteArray := prog_8_method_52_code
def yX6_asked : MethodName := ⟨RX6, "asked", "(I)I"⟩
abbrev cX6_layCounts : ByteArray := prog_8_method_53_code
def yX6_layCounts : MethodName := ⟨RX6, "layCounts", "(I)V"⟩
abbrev cX6_pairsOf : ByteArray := prog_8_method_54_code
def yX6_pairsOf : MethodName := ⟨RX6, "pairsOf", "(I)I"⟩
abbrev cX6_allPairs : ByteArray := prog_8_method_55_code
def yX6_allPairs : MethodName := ⟨RX6, "allPairs", "(I)I"⟩
abbrev cX6_pairs : ByteArray := prog_8_method_56_code
def yX6_pairs : MethodName := ⟨RX6, "pairs", "(I)I"⟩
abbrev cX6_glad : ByteArray := prog_8_method_57_code
def yX6_glad : MethodName := ⟨RX6, "glad", "(II)I"⟩
abbrev cX6_shadedNow : ByteArray := prog_8_method_58_code
def yX6_shadedNow : MethodName := ⟨RX6, "shadedNow", "()I"⟩
abbrev cX6_shaded : ByteArray := prog_8_method_59_code
def yX6_shaded : MethodName := ⟨RX6, "shaded", "()I"⟩
abbrev cX6_meetAll : ByteArray := prog_8_method_60_code
def yX6_meetAll : MethodName := ⟨RX6, "meetAll", "()Z"⟩
abbrev cX6_bestOrder : ByteArray := prog_8_method_61_code
def yX6_bestOrder : MethodName := ⟨RX6, "bestOrder", "()I"⟩
abbrev cX6_wouldRather : ByteArray := prog_8_method_62_code
def yX6_wouldRather : MethodName := ⟨RX6, "wouldRather", "(II)Z"⟩
abbrev cX6_firstRather : ByteArray := prog_8_method_63_code
def yX6_firstRather : MethodName := ⟨RX6, "firstRather", "()I"⟩
abbrev cX6_layWay : ByteArray := prog_8_method_64_code
def yX6_layWay : MethodName := ⟨RX6, "layWay", "(I)Z"⟩
abbrev cX6_firm : ByteArray := prog_8_method_65_code
def yX6_firm : MethodName := ⟨RX6, "firm", "()I"⟩
abbrev cX6_row : ByteArray := prog_8_method_66_code
def yX6_row : MethodName := ⟨RX6, "row", "(I)I"⟩
abbrev cX6_isWay : ByteArray := prog_8_method_67_code
def yX6_isWay : MethodName := ⟨RX6, "isWay", "()Z"⟩
abbrev cX6_rather : ByteArray := prog_8_method_68_code
def yX6_rather : MethodName := ⟨RX6, "rather", "()I"⟩
abbrev cX6_truly : ByteArray := prog_8_method_69_code
def yX6_truly : MethodName := ⟨RX6, "truly", "(II)I"⟩
abbrev cX6_nth : ByteArray := prog_8_method_70_code
def yX6_nth : MethodName := ⟨RX6, "nth", "(I)I"⟩
abbrev cX6_judged : ByteArray := prog_8_method_71_code
def yX6_judged : MethodName := ⟨RX6, "judged", "()I"⟩
abbrev cX6_judge : ByteArray := prog_8_method_72_code
def yX6_judge : MethodName := ⟨RX6, "judge", "()I"⟩
abbrev cX6_clear : ByteArray := prog_8_method_73_code
def yX6_clear : MethodName := ⟨RX6, "clear", "()I"⟩
abbrev cX6_draw : ByteArray := prog_8_method_74_code
def yX6_draw : MethodName := ⟨RX6, "draw", "(I)I"⟩
abbrev cX6_lots : ByteArray := prog_8_method_75_code
def yX6_lots : MethodName := ⟨RX6, "lots", "(II)I"⟩
abbrev cX6_image : ByteArray := prog_8_method_76_code
def yX6_image : MethodName := ⟨RX6, "image", "()I"⟩
abbrev cX6_on : ByteArray := prog_8_method_77_code
def yX6_on : MethodName := ⟨RX6, "on", "()I"⟩
abbrev cX6_allGaps : ByteArray := prog_8_method_78_code
def yX6_allGaps : MethodName := ⟨RX6, "allGaps", "()I"⟩
abbrev cX6_count : ByteArray := prog_8_method_79_code
def yX6_count : MethodName := ⟨RX6, "count", "(I)I"⟩
def RJ11 : String := "java/lang/Character"
abbrev cJ11_isValidCodePoint_9a6ad : ByteArray := prog_9_method_11_code
def yJ11_isValidCodePoint_9a6ad : MethodName := ⟨RJ11, "isValidCodePoint", "(I)Z"⟩
abbrev cJ11_highSurrogate_5068e : ByteArray := prog_9_method_28_code
def yJ11_highSurrogate_5068e : MethodName := ⟨RJ11, "highSurrogate", "(I)C"⟩
abbrev cJ11_lowSurrogate_5068e : ByteArray := prog_9_method_29_code
def yJ11_lowSurrogate_5068e : MethodName := ⟨RJ11, "lowSurrogate", "(I)C"⟩
def RJ6 : String := "java/lang/Integer"
abbrev cJ6_bitCount_0f7a4 : ByteArray := prog_10_method_49_code
def yJ6_bitCount_0f7a4 : MethodName := ⟨RJ6, "bitCount", "(I)I"⟩
def RJ9 : String := "java/lang/Math"
abbrev cJ9_floorMod_7cf53 : ByteArray := prog_11_method_50_code
def yJ9_floorMod_7cf53 : MethodName := ⟨RJ9, "floorMod", "(II)I"⟩
abbrev cJ9_max_7cf53 : ByteArray := prog_11_method_65_code
def yJ9_max_7cf53 : MethodName := ⟨RJ9, "max", "(II)I"⟩
abbrev cJ9_min_7cf53 : ByteArray := prog_11_method_69_code
def yJ9_min_7cf53 : MethodName := ⟨RJ9, "min", "(II)I"⟩
def RJ0 : String := "java/lang/String"
abbrev cJ0_length_8abf5 : ByteArray := prog_12_method_54_code
def yJ0_length_8abf5 : MethodName := ⟨RJ0, "length", "()I"⟩
abbrev cJ0_isEmpty_aae02 : ByteArray := prog_12_method_55_code
def yJ0_isEmpty_aae02 : MethodName := ⟨RJ0, "isEmpty", "()Z"⟩
abbrev cJ0_charAt_5068e : ByteArray := prog_12_method_56_code
def yJ0_charAt_5068e : MethodName := ⟨RJ0, "charAt", "(I)C"⟩
abbrev cJ0_indexOf_0f7a4 : ByteArray := prog_12_method_79_code
def yJ0_indexOf_0f7a4 : MethodName := ⟨RJ0, "indexOf", "(I)I"⟩
abbrev cJ0_indexOf_7cf53 : ByteArray := prog_12_method_80_code
def yJ0_indexOf_7cf53 : MethodName := ⟨RJ0, "indexOf", "(II)I"⟩
abbrev cJ0_coder_7d493 : ByteArray := prog_12_method_152_code
def yJ0_coder_7d493 : MethodName := ⟨RJ0, "coder", "()B"⟩
abbrev cJ0_isLatin1_aae02 : ByteArray := prog_12_method_154_code
def yJ0_isLatin1_aae02 : MethodName := ⟨RJ0, "isLatin1", "()Z"⟩
abbrev cJ0_checkIndex_df160 : ByteArray := prog_12_method_155_code
def yJ0_checkIndex_df160 : MethodName := ⟨RJ0, "checkIndex", "(II)V"⟩
abbrev cJ0_checkBoundsBeginEnd_23922 : ByteArray := prog_12_method_158_code
def yJ0_checkBoundsBeginEnd_23922 : MethodName := ⟨RJ0, "checkBoundsBeginEnd", "(III)V"⟩
def RJ1 : String := "java/lang/StringLatin1"
abbrev cJ1_charAt_3b067 : ByteArray := prog_13_method_2_code
def yJ1_charAt_3b067 : MethodName := ⟨RJ1, "charAt", "([BI)C"⟩
abbrev cJ1_canEncode_9a6ad : ByteArray := prog_13_method_4_code
def yJ1_canEncode_9a6ad : MethodName := ⟨RJ1, "canEncode", "(I)Z"⟩
abbrev cJ1_indexOf_4cfef : ByteArray := prog_13_method_22_code
def yJ1_indexOf_4cfef : MethodName := ⟨RJ1, "indexOf", "([BIII)I"⟩
abbrev cJ1_indexOfChar_4cfef : ByteArray := prog_13_method_23_code
def yJ1_indexOfChar_4cfef : MethodName := ⟨RJ1, "indexOfChar", "([BIII)I"⟩
def RJ2 : String := "java/lang/StringUTF16"
abbrev cJ2_getChar_3b067 : ByteArray := prog_14_method_5_code
def yJ2_getChar_3b067 : MethodName := ⟨RJ2, "getChar", "([BI)C"⟩
abbrev cJ2_length_9d52b : ByteArray := prog_14_method_6_code
def yJ2_length_9d52b : MethodName := ⟨RJ2, "length", "([B)I"⟩
abbrev cJ2_indexOf_4cfef : ByteArray := prog_14_method_40_code
def yJ2_indexOf_4cfef : MethodName := ⟨RJ2, "indexOf", "([BIII)I"⟩
abbrev cJ2_indexOfChar_4cfef : ByteArray := prog_14_method_47_code
def yJ2_indexOfChar_4cfef : MethodName := ⟨RJ2, "indexOfChar", "([BIII)I"⟩
abbrev cJ2_indexOfCharUnsafe_4cfef : ByteArray := prog_14_method_48_code
def yJ2_indexOfCharUnsafe_4cfef : MethodName := ⟨RJ2, "indexOfCharUnsafe", "([BIII)I"⟩
abbrev cJ2_indexOfSupplementary_4cfef : ByteArray := prog_14_method_49_code
def yJ2_indexOfSupplementary_4cfef : MethodName := ⟨RJ2, "indexOfSupplementary", "([BIII)I"⟩
abbrev cJ2_charAt_3b067 : ByteArray := prog_14_method_83_code
def yJ2_charAt_3b067 : MethodName := ⟨RJ2, "charAt", "([BI)C"⟩
abbrev cJ2_checkIndex_2214a : ByteArray := prog_14_method_91_code
def yJ2_checkIndex_2214a : MethodName := ⟨RJ2, "checkIndex", "(I[B)V"⟩
abbrev cJ2_checkBoundsBeginEnd_d044e : ByteArray := prog_14_method_93_code
def yJ2_checkBoundsBeginEnd_d044e : MethodName := ⟨RJ2, "checkBoundsBeginEnd", "(II[B)V"⟩
def RJ10 : String := "java/lang/System"
def RJ3 : String := "jdk/internal/util/Preconditions"
abbrev cJ3_checkIndex_8e157 : ByteArray := prog_16_method_11_code
def yJ3_checkIndex_8e157 : MethodName := ⟨RJ3, "checkIndex", "(IILjava/util/function/BiFunction;)I"⟩
abbrev cJ3_checkFromToIndex_8c36e : ByteArray := prog_16_method_12_code
def yJ3_checkFromToIndex_8c36e : MethodName := ⟨RJ3, "checkFromToIndex", "(IIILjava/util/function/BiFunction;)I"⟩
def RL : String := "EightMinutesLaw"
abbrev cL_law : ByteArray := code
def yL_law : MethodName := ⟨RL, "law", "([I)Z"⟩
abbrev vwCl : List vw_C := [(RX0, TX0, 1), (RX1, TX1, 4), (RX2, TX2, 5), (RX3, TX3, 2), (RX4, TX4, 7), (RX5, TX5, 11), (RX6, TX6, 35)]
end
section
/-! Z: ONE memory of whole numbers over fixed cells. Every cell of the class and of the reference has a number i < 68; what it holds of ints is 'μ i' (place to Int); its references never change. -/
abbrev zM : Type := Nat → Int → Int
abbrev zV : Type := Int ⊕ Nat
abbrev zD : Type := (Nat × List (Option Nat)) ⊕ (Nat ⊕ (Nat × Nat))
def iI (z : Int) : Int32 := Int32.ofInt z
abbrev zR (z : Int) : Prop := -2147483648 ≤ z ∧ z < 2147483648
/-- the int that the machine holds for z -/
def zw (z : Int) : Int := (iI z).toInt
theorem iI_toInt {z : Int} (h : zR z) : (iI z).toInt = z := by
  have h1 : z.bmod (2 ^ 32) = z := Int.bmod_eq_of_le (by have := h.1; omega) (by have := h.2; omega)
  have h2 := (Int32.ofInt_eq_iff_bmod_eq_toInt z (iI z)).mp rfl
  omega
theorem iI_of (x : Int32) : iI x.toInt = x := Int32.ofInt_toInt x
theorem zw_iI (z : Int) : iI (zw z) = iI z := iI_of _
theorem zw_eq {z : Int} (h : zR z) : zw z = z := iI_toInt h
theorem zR_toInt (x : Int32) : zR x.toInt := ⟨by have := Int32.le_toInt x; omega, by have := Int32.toInt_lt x; omega⟩
theorem zw_R (z : Int) : zR (zw z) := zR_toInt _
theorem iI_inj {a b : Int} (ha : zR a) (hb : zR b) (h : iI a = iI b) : a = b := by
  have := congrArg Int32.toInt h
  rwa [iI_toInt ha, iI_toInt hb] at this
theorem iI_eq {a b : Int} (ha : zR a) (hb : zR b) : iI a = iI b ↔ a = b := ⟨iI_inj ha hb, fun h => by rw [h]⟩
theorem iI_lt {a b : Int} (ha : zR a) (hb : zR b) : iI a < iI b ↔ a < b := by
  rw [Int32.lt_iff_toInt_lt, iI_toInt ha, iI_toInt hb]
theorem iI_le {a b : Int} (ha : zR a) (hb : zR b) : iI a ≤ iI b ↔ a ≤ b := by
  rw [Int32.le_iff_toInt_le, iI_toInt ha, iI_toInt hb]
theorem iI_add (a b : Int) : iI a + iI b = iI (a + b) := (Int32.ofInt_add a b).symm
theorem iI_sub (a b : Int) : iI a - iI b = iI (a - b) := (Int32.ofInt_sub a b).symm
theorem iI_mul (a b : Int) : iI a * iI b = iI (a * b) := (Int32.ofInt_mul a b).symm
theorem iI_neg (a : Int) : -iI a = iI (-a) := (Int32.ofInt_neg a).symm
theorem iI_0 : iI 0 = 0 := by decide
theorem iI_div {a b : Int} (ha : zR a) (hb : zR b) (h0 : 0 ≤ a) (h1 : 0 < b) : iI a / iI b = iI (a / b) := by
  have h := Int32.ofInt_tdiv (a := a) (b := b) (by have := ha.1; have : Int32.minValue.toInt = -2147483648 := by decide
                                                   omega) (by have := ha.2; have : Int32.maxValue.toInt = 2147483647 := by decide
                                                              omega) (by have := hb.1; have : Int32.minValue.toInt = -2147483648 := by decide
                                                                         omega) (by have := hb.2; have : Int32.maxValue.toInt = 2147483647 := by decide
                                                                                    omega)
  unfold iI
  rw [← h, Int.tdiv_eq_ediv_of_nonneg h0]
theorem iI_rem {a b : Int} (ha : zR a) (hb : zR b) (h0 : 0 ≤ a) (h1 : 0 < b) : iI a - iI a / iI b * iI b = iI (a % b) := by
  rw [iI_div ha hb h0 h1, iI_mul, iI_sub, Int.emod_def, Int.mul_comm (a / b) b]
theorem iI_clamp {x : Int} {n : Nat} (h0 : 0 ≤ x) (h1 : x < n) (hn : n < 2147483648) : (iI x).toNatClampNeg = x.toNat := by
  show (iI x).toInt.toNat = x.toNat
  rw [iI_toInt ⟨by omega, by omega⟩]
theorem iI_in {x : Int} {n : Nat} (h0 : 0 ≤ x) (h1 : x < n) (hn : n < 2147483648) : vp_in (iI x) n := by
  rw [vp_in_iff, iI_toInt ⟨by omega, by omega⟩]
  exact ⟨h0, h1⟩
/-- bits -/
def zand (a b : Int) : Int := (iI a &&& iI b).toInt
def zor (a b : Int) : Int := (iI a ||| iI b).toInt
def zxor (a b : Int) : Int := (iI a ^^^ iI b).toInt
def zshl (a b : Int) : Int := (iI a <<< (iI b &&& 31)).toInt
def zshr (a b : Int) : Int := (iI a >>> (iI b &&& 31)).toInt
def zushr (a b : Int) : Int := ((iI a).toUInt32 >>> ((iI b).toUInt32 &&& Int32.toUInt32 31)).toInt32.toInt
/-- the memory, a place written -/
def zs (μ : zM) (i : Nat) (j v : Int) : zM := fun a => if a = i then fun b => if b = j then v else μ i b else μ a
theorem zs_self (μ : zM) (i : Nat) (j v : Int) : zs μ i j v i j = v := by simp [zs]
theorem zs_ne (μ : zM) {i a : Nat} (j v : Int) (h : a ≠ i) : zs μ i j v a = μ a := by simp [zs, h]
theorem zs_at (μ : zM) (i : Nat) (j v b : Int) : zs μ i j v i b = if b = j then v else μ i b := by simp [zs]
theorem zs_ne2 (μ : zM) (i : Nat) {j b : Int} (v : Int) (h : b ≠ j) : zs μ i j v i b = μ i b := by simp [zs, h]
abbrev zRM (μ : zM) : Prop := ∀ i j, zR (μ i j)
theorem zs_R {μ : zM} (h : zRM μ) (i : Nat) (j : Int) {v : Int} (hv : zR v) : zRM (zs μ i j v) := by
  intro a b
  unfold zs
  by_cases e : a = i
  · rw [if_pos e]
    by_cases e2 : b = j
    · rw [if_pos e2]; exact hv
    · rw [if_neg e2]; exact h i b
  · rw [if_neg e]; exact h a b
/-- the cells: an object (its class in vwCl; of each field: a reference to that cell, or an int), a row of ints, a row of references to cells that lie one behind another -/
def zd : Nat → zD
  | 0 => .inl (5, [some 1, some 6, some 11, none, some 16, some 18, some 22, some 27, some 29, none, some 30])
  | 1 => .inl (4, [some 2, some 3, some 4, some 5, none, none, none])
  | 2 => .inr (.inl 2)
  | 3 => .inr (.inl 10)
  | 4 => .inr (.inl 10)
  | 5 => .inr (.inl 100)
  | 6 => .inl (4, [some 7, some 8, some 9, some 10, none, none, none])
  | 7 => .inr (.inl 2)
  | 8 => .inr (.inl 10)
  | 9 => .inr (.inl 10)
  | 10 => .inr (.inl 100)
  | 11 => .inl (4, [some 12, some 13, some 14, some 15, none, none, none])
  | 12 => .inr (.inl 2)
  | 13 => .inr (.inl 10)
  | 14 => .inr (.inl 10)
  | 15 => .inr (.inl 100)
  | 16 => .inl (3, [some 17, none])
  | 17 => .inr (.inl 96)
  | 18 => .inl (2, [some 19, some 20, some 21, none, none])
  | 19 => .inr (.inr (10, 48))
  | 20 => .inr (.inr (10, 58))
  | 21 => .inr (.inl 10)
  | 22 => .inl (1, [some 23, some 24, some 25, some 26])
  | 23 => .inr (.inl 10)
  | 24 => .inr (.inl 10)
  | 25 => .inr (.inl 10)
  | 26 => .inr (.inl 10)
  | 27 => .inl (0, [some 28])
  | 28 => .inr (.inl 10)
  | 29 => .inr (.inl 10)
  | 30 => .inr (.inl 7)
  | 31 => .inl (6, [none, none, none, none, none, none, none, some 32, some 33, some 34, some 35, some 36, some 37, none, none, none, none, none, some 38, some 39, some 40, some 41, some 42, some 43, none, some 44, none, none, none, none, none, none, some 45, some 46, some 47])
  | 32 => .inr (.inl 10)
  | 33 => .inr (.inl 10)
  | 34 => .inr (.inl 50)
  | 35 => .inr (.inl 96)
  | 36 => .inr (.inl 10)
  | 37 => .inr (.inl 7)
  | 38 => .inr (.inl 5)
  | 39 => .inr (.inl 5)
  | 40 => .inr (.inl 10)
  | 41 => .inr (.inl 10)
  | 42 => .inr (.inl 5)
  | 43 => .inr (.inl 5)
  | 44 => .inr (.inl 50)
  | 45 => .inr (.inl 10)
  | 46 => .inr (.inl 10)
  | 47 => .inr (.inl 50)
  | _ => .inr (.inl 5)
theorem zd_row {k : Nat} (h : 48 ≤ k) : zd k = .inr (.inl 5) := by
  obtain ⟨j, rfl⟩ : ∃ j, k = j + 48 := ⟨k - 48, by omega⟩
  rfl
/-- one of the three sets of what is told: its object's cell -/
abbrev zTo (t : Nat) : Prop := t = 1 ∨ t = 6 ∨ t = 11
theorem zd_to0 {t : Nat} (h : zTo t) : zd t = .inl (4, [some (t + 1), some (t + 2), some (t + 3), some (t + 4), none, none, none]) := by rcases h with rfl | rfl | rfl <;> rfl
theorem zd_to1 {t : Nat} (h : zTo t) : zd (t + 1) = .inr (.inl 2) := by rcases h with rfl | rfl | rfl <;> rfl
theorem zd_to2 {t : Nat} (h : zTo t) : zd (t + 2) = .inr (.inl 10) := by rcases h with rfl | rfl | rfl <;> rfl
theorem zd_to3 {t : Nat} (h : zTo t) : zd (t + 3) = .inr (.inl 10) := by rcases h with rfl | rfl | rfl <;> rfl
theorem zd_to4 {t : Nat} (h : zTo t) : zd (t + 4) = .inr (.inl 100) := by rcases h with rfl | rfl | rfl <;> rfl
/-- what is fixed of a run: where classes, cells and texts lie -/
abbrev zG : Type := va_G × ClassId × ClassId × (Nat → Nat)
def zv (G : zG) (v : zV) : Value := match v with
  | .inl z => .int (iI z)
  | .inr i => .ref (G.2.2.2 i)
theorem zv_cat (G : zG) (v : zV) : (zv G v).category = 1 := by cases v <;> rfl
def zf1 (G : zG) (r : Int → Int) (o : Option Nat) (i : Nat) : Value := match o with
  | some t => .ref (G.2.2.2 t)
  | none => .int (iI (r (i : Int)))
def zfs (G : zG) (r : Int → Int) : List (Option Nat) → Nat → List Value
  | [], _ => []
  | o :: ks, i => zf1 G r o i :: zfs G r ks (i + 1)
theorem zfs_c (G : zG) (r : Int → Int) (o : Option Nat) (ks : List (Option Nat)) (i : Nat) : zfs G r (o :: ks) i = zf1 G r o i :: zfs G r ks (i + 1) := rfl
theorem zfs_len (G : zG) (r : Int → Int) : ∀ (ks : List (Option Nat)) (i : Nat), (zfs G r ks i).length = ks.length
  | [], _ => rfl
  | _ :: ks, i => by rw [zfs_c, List.length_cons, List.length_cons, zfs_len G r ks (i + 1)]
theorem zfs_int (G : zG) (r : Int → Int) : ∀ (ks : List (Option Nat)) (i k : Nat), ks[k]? = some none → (zfs G r ks i)[k]? = some (.int (iI (r ((i + k : Nat) : Int))))
  | [], _, k, h => by simp at h
  | o :: ks, i, 0, h => by
    have ho : o = none := by simpa using h
    subst ho
    rfl
  | o :: ks, i, k + 1, h => by
    rw [zfs_c, List.getElem?_cons_succ, zfs_int G r ks (i + 1) k (by simpa using h), show i + 1 + k = i + (k + 1) by omega]
theorem zfs_ref (G : zG) (r : Int → Int) {t : Nat} : ∀ (ks : List (Option Nat)) (i k : Nat), ks[k]? = some (some t) → (zfs G r ks i)[k]? = some (.ref (G.2.2.2 t))
  | [], _, k, h => by simp at h
  | o :: ks, i, 0, h => by
    have ho : o = some t := by simpa using h
    subst ho
    rfl
  | o :: ks, i, k + 1, h => by
    rw [zfs_c, List.getElem?_cons_succ, zfs_ref G r ks (i + 1) k (by simpa using h)]
theorem zf1_cong (G : zG) {r r' : Int → Int} (o : Option Nat) (i : Nat) (h : r (i : Int) = r' (i : Int)) : zf1 G r o i = zf1 G r' o i := by
  cases o with
  | none => show Value.int (iI (r (i : Int))) = Value.int (iI (r' (i : Int))); rw [h]
  | some t => rfl
theorem zfs_cong (G : zG) {r r' : Int → Int} : ∀ (ks : List (Option Nat)) (i : Nat), (∀ j : Nat, i ≤ j → r (j : Int) = r' (j : Int)) → zfs G r ks i = zfs G r' ks i
  | [], _, _ => rfl
  | o :: ks, i, h => by
    rw [zfs_c, zfs_c, zfs_cong G ks (i + 1) (fun j hj => h j (by omega)), zf1_cong G o i (h i (Nat.le_refl i))]
theorem zfs_set (G : zG) (r : Int → Int) (v : Int) : ∀ (ks : List (Option Nat)) (i k : Nat), ks[k]? = some none → (zfs G r ks i).set k (.int (iI v)) = zfs G (fun b => if b = ((i + k : Nat) : Int) then v else r b) ks i
  | [], _, k, h => by simp at h
  | o :: ks, i, 0, h => by
    have ho : o = none := by simpa using h
    subst ho
    rw [zfs_c, zfs_c, List.set_cons_zero, zfs_cong G (r := r) (r' := fun b => if b = ((i + 0 : Nat) : Int) then v else r b) ks (i + 1) (fun j hj => by rw [if_neg (by omega)])]
    show _ = Value.int (iI (if (i : Int) = ((i + 0 : Nat) : Int) then v else r (i : Int))) :: _
    rw [if_pos (by omega)]
  | o :: ks, i, k + 1, h => by
    rw [zfs_c, zfs_c, List.set_cons_succ, zfs_set G r v ks (i + 1) k (by simpa using h), show i + 1 + k = i + (k + 1) by omega, zf1_cong G (r := r) (r' := fun b => if b = ((i + (k + 1) : Nat) : Int) then v else r b) o i (by rw [if_neg (by omega)])]
def zc (G : zG) (d : zD) (r : Int → Int) : va_E := match d with
  | .inl (ci, ks) => .inr (ci, zfs G r ks 0)
  | .inr (.inl n) => .inl (G.2.1, n, .inl (fun j => iI (r (j : Int))))
  | .inr (.inr (n, b)) => .inl (G.2.2.1, n, .inr (.inr (.inr (.inr (fun j => some (G.2.2.2 (b + j)))))))
/-- the world -/
def zW (G : zG) (μ : zM) : va_W := (List.range 68).map (fun i => (G.2.2.2 i, zc G (zd i) (μ i)))
theorem zW_get (G : zG) (μ : zM) {i : Nat} (h : i < 68) : (zW G μ)[i]? = some (G.2.2.2 i, zc G (zd i) (μ i)) := by
  rw [zW, List.getElem?_map, List.getElem?_range h]
  rfl
theorem zW_mem {G : zG} {μ : zM} {k : Nat} {q : Nat × va_E} (h : (zW G μ)[k]? = some q) : k < 68 ∧ q = (G.2.2.2 k, zc G (zd k) (μ k)) := by
  have hk : k < 68 := by
    have := (List.getElem?_eq_some_iff.mp h).1
    simpa [zW] using this
  rw [zW_get G μ hk] at h
  exact ⟨hk, (Option.some.inj h).symm⟩
theorem zW_set (G : zG) (μ : zM) {i : Nat} (h : i < 68) (j v : Int) : (zW G μ).set i (G.2.2.2 i, zc G (zd i) (fun b => if b = j then v else μ i b)) = zW G (zs μ i j v) := by
  apply List.ext_getElem?
  intro k
  by_cases hk : k = i
  · subst hk
    rw [List.getElem?_set_self (by simpa [zW] using h), zW_get G _ h]
    congr 3
    funext b
    rw [zs_at]
  · rw [List.getElem?_set_ne (Ne.symm hk)]
    by_cases h2 : k < 68
    · rw [zW_get G _ h2, zW_get G _ h2, zs_ne _ _ _ hk]
    · rw [List.getElem?_eq_none (by simp [zW]; omega), List.getElem?_eq_none (by simp [zW]; omega)]
/-- the cells that a method may change: the world's, and new ones -/
def zA (G : zG) (sz : Nat) : Nat → Prop := fun q => (∃ i, i < 68 ∧ q = G.2.2.2 i) ∨ sz ≤ q
theorem zA_va {G : zG} {μ : zM} {sz : Nat} {q : Nat} : va_A (zW G μ) sz q ↔ zA G sz q := by
  constructor
  · rintro (⟨k, e, h⟩ | h)
    · obtain ⟨h1, h2⟩ := zW_mem h
      exact Or.inl ⟨k, h1, congrArg Prod.fst h2⟩
    · exact Or.inr h
  · rintro (⟨i, h1, rfl⟩ | h)
    · exact Or.inl ⟨i, _, zW_get G μ h1⟩
    · exact Or.inr h
theorem zD_any {A : Nat → Prop} {G : zG} {μ : zM} (μ' : zM) (h : va_D A (zW G μ)) : va_D A (zW G μ') := by
  refine ⟨fun i j p q hp hq e => ?_, fun k q hq => ?_⟩
  · obtain ⟨h1, rfl⟩ := zW_mem hp
    obtain ⟨h2, rfl⟩ := zW_mem hq
    exact h.1 i j _ _ (zW_get G μ h1) (zW_get G μ h2) e
  · obtain ⟨h1, rfl⟩ := zW_mem hq
    exact h.2 k (G.2.2.2 k, zc G (zd k) (μ k)) (zW_get G μ h1)
theorem zD_A {A : Nat → Prop} {G : zG} {μ : zM} (h : va_D A (zW G μ)) {i : Nat} (hi : i < 68) : A (G.2.2.2 i) := h.2 i (G.2.2.2 i, zc G (zd i) (μ i)) (zW_get G μ hi)
theorem zD_weak {A B : Nat → Prop} {G : zG} {μ : zM} (h : va_D A (zW G μ)) (hB : ∀ i, i < 68 → B (G.2.2.2 i)) : va_D B (zW G μ) := ⟨h.1, fun k q hq => by
  obtain ⟨h1, rfl⟩ := zW_mem hq
  exact hB k h1⟩
/-- the six texts -/
def zLen : List Nat := [6, 3, 4, 3, 2, 0]
def zByt : List (List Int32) := [[109, 101, 116, 115, 104, 119], [75, 68, 59], [68, 68, 68, 59], [68, 68, 59], [68, 59], []]
/-- what is known of the tables, the texts and the statics at a start -/
def zNW : List (String × Nat × MethodName × String) := [(RX0, 31, yX5_otherStart, RX5), (RX1, 37, yX5_bitOf, RX5), (RX1, 59, yX5_otherStart, RX5), (RX1, 66, yX5_sideOf, RX5), (RX2, 54, yX5_sideOf, RX5), (RX2, 58, yX5_otherStart, RX5), (RX2, 74, yX5_bitOf, RX5), (RX3, 97, yX5_isLaw, RX5), (RX4, 40, yX5_sideOf, RX5), (RX4, 67, yX5_otherStart, RX5)]
def zSL : List (Nat × String × Nat) := [(53, "metshw", 0), (43, "KD;", 1), (45, "DDD;", 2), (47, "DD;", 3), (49, "D;", 4), (51, "", 5)]
end
section
/-! the environment, contracts, the judgement zJ, and its rows -/
def zE (G : zG) (A : Nat → Prop) (U : State) (H : Heap) : Prop :=
  va_K G.1 vwCl [(G.2.1, .int), (G.2.2.1, .array .int)] U ∧ (∀ q ∈ zNW, va_Nw (.methodLinkNest q.1 q.2.1 q.2.2.1 q.2.2.2) U) ∧ (∀ q ∈ zSL, vk_R RX3 q.1 q.2.1 (G.2.2.2 (70 + q.2.2)) U) ∧ vk_S 6 zLen zByt (fun i => G.2.2.2 (70 + i)) (fun i => G.2.2.2 (80 + i)) A U H ∧ va_Z "java/lang/String" "COMPACT_STRINGS" "Z" (.int 1) A U H ∧ va_Zq "jdk/internal/util/Preconditions" "SIOOBE_FORMATTER" "Ljava/util/function/BiFunction;" A U H
theorem zE_calling {G : zG} {A : Nat → Prop} {U : State} {g : JFrame} {mk : MethodId} {a : Array Value} (h : zE G A U U.heap) : zE G A (U.calling g mk a) (U.calling g mk a).heap :=
  ⟨va_K.moved (u := U) (U := U.calling g mk a) (Vm.Alike.refl U.vm) h.1, fun q hq => va_Nw.same rfl (u := U) (U := U.calling g mk a) rfl (h.2.1 q hq), fun q hq => vk_R.same (u := U) (U := U.calling g mk a) rfl (h.2.2.1 q hq), vk_S.moved (u := U) (U := U.calling g mk a) (Vm.Alike.refl U.vm) h.2.2.2.1, va_Z.moved (u := U) (U := U.calling g mk a) (Vm.Alike.refl U.vm) h.2.2.2.2.1, va_Zq.moved (u := U) (U := U.calling g mk a) (Vm.Alike.refl U.vm) h.2.2.2.2.2⟩
theorem zE_call {G : zG} {A A1 : Nat → Prop} {s U : State} {H : Heap} {locs : List Loc} (h : zE G A s s.heap) (hS : va_S A s.heap H locs) (hle : ∀ q, A1 q → A q) (hU : U.heap = H) (hW : s.WarmedH U.vm) : zE G A1 U U.heap := by
  rw [hU]
  exact ⟨va_K.moved hW.alike h.1, fun q hq => va_Nw.warmM hW (h.2.1 q hq), fun q hq => vk_R.warm hW (h.2.2.1 q hq), ((vk_S.kept h.2.2.2.1 hS.2.1).narrow hle).moved hW.alike, ((va_Z.kept h.2.2.2.2.1 hS.2.1).narrow hle).moved hW.alike, ((va_Zq.kept h.2.2.2.2.2 hS.2.1).narrow hle).moved hW.alike⟩
/-- the words of every contract: the tables' good ones -/
noncomputable def zBIG : List Cond := lw_tbl.filter goodWord
theorem zB_of {w : Cond} (h : w ∈ lw_tbl) (g : goodWord w = true) : w ∈ zBIG := List.mem_filter.mpr ⟨h, g⟩
theorem zB_t {w : Cond} (i : Nat) (h : tables_1[i]? = some w) (g : goodWord w = true) : w ∈ zBIG := zB_of (List.mem_append_right _ (List.mem_of_getElem? h)) g
theorem zB_s {w : Cond} (i : Nat) (h : (k2_sels lw_privs)[i]? = some w) (g : goodWord w = true) : w ∈ zBIG := zB_of (List.mem_append_left _ (List.mem_of_getElem? h)) g
theorem zB_r {ws : List Cond} (ps : List Nat) (hp : ws = ps.filterMap (fun i => tables_1[i]?)) (h : ws.all goodWord = true) : ∀ w ∈ ws, w ∈ zBIG := by
  intro w hw
  have h1 := List.all_eq_true.mp h w hw
  rw [hp] at hw
  obtain ⟨i, -, hi⟩ := List.mem_filterMap.mp hw
  exact zB_t i hi h1
theorem zB_good {w : Cond} (h : w ∈ zBIG) : goodWord w = true := (List.mem_filter.mp h).2
theorem zB_G {c0 : Cond} {ws : List Cond} (h : ∀ w ∈ ws, w ∈ zBIG) : GoodIn (c0 :: zBIG) ws := fun w hw => ⟨List.mem_cons_of_mem _ (h w hw), good_of_word (zB_good (h w hw))⟩
noncomputable def zws (y : MethodName) (cc : ByteArray) (n : Nat) (ret : Option FieldType) : List Cond := .code y cc n ret :: zBIG
/-- the start of a contract -/
def zPc (G : zG) (sz : Nat) (as : List zV) (μ : zM) : Array Value → State → Prop := va_Pc (as.map (zv G)) (fun U => U.heap.size = sz ∧ va_P G.1 vwCl (zW G μ) U.heap ∧ va_D (fun _ => True) (zW G μ) ∧ zE G (zA G sz) U U.heap)
abbrev zrm (f n : Nat) : Room := { frames := f, cells := 0, slots := 0, locals := n }
/-- a contract with an int for an answer; nothing; a reference to a fixed cell -/
def zMi (l : Launch) (y : MethodName) (cc : ByteArray) (nL : Nat) (ty : FieldType) (f nw : Nat) (as : List zV) (μ : zM) (post : Int → zM → Prop) : Prop :=
  ∀ (G : zG) (sz : Nat), zRM μ → Met l y (zws y cc nL (some ty)) (zrm f nw) (zPc G sz as μ) (va_Qi (fun (r : Int32) (u : Int × zM) => r = iI u.1 ∧ zR u.1 ∧ zRM u.2 ∧ post u.1 u.2) (fun u t => va_P G.1 vwCl (zW G u.2) t.heap) (zA G sz)) 0 0 (zA G sz)
def zMv (l : Launch) (y : MethodName) (cc : ByteArray) (nL : Nat) (f nw : Nat) (as : List zV) (μ : zM) (post : zM → Prop) : Prop :=
  ∀ (G : zG) (sz : Nat), zRM μ → Met l y (zws y cc nL none) (zrm f nw) (zPc G sz as μ) (va_Qv (fun (u : zM) => zRM u ∧ post u) (fun u t => va_P G.1 vwCl (zW G u) t.heap) (zA G sz)) 0 0 (zA G sz)
def zMr (l : Launch) (y : MethodName) (cc : ByteArray) (nL : Nat) (ty : FieldType) (f nw : Nat) (as : List zV) (μ : zM) (post : Nat → zM → Prop) : Prop :=
  ∀ (G : zG) (sz : Nat), zRM μ → Met l y (zws y cc nL (some ty)) (zrm f nw) (zPc G sz as μ) (va_Qr (fun (u : Nat × zM) => zRM u.2 ∧ post u.1 u.2) (fun u a t => a = G.2.2.2 u.1 ∧ va_P G.1 vwCl (zW G u.2) t.heap) (zA G sz)) 0 0 (zA G sz)
/-- a walk: all that stays the same in it -/
abbrev zX : Type := Program × Launch × Env × Room × State × MethodId × Array Value × List Frame × Method × Code × (State → Prop) × (Nat → Prop) × zG × Nat × Nat
def zl (X : zX) : Launch := X.2.1
def zlv (G : zG) (q : Nat × zV) : Nat × Value := (q.1, zv G q.2)
def zJ (X : zX) (nL : Nat) (μ : zM) (pc : Nat) (L : List (Nat × zV)) (st : List zV) : Prop := match X with
  | (p, l, e, R, s, m, args, below, meth, c, Q, A, G, cells, slots) => zRM μ → ∀ (H : Heap) (locs : List Loc) (ls : Array Slot), va_P G.1 vwCl (zW G μ) H → va_S A s.heap H locs → lv_has ls nL (L.map (zlv G)) → W p l e R s m args below meth c H locs cells slots Q (F0 m pc ls (st.map (zv G)))
def zC (X : zX) (nL : Nat) (cc : ByteArray) (own : String) (Ts : List Cond) (f nw : Nat) : Prop := match X with
  | (p, _, _, R, s, m, args, _, _, c, _, A, G, cells, slots) => p.tables.exec = Jvm.exec ∧ c.code = cc ∧ c.maxLocals = nL ∧ s.vm.findClass own = some m.cls ∧ (∀ w ∈ Ts, w.before args s = true) ∧ (∀ w ∈ zBIG, w ∈ Ts) ∧ (∀ q, s.heap.size ≤ q → A q) ∧ va_D A (zW G (fun _ _ => 0)) ∧ zE G A s s.heap ∧ (f ≤ R.frames ∧ nw ≤ R.locals ∧ cells ≤ R.cells ∧ slots ≤ R.slots)
/-- a local, set -/
def zput (i : Nat) (v : zV) : List (Nat × zV) → List (Nat × zV)
  | [] => [(i, v)]
  | q :: t => match Nat.beq q.1 i with
    | true => (i, v) :: t.filter (fun q => !(Nat.beq q.1 i))
    | false => q :: zput i v t
theorem zput_mem {i : Nat} {v : zV} {q : Nat × zV} : ∀ {l : List (Nat × zV)}, q ∈ zput i v l → q = (i, v) ∨ (q ∈ l ∧ ¬ q.1 = i)
  | [], h => by
    left
    simpa [zput] using h
  | p :: t, h => by
    unfold zput at h
    cases hb : Nat.beq p.1 i with
    | true =>
      rw [hb] at h
      rcases List.mem_cons.mp h with h | h
      · exact Or.inl h
      · obtain ⟨h1, h2⟩ := List.mem_filter.mp h
        refine Or.inr ⟨List.mem_cons_of_mem _ h1, fun e => ?_⟩
        rw [e] at h2
        simp at h2
    | false =>
      rw [hb] at h
      rcases List.mem_cons.mp h with h | h
      · subst h
        exact Or.inr ⟨List.mem_cons_self, fun e => by rw [e] at hb; simp at hb⟩
      · rcases zput_mem h with h | ⟨h1, h2⟩
        · exact Or.inl h
        · exact Or.inr ⟨List.mem_cons_of_mem _ h1, h2⟩
theorem zput_has {G : zG} {ls : Array Slot} {nL i : Nat} {v : zV} {L : List (Nat × zV)} (h : lv_has ls nL ((i, zv G v) :: (L.map (zlv G)).filter (fun q => !(q.1 == i) && !(q.1 + 1 == i && q.2.category == 2)))) : lv_has ls nL ((zput i v L).map (zlv G)) := by
  refine ⟨h.1, h.2.1, fun q hq => ?_⟩
  obtain ⟨q0, h0, rfl⟩ := List.mem_map.mp hq
  refine h.2.2 _ ?_
  rcases zput_mem h0 with rfl | ⟨h1, h2⟩
  · exact List.mem_cons_self
  · refine List.mem_cons_of_mem _ (List.mem_filter.mpr ⟨List.mem_map.mpr ⟨q0, h1, rfl⟩, ?_⟩)
    have hc : (zv G q0.2).category = 1 := zv_cat G q0.2
    simp [zlv, h2, hc]
section ZR1
variable {X : zX} {nL : Nat} {cc : ByteArray} {own : String} {Ts : List Cond} {f nw : Nat} {μ : zM} {pc : Nat} {L L' : List (Nat × zV)} {st : List zV}
theorem z_iconst (C : zC X nL cc own Ts f nw) {n : Int} (d : decode cc pc = .ok (.iconst n, 1)) (K : zJ X nL μ (pc + 1) L (.inl n :: st)) : zJ X nL μ pc L st := by
  obtain ⟨p, l, e, R, s, m, args, below, meth, c, Q, A, G, cells, slots⟩ := X
  obtain ⟨hx, hb, -⟩ := C
  intro hr H locs ls hP hS hl
  exact lv_iconst hx hb d rfl (K hr H locs ls hP hS hl)
theorem z_bipush (C : zC X nL cc own Ts f nw) {n : Int} (d : decode cc pc = .ok (.bipush n, 2)) (hn : (Int8.ofInt n).toInt32 = iI n) (K : zJ X nL μ (pc + 2) L (.inl n :: st)) : zJ X nL μ pc L st := by
  obtain ⟨p, l, e, R, s, m, args, below, meth, c, Q, A, G, cells, slots⟩ := X
  obtain ⟨hx, hb, -⟩ := C
  intro hr H locs ls hP hS hl
  exact lv_bipush hx hb d hn (K hr H locs ls hP hS hl)
theorem z_sipush (C : zC X nL cc own Ts f nw) {n : Int} (d : decode cc pc = .ok (.sipush n, 3)) (hn : (Int16.ofInt n).toInt32 = iI n) (K : zJ X nL μ (pc + 3) L (.inl n :: st)) : zJ X nL μ pc L st := by
  obtain ⟨p, l, e, R, s, m, args, below, meth, c, Q, A, G, cells, slots⟩ := X
  obtain ⟨hx, hb, -⟩ := C
  intro hr H locs ls hP hS hl
  exact lv_sipush hx hb d hn (K hr H locs ls hP hS hl)
theorem z_ldc (C : zC X nL cc own Ts f nw) {k : Nat} {n : Int} (d : decode cc pc = .ok (.ldc k, 2)) (hw : Cond.constant own k (iI n) ∈ zBIG) (K : zJ X nL μ (pc + 2) L (.inl n :: st)) : zJ X nL μ pc L st := by
  obtain ⟨p, l, e, R, s, m, args, below, meth, c, Q, A, G, cells, slots⟩ := X
  obtain ⟨hx, hb, -, hown, hts, hbig, -⟩ := C
  intro hr H locs ls hP hS hl
  exact lv_ldc hx hb hown (hts _ (hbig _ hw)) d (K hr H locs ls hP hS hl)
theorem z_ldcw (C : zC X nL cc own Ts f nw) {k : Nat} {n : Int} (d : decode cc pc = .ok (.ldc_w k, 3)) (hw : Cond.constant own k (iI n) ∈ zBIG) (K : zJ X nL μ (pc + 3) L (.inl n :: st)) : zJ X nL μ pc L st := by
  obtain ⟨p, l, e, R, s, m, args, below, meth, c, Q, A, G, cells, slots⟩ := X
  obtain ⟨hx, hb, -, hown, hts, hbig, -⟩ := C
  intro hr H locs ls hP hS hl
  exact lv_ldcw hx hb hown (hts _ (hbig _ hw)) d (K hr H locs ls hP hS hl)
theorem z_at {G : zG} {ls : Array Slot} (hl : lv_has ls nL (L.map (zlv G))) (k : Nat) {i : Nat} {v : zV} (h : L[k]? = some (i, v)) : ls[i]? = some (.val (zv G v)) := lv_at hl k (by rw [List.getElem?_map, h]; rfl)
theorem z_iload_n (C : zC X nL cc own Ts f nw) {k : Fin 4} {z : Int} (d : decode cc pc = .ok (.iload_n k, 1)) (j : Nat) (h : L[j]? = some ((k : Nat), .inl z)) (K : zJ X nL μ (pc + 1) L (.inl z :: st)) : zJ X nL μ pc L st := by
  obtain ⟨p, l, e, R, s, m, args, below, meth, c, Q, A, G, cells, slots⟩ := X
  obtain ⟨hx, hb, -⟩ := C
  intro hr H locs ls hP hS hl
  exact lv_iload_n hx hb d rfl (z_at hl j h) (K hr H locs ls hP hS hl)
theorem z_iload (C : zC X nL cc own Ts f nw) {k : Nat} {z : Int} (d : decode cc pc = .ok (.iload k, 2)) (j : Nat) (h : L[j]? = some (k, .inl z)) (K : zJ X nL μ (pc + 2) L (.inl z :: st)) : zJ X nL μ pc L st := by
  obtain ⟨p, l, e, R, s, m, args, below, meth, c, Q, A, G, cells, slots⟩ := X
  obtain ⟨hx, hb, -⟩ := C
  intro hr H locs ls hP hS hl
  exact lv_iload hx hb d (z_at hl j h) (K hr H locs ls hP hS hl)
theorem z_aload_n (C : zC X nL cc own Ts f nw) {k : Fin 4} {i : Nat} (d : decode cc pc = .ok (.aload_n k, 1)) (j : Nat) (h : L[j]? = some ((k : Nat), .inr i)) (K : zJ X nL μ (pc + 1) L (.inr i :: st)) : zJ X nL μ pc L st := by
  obtain ⟨p, l, e, R, s, m, args, below, meth, c, Q, A, G, cells, slots⟩ := X
  obtain ⟨hx, hb, -⟩ := C
  intro hr H locs ls hP hS hl
  exact lv_aload_n hx hb d rfl (z_at hl j h) (K hr H locs ls hP hS hl)
theorem z_istore_n (C : zC X nL cc own Ts f nw) {k : Fin 4} {z : Int} (d : decode cc pc = .ok (.istore_n k, 1)) (hn : (k : Nat) < nL) (hL : zput (k : Nat) (.inl z) L = L') (K : zJ X nL μ (pc + 1) L' st) : zJ X nL μ pc L (.inl z :: st) := by
  obtain ⟨p, l, e, R, s, m, args, below, meth, c, Q, A, G, cells, slots⟩ := X
  obtain ⟨hx, hb, -⟩ := C
  intro hr H locs ls hP hS hl
  subst hL
  exact lv_istore_n hx hb d rfl hl hn rfl (fun ls' hl' => K hr H locs ls' hP hS (zput_has (v := .inl z) hl'))
theorem z_istore (C : zC X nL cc own Ts f nw) {k : Nat} {z : Int} (d : decode cc pc = .ok (.istore k, 2)) (hn : k < nL) (hL : zput k (.inl z) L = L') (K : zJ X nL μ (pc + 2) L' st) : zJ X nL μ pc L (.inl z :: st) := by
  obtain ⟨p, l, e, R, s, m, args, below, meth, c, Q, A, G, cells, slots⟩ := X
  obtain ⟨hx, hb, -⟩ := C
  intro hr H locs ls hP hS hl
  subst hL
  exact lv_istore hx hb d hl hn rfl (fun ls' hl' => K hr H locs ls' hP hS (zput_has (v := .inl z) hl'))
theorem z_astore_n (C : zC X nL cc own Ts f nw) {k : Fin 4} {i : Nat} (d : decode cc pc = .ok (.astore_n k, 1)) (hn : (k : Nat) < nL) (hL : zput (k : Nat) (.inr i) L = L') (K : zJ X nL μ (pc + 1) L' st) : zJ X nL μ pc L (.inr i :: st) := by
  obtain ⟨p, l, e, R, s, m, args, below, meth, c, Q, A, G, cells, slots⟩ := X
  obtain ⟨hx, hb, -⟩ := C
  intro hr H locs ls hP hS hl
  subst hL
  exact lv_astore_n hx hb d rfl hl hn rfl (fun ls' hl' => K hr H locs ls' hP hS (zput_has (v := .inr i) hl'))
theorem z_iinc (C : zC X nL cc own Ts f nw) {k : Nat} {n z : Int} (d : decode cc pc = .ok (.iinc k n, 3)) (j : Nat) (h : L[j]? = some (k, .inl z)) (hn : k < nL) (hL : zput k (.inl (z + n)) L = L') (K : zJ X nL μ (pc + 3) L' st) : zJ X nL μ pc L st := by
  obtain ⟨p, l, e, R, s, m, args, below, meth, c, Q, A, G, cells, slots⟩ := X
  obtain ⟨hx, hb, -⟩ := C
  intro hr H locs ls hP hS hl
  subst hL
  exact lv_iinc hx hb d hl (k := j) (x := iI z) (v := iI (z + n)) (by rw [List.getElem?_map, h]; rfl) (iI_add z n) hn rfl (fun ls' hl' => K hr H locs ls' hP hS (zput_has (v := .inl (z + n)) hl'))
theorem z_iadd (C : zC X nL cc own Ts f nw) {a b : Int} (d : decode cc pc = .ok (.iadd, 1)) (K : zJ X nL μ (pc + 1) L (.inl (a + b) :: st)) : zJ X nL μ pc L (.inl b :: .inl a :: st) := by
  obtain ⟨p, l, e, R, s, m, args, below, meth, c, Q, A, G, cells, slots⟩ := X
  obtain ⟨hx, hb, -⟩ := C
  intro hr H locs ls hP hS hl
  refine lv_iadd (x := iI a) (y := iI b) hx hb d ?_
  rw [iI_add]
  exact K hr H locs ls hP hS hl
theorem z_isub (C : zC X nL cc own Ts f nw) {a b : Int} (d : decode cc pc = .ok (.isub, 1)) (K : zJ X nL μ (pc + 1) L (.inl (a - b) :: st)) : zJ X nL μ pc L (.inl b :: .inl a :: st) := by
  obtain ⟨p, l, e, R, s, m, args, below, meth, c, Q, A, G, cells, slots⟩ := X
  obtain ⟨hx, hb, -⟩ := C
  intro hr H locs ls hP hS hl
  refine lv_isub (x := iI a) (y := iI b) hx hb d ?_
  rw [iI_sub]
  exact K hr H locs ls hP hS hl
theorem z_imul (C : zC X nL cc own Ts f nw) {a b : Int} (d : decode cc pc = .ok (.imul, 1)) (K : zJ X nL μ (pc + 1) L (.inl (a * b) :: st)) : zJ X nL μ pc L (.inl b :: .inl a :: st) := by
  obtain ⟨p, l, e, R, s, m, args, below, meth, c, Q, A, G, cells, slots⟩ := X
  obtain ⟨hx, hb, -⟩ := C
  intro hr H locs ls hP hS hl
  refine lv_imul (x := iI a) (y := iI b) hx hb d ?_
  rw [iI_mul]
  exact K hr H locs ls hP hS hl
theorem z_ineg (C : zC X nL cc own Ts f nw) {a : Int} (d : decode cc pc = .ok (.ineg, 1)) (K : zJ X nL μ (pc + 1) L (.inl (-a) :: st)) : zJ X nL μ pc L (.inl a :: st) := by
  obtain ⟨p, l, e, R, s, m, args, below, meth, c, Q, A, G, cells, slots⟩ := X
  obtain ⟨hx, hb, -⟩ := C
  intro hr H locs ls hP hS hl
  refine lv_ineg (x := iI a) hx hb d ?_
  rw [iI_neg]
  exact K hr H locs ls hP hS hl
theorem z_idiv (C : zC X nL cc own Ts f nw) {a b : Int} (d : decode cc pc = .ok (.idiv, 1)) (h : (0 ≤ a ∧ a < 2147483648) ∧ 0 < b ∧ b < 2147483648) (K : zJ X nL μ (pc + 1) L (.inl (a / b) :: st)) : zJ X nL μ pc L (.inl b :: .inl a :: st) := by
  obtain ⟨p, l, e, R, s, m, args, below, meth, c, Q, A, G, cells, slots⟩ := X
  obtain ⟨hx, hb, -⟩ := C
  intro hr H locs ls hP hS hl
  have ha : zR a := ⟨by omega, by omega⟩
  have hb' : zR b := ⟨by omega, by omega⟩
  refine lv_idiv (x := iI a) (y := iI b) hx hb d (fun z => by rw [← iI_0, iI_eq hb' ⟨by omega, by omega⟩] at z; omega) ?_
  rw [iI_div ha hb' h.1.1 h.2.1]
  exact K hr H locs ls hP hS hl
theorem z_irem (C : zC X nL cc own Ts f nw) {a b : Int} (d : decode cc pc = .ok (.irem, 1)) (h : (0 ≤ a ∧ a < 2147483648) ∧ 0 < b ∧ b < 2147483648) (K : zJ X nL μ (pc + 1) L (.inl (a % b) :: st)) : zJ X nL μ pc L (.inl b :: .inl a :: st) := by
  obtain ⟨p, l, e, R, s, m, args, below, meth, c, Q, A, G, cells, slots⟩ := X
  obtain ⟨hx, hb, -⟩ := C
  intro hr H locs ls hP hS hl
  have ha : zR a := ⟨by omega, by omega⟩
  have hb' : zR b := ⟨by omega, by omega⟩
  refine lv_irem (x := iI a) (y := iI b) hx hb d (fun z => by rw [← iI_0, iI_eq hb' ⟨by omega, by omega⟩] at z; omega) ?_
  rw [iI_rem ha hb' h.1.1 h.2.1]
  exact K hr H locs ls hP hS hl
theorem z_iand (C : zC X nL cc own Ts f nw) {a b : Int} (d : decode cc pc = .ok (.iand, 1)) (K : zJ X nL μ (pc + 1) L (.inl (zand a b) :: st)) : zJ X nL μ pc L (.inl b :: .inl a :: st) := by
  obtain ⟨p, l, e, R, s, m, args, below, meth, c, Q, A, G, cells, slots⟩ := X
  obtain ⟨hx, hb, -⟩ := C
  intro hr H locs ls hP hS hl
  refine lv_iand (x := iI a) (y := iI b) hx hb d ?_
  rw [← iI_of (iI a &&& iI b)]
  exact K hr H locs ls hP hS hl
theorem z_ior (C : zC X nL cc own Ts f nw) {a b : Int} (d : decode cc pc = .ok (.ior, 1)) (K : zJ X nL μ (pc + 1) L (.inl (zor a b) :: st)) : zJ X nL μ pc L (.inl b :: .inl a :: st) := by
  obtain ⟨p, l, e, R, s, m, args, below, meth, c, Q, A, G, cells, slots⟩ := X
  obtain ⟨hx, hb, -⟩ := C
  intro hr H locs ls hP hS hl
  refine lv_ior (x := iI a) (y := iI b) hx hb d ?_
  rw [← iI_of (iI a ||| iI b)]
  exact K hr H locs ls hP hS hl
theorem z_ixor (C : zC X nL cc own Ts f nw) {a b : Int} (d : decode cc pc = .ok (.ixor, 1)) (K : zJ X nL μ (pc + 1) L (.inl (zxor a b) :: st)) : zJ X nL μ pc L (.inl b :: .inl a :: st) := by
  obtain ⟨p, l, e, R, s, m, args, below, meth, c, Q, A, G, cells, slots⟩ := X
  obtain ⟨hx, hb, -⟩ := C
  intro hr H locs ls hP hS hl
  refine lv_ixor (x := iI a) (y := iI b) hx hb d ?_
  rw [← iI_of (iI a ^^^ iI b)]
  exact K hr H locs ls hP hS hl
theorem z_ishl (C : zC X nL cc own Ts f nw) {a b : Int} (d : decode cc pc = .ok (.ishl, 1)) (K : zJ X nL μ (pc + 1) L (.inl (zshl a b) :: st)) : zJ X nL μ pc L (.inl b :: .inl a :: st) := by
  obtain ⟨p, l, e, R, s, m, args, below, meth, c, Q, A, G, cells, slots⟩ := X
  obtain ⟨hx, hb, -⟩ := C
  intro hr H locs ls hP hS hl
  refine lv_ishl (x := iI a) (y := iI b) hx hb d ?_
  rw [← iI_of (iI a <<< (iI b &&& 31))]
  exact K hr H locs ls hP hS hl
theorem z_ishr (C : zC X nL cc own Ts f nw) {a b : Int} (d : decode cc pc = .ok (.ishr, 1)) (K : zJ X nL μ (pc + 1) L (.inl (zshr a b) :: st)) : zJ X nL μ pc L (.inl b :: .inl a :: st) := by
  obtain ⟨p, l, e, R, s, m, args, below, meth, c, Q, A, G, cells, slots⟩ := X
  obtain ⟨hx, hb, -⟩ := C
  intro hr H locs ls hP hS hl
  refine lv_ishr (x := iI a) (y := iI b) hx hb d ?_
  rw [← iI_of (iI a >>> (iI b &&& 31))]
  exact K hr H locs ls hP hS hl
theorem z_i2c (C : zC X nL cc own Ts f nw) {a : Int} (d : decode cc pc = .ok (.i2c, 1)) (h : 0 ≤ a ∧ a < 65536) (K : zJ X nL μ (pc + 1) L (.inl a :: st)) : zJ X nL μ pc L (.inl a :: st) := by
  obtain ⟨p, l, e, R, s, m, args, below, meth, c, Q, A, G, cells, slots⟩ := X
  obtain ⟨hx, hb, -⟩ := C
  intro hr H locs ls hP hS hl
  refine lv_i2c (x := iI a) (v := iI a) hx hb d ?_ (K hr H locs ls hP hS hl)
  obtain ⟨n, rfl⟩ : ∃ n : Nat, a = (n : Int) := ⟨a.toNat, by omega⟩
  have e1 : iI (n : Int) = nI n := Int32.ofInt_eq_ofNat
  rw [e1, pk_char, pk_tn (by omega), Nat.mod_eq_of_lt (by omega)]
theorem z_dup (C : zC X nL cc own Ts f nw) {v : zV} (d : decode cc pc = .ok (.dup, 1)) (K : zJ X nL μ (pc + 1) L (v :: v :: st)) : zJ X nL μ pc L (v :: st) := by
  obtain ⟨p, l, e, R, s, m, args, below, meth, c, Q, A, G, cells, slots⟩ := X
  obtain ⟨hx, hb, -⟩ := C
  intro hr H locs ls hP hS hl
  exact lv_dup hx hb d (zv_cat G v) (K hr H locs ls hP hS hl)
theorem z_dup2 (C : zC X nL cc own Ts f nw) {u v : zV} (d : decode cc pc = .ok (.dup2, 1)) (K : zJ X nL μ (pc + 1) L (v :: u :: v :: u :: st)) : zJ X nL μ pc L (v :: u :: st) := by
  obtain ⟨p, l, e, R, s, m, args, below, meth, c, Q, A, G, cells, slots⟩ := X
  obtain ⟨hx, hb, -⟩ := C
  intro hr H locs ls hP hS hl
  exact lv_dup2_11 hx hb d (zv_cat G v) (zv_cat G u) (K hr H locs ls hP hS hl)
theorem z_pop (C : zC X nL cc own Ts f nw) {v : zV} (d : decode cc pc = .ok (.pop, 1)) (K : zJ X nL μ (pc + 1) L st) : zJ X nL μ pc L (v :: st) := by
  obtain ⟨p, l, e, R, s, m, args, below, meth, c, Q, A, G, cells, slots⟩ := X
  obtain ⟨hx, hb, -⟩ := C
  intro hr H locs ls hP hS hl
  exact lv_pop hx hb d (zv_cat G v) (K hr H locs ls hP hS hl)
theorem z_goto (C : zC X nL cc own Ts f nw) {off : Int} {tgt : Nat} (d : decode cc pc = .ok (.goto off, 3)) (ht : (pc : Int) + off = (tgt : Int)) (K : zJ X nL μ tgt L st) : zJ X nL μ pc L st := by
  obtain ⟨p, l, e, R, s, m, args, below, meth, c, Q, A, G, cells, slots⟩ := X
  obtain ⟨hx, hb, -⟩ := C
  intro hr H locs ls hP hS hl
  exact lv_goto hx hb d ht (K hr H locs ls hP hS hl)
/-- the top named anew; the memory named; the top as the machine holds it -/
theorem z_top {a : Int} (K : ∀ b : Int, b = a → zJ X nL μ pc L (.inl b :: st)) : zJ X nL μ pc L (.inl a :: st) := K a rfl
theorem z_mem (K : ∀ μ' : zM, μ' = μ → zJ X nL μ' pc L st) : zJ X nL μ pc L st := K μ rfl
theorem z_wrap {a : Int} (K : zJ X nL μ pc L (.inl (zw a) :: st)) : zJ X nL μ pc L (.inl a :: st) := by
  obtain ⟨p, l, e, R, s, m, args, below, meth, c, Q, A, G, cells, slots⟩ := X
  intro hr H locs ls hP hS hl
  have h := K hr H locs ls hP hS hl
  have e1 : zv G (.inl (zw a)) = zv G (.inl a) := by
    show Value.int (iI (zw a)) = Value.int (iI a)
    rw [zw_iI]
  rw [List.map_cons, e1] at h
  exact h
theorem z_R (K : zRM μ → zJ X nL μ pc L st) : zJ X nL μ pc L st := by
  obtain ⟨p, l, e, R, s, m, args, below, meth, c, Q, A, G, cells, slots⟩ := X
  intro hr
  exact K hr hr
end ZR1
end
section
/-! rows of zJ: branches, fields, rows of ints -/
section ZR2
variable {X : zX} {nL : Nat} {cc : ByteArray} {own : String} {Ts : List Cond} {f nw : Nat} {μ : zM} {pc : Nat} {L L' : List (Nat × zV)} {st : List zV}
theorem z_icmp_eq (C : zC X nL cc own Ts f nw) {a b : Int} {off : Int} {tgt : Nat} (d : decode cc pc = .ok (.if_icmp .eq off, 3)) (ht : (pc : Int) + off = (tgt : Int)) (hA : zR a) (hB : zR b) (kt : a = b → zJ X nL μ tgt L st) (kf : ¬ a = b → zJ X nL μ (pc + 3) L st) : zJ X nL μ pc L (.inl b :: .inl a :: st) := by
  obtain ⟨p, l, e, R, s, m, args, below, meth, c, Q, A, G, cells, slots⟩ := X
  obtain ⟨hx, hb, -⟩ := C
  intro hr H locs ls hP hS hl
  exact lv_icmp_eq (x := iI a) (y := iI b) hx hb d ht (fun h => kt (by first | exact (iI_eq hA hB).mp h | (have := (iI_eq hA hB).mp h; omega)) hr H locs ls hP hS hl) (fun h => kf (by have := mt (iI_eq hA hB).mpr h; first | exact this | omega) hr H locs ls hP hS hl)
theorem z_if_eq (C : zC X nL cc own Ts f nw) {a : Int} {off : Int} {tgt : Nat} (d : decode cc pc = .ok (.ifCond .eq off, 3)) (ht : (pc : Int) + off = (tgt : Int)) (hA : zR a) (kt : a = 0 → zJ X nL μ tgt L st) (kf : ¬ a = 0 → zJ X nL μ (pc + 3) L st) : zJ X nL μ pc L (.inl a :: st) := by
  obtain ⟨p, l, e, R, s, m, args, below, meth, c, Q, A, G, cells, slots⟩ := X
  obtain ⟨hx, hb, -⟩ := C
  intro hr H locs ls hP hS hl
  have hB : zR 0 := ⟨by omega, by omega⟩
  refine lv_if_eq (x := iI a) hx hb d ht ?_ ?_ <;> rw [← iI_0]
  · exact (fun h => kt (by first | exact (iI_eq hA hB).mp h | (have := (iI_eq hA hB).mp h; omega)) hr H locs ls hP hS hl)
  · exact (fun h => kf (by have := mt (iI_eq hA hB).mpr h; first | exact this | omega) hr H locs ls hP hS hl)
theorem z_icmp_ne (C : zC X nL cc own Ts f nw) {a b : Int} {off : Int} {tgt : Nat} (d : decode cc pc = .ok (.if_icmp .ne off, 3)) (ht : (pc : Int) + off = (tgt : Int)) (hA : zR a) (hB : zR b) (kt : ¬ a = b → zJ X nL μ tgt L st) (kf : a = b → zJ X nL μ (pc + 3) L st) : zJ X nL μ pc L (.inl b :: .inl a :: st) := by
  obtain ⟨p, l, e, R, s, m, args, below, meth, c, Q, A, G, cells, slots⟩ := X
  obtain ⟨hx, hb, -⟩ := C
  intro hr H locs ls hP hS hl
  exact lv_icmp_ne (x := iI a) (y := iI b) hx hb d ht (fun h => kt (by first | exact ((not_congr (iI_eq hA hB))).mp h | (have := ((not_congr (iI_eq hA hB))).mp h; omega)) hr H locs ls hP hS hl) (fun h => kf ((iI_eq hA hB).mp h) hr H locs ls hP hS hl)
theorem z_if_ne (C : zC X nL cc own Ts f nw) {a : Int} {off : Int} {tgt : Nat} (d : decode cc pc = .ok (.ifCond .ne off, 3)) (ht : (pc : Int) + off = (tgt : Int)) (hA : zR a) (kt : ¬ a = 0 → zJ X nL μ tgt L st) (kf : a = 0 → zJ X nL μ (pc + 3) L st) : zJ X nL μ pc L (.inl a :: st) := by
  obtain ⟨p, l, e, R, s, m, args, below, meth, c, Q, A, G, cells, slots⟩ := X
  obtain ⟨hx, hb, -⟩ := C
  intro hr H locs ls hP hS hl
  have hB : zR 0 := ⟨by omega, by omega⟩
  refine lv_if_ne (x := iI a) hx hb d ht ?_ ?_ <;> rw [← iI_0]
  · exact (fun h => kt (by first | exact ((not_congr (iI_eq hA hB))).mp h | (have := ((not_congr (iI_eq hA hB))).mp h; omega)) hr H locs ls hP hS hl)
  · exact (fun h => kf ((iI_eq hA hB).mp h) hr H locs ls hP hS hl)
theorem z_icmp_lt (C : zC X nL cc own Ts f nw) {a b : Int} {off : Int} {tgt : Nat} (d : decode cc pc = .ok (.if_icmp .lt off, 3)) (ht : (pc : Int) + off = (tgt : Int)) (hA : zR a) (hB : zR b) (kt : a < b → zJ X nL μ tgt L st) (kf : b ≤ a → zJ X nL μ (pc + 3) L st) : zJ X nL μ pc L (.inl b :: .inl a :: st) := by
  obtain ⟨p, l, e, R, s, m, args, below, meth, c, Q, A, G, cells, slots⟩ := X
  obtain ⟨hx, hb, -⟩ := C
  intro hr H locs ls hP hS hl
  exact lv_icmp_lt (x := iI a) (y := iI b) hx hb d ht (fun h => kt (by first | exact (iI_lt hA hB).mp h | (have := (iI_lt hA hB).mp h; omega)) hr H locs ls hP hS hl) (fun h => kf (by have := mt (iI_lt hA hB).mpr h; first | exact this | omega) hr H locs ls hP hS hl)
theorem z_if_lt (C : zC X nL cc own Ts f nw) {a : Int} {off : Int} {tgt : Nat} (d : decode cc pc = .ok (.ifCond .lt off, 3)) (ht : (pc : Int) + off = (tgt : Int)) (hA : zR a) (kt : a < 0 → zJ X nL μ tgt L st) (kf : 0 ≤ a → zJ X nL μ (pc + 3) L st) : zJ X nL μ pc L (.inl a :: st) := by
  obtain ⟨p, l, e, R, s, m, args, below, meth, c, Q, A, G, cells, slots⟩ := X
  obtain ⟨hx, hb, -⟩ := C
  intro hr H locs ls hP hS hl
  have hB : zR 0 := ⟨by omega, by omega⟩
  refine lv_if_lt (x := iI a) hx hb d ht ?_ ?_ <;> rw [← iI_0]
  · exact (fun h => kt (by first | exact (iI_lt hA hB).mp h | (have := (iI_lt hA hB).mp h; omega)) hr H locs ls hP hS hl)
  · exact (fun h => kf (by have := mt (iI_lt hA hB).mpr h; first | exact this | omega) hr H locs ls hP hS hl)
theorem z_icmp_ge (C : zC X nL cc own Ts f nw) {a b : Int} {off : Int} {tgt : Nat} (d : decode cc pc = .ok (.if_icmp .ge off, 3)) (ht : (pc : Int) + off = (tgt : Int)) (hA : zR a) (hB : zR b) (kt : b ≤ a → zJ X nL μ tgt L st) (kf : a < b → zJ X nL μ (pc + 3) L st) : zJ X nL μ pc L (.inl b :: .inl a :: st) := by
  obtain ⟨p, l, e, R, s, m, args, below, meth, c, Q, A, G, cells, slots⟩ := X
  obtain ⟨hx, hb, -⟩ := C
  intro hr H locs ls hP hS hl
  exact lv_icmp_ge (x := iI a) (y := iI b) hx hb d ht (fun h => kt (by first | exact (iI_le hB hA).mp h | (have := (iI_le hB hA).mp h; omega)) hr H locs ls hP hS hl) (fun h => kf (by have := mt (iI_le hB hA).mpr h; first | exact this | omega) hr H locs ls hP hS hl)
theorem z_if_ge (C : zC X nL cc own Ts f nw) {a : Int} {off : Int} {tgt : Nat} (d : decode cc pc = .ok (.ifCond .ge off, 3)) (ht : (pc : Int) + off = (tgt : Int)) (hA : zR a) (kt : 0 ≤ a → zJ X nL μ tgt L st) (kf : a < 0 → zJ X nL μ (pc + 3) L st) : zJ X nL μ pc L (.inl a :: st) := by
  obtain ⟨p, l, e, R, s, m, args, below, meth, c, Q, A, G, cells, slots⟩ := X
  obtain ⟨hx, hb, -⟩ := C
  intro hr H locs ls hP hS hl
  have hB : zR 0 := ⟨by omega, by omega⟩
  refine lv_if_ge (x := iI a) hx hb d ht ?_ ?_ <;> rw [← iI_0]
  · exact (fun h => kt (by first | exact (iI_le hB hA).mp h | (have := (iI_le hB hA).mp h; omega)) hr H locs ls hP hS hl)
  · exact (fun h => kf (by have := mt (iI_le hB hA).mpr h; first | exact this | omega) hr H locs ls hP hS hl)
theorem z_icmp_gt (C : zC X nL cc own Ts f nw) {a b : Int} {off : Int} {tgt : Nat} (d : decode cc pc = .ok (.if_icmp .gt off, 3)) (ht : (pc : Int) + off = (tgt : Int)) (hA : zR a) (hB : zR b) (kt : b < a → zJ X nL μ tgt L st) (kf : a ≤ b → zJ X nL μ (pc + 3) L st) : zJ X nL μ pc L (.inl b :: .inl a :: st) := by
  obtain ⟨p, l, e, R, s, m, args, below, meth, c, Q, A, G, cells, slots⟩ := X
  obtain ⟨hx, hb, -⟩ := C
  intro hr H locs ls hP hS hl
  exact lv_icmp_gt (x := iI a) (y := iI b) hx hb d ht (fun h => kt (by first | exact (iI_lt hB hA).mp h | (have := (iI_lt hB hA).mp h; omega)) hr H locs ls hP hS hl) (fun h => kf (by have := mt (iI_lt hB hA).mpr h; first | exact this | omega) hr H locs ls hP hS hl)
theorem z_if_gt (C : zC X nL cc own Ts f nw) {a : Int} {off : Int} {tgt : Nat} (d : decode cc pc = .ok (.ifCond .gt off, 3)) (ht : (pc : Int) + off = (tgt : Int)) (hA : zR a) (kt : 0 < a → zJ X nL μ tgt L st) (kf : a ≤ 0 → zJ X nL μ (pc + 3) L st) : zJ X nL μ pc L (.inl a :: st) := by
  obtain ⟨p, l, e, R, s, m, args, below, meth, c, Q, A, G, cells, slots⟩ := X
  obtain ⟨hx, hb, -⟩ := C
  intro hr H locs ls hP hS hl
  have hB : zR 0 := ⟨by omega, by omega⟩
  refine lv_if_gt (x := iI a) hx hb d ht ?_ ?_ <;> rw [← iI_0]
  · exact (fun h => kt (by first | exact (iI_lt hB hA).mp h | (have := (iI_lt hB hA).mp h; omega)) hr H locs ls hP hS hl)
  · exact (fun h => kf (by have := mt (iI_lt hB hA).mpr h; first | exact this | omega) hr H locs ls hP hS hl)
theorem z_icmp_le (C : zC X nL cc own Ts f nw) {a b : Int} {off : Int} {tgt : Nat} (d : decode cc pc = .ok (.if_icmp .le off, 3)) (ht : (pc : Int) + off = (tgt : Int)) (hA : zR a) (hB : zR b) (kt : a ≤ b → zJ X nL μ tgt L st) (kf : b < a → zJ X nL μ (pc + 3) L st) : zJ X nL μ pc L (.inl b :: .inl a :: st) := by
  obtain ⟨p, l, e, R, s, m, args, below, meth, c, Q, A, G, cells, slots⟩ := X
  obtain ⟨hx, hb, -⟩ := C
  intro hr H locs ls hP hS hl
  exact lv_icmp_le (x := iI a) (y := iI b) hx hb d ht (fun h => kt (by first | exact (iI_le hA hB).mp h | (have := (iI_le hA hB).mp h; omega)) hr H locs ls hP hS hl) (fun h => kf (by have := mt (iI_le hA hB).mpr h; first | exact this | omega) hr H locs ls hP hS hl)
theorem z_if_le (C : zC X nL cc own Ts f nw) {a : Int} {off : Int} {tgt : Nat} (d : decode cc pc = .ok (.ifCond .le off, 3)) (ht : (pc : Int) + off = (tgt : Int)) (hA : zR a) (kt : a ≤ 0 → zJ X nL μ tgt L st) (kf : 0 < a → zJ X nL μ (pc + 3) L st) : zJ X nL μ pc L (.inl a :: st) := by
  obtain ⟨p, l, e, R, s, m, args, below, meth, c, Q, A, G, cells, slots⟩ := X
  obtain ⟨hx, hb, -⟩ := C
  intro hr H locs ls hP hS hl
  have hB : zR 0 := ⟨by omega, by omega⟩
  refine lv_if_le (x := iI a) hx hb d ht ?_ ?_ <;> rw [← iI_0]
  · exact (fun h => kt (by first | exact (iI_le hA hB).mp h | (have := (iI_le hA hB).mp h; omega)) hr H locs ls hP hS hl)
  · exact (fun h => kf (by have := mt (iI_le hA hB).mpr h; first | exact this | omega) hr H locs ls hP hS hl)
theorem z_tabIn (C : zC X nL cc own Ts f nw) {x dflt lo hi : Int} {offs : Array Int} {len : Nat} {off : Int} {tgt : Nat} (d : decode cc pc = .ok (.tableswitch dflt lo hi offs, len)) (hx : zR x) (k : Nat) (h : x = lo + (k : Int)) (h2 : x ≤ hi) (ho : offs[k]? = some off) (ht : (pc : Int) + off = (tgt : Int)) (K : zJ X nL μ tgt L st) : zJ X nL μ pc L (.inl x :: st) := by
  have hA := hx
  obtain ⟨p, l, e, R, s, m, args, below, meth, c, Q, A, G, cells, slots⟩ := X
  obtain ⟨hx, hb, -⟩ := C
  intro hr H locs ls hP hS hl
  have e1 : (iI x).toInt = x := iI_toInt hA
  exact lv_tableIn (x := iI x) hx hb d (by rw [e1]; omega) (by rw [e1]; omega) (by rw [e1, show (x - lo).toNat = k by omega]; exact ho) ht (K hr H locs ls hP hS hl)
theorem z_tabOut (C : zC X nL cc own Ts f nw) {x dflt lo hi : Int} {offs : Array Int} {len : Nat} {tgt : Nat} (d : decode cc pc = .ok (.tableswitch dflt lo hi offs, len)) (hx : zR x) (h : x < lo ∨ hi < x) (ht : (pc : Int) + dflt = (tgt : Int)) (K : zJ X nL μ tgt L st) : zJ X nL μ pc L (.inl x :: st) := by
  have hA := hx
  obtain ⟨p, l, e, R, s, m, args, below, meth, c, Q, A, G, cells, slots⟩ := X
  obtain ⟨hx, hb, -⟩ := C
  intro hr H locs ls hP hS hl
  have e1 : (iI x).toInt = x := iI_toInt hA
  exact lv_tableOut (x := iI x) hx hb d (by rw [e1]; exact h) ht (K hr H locs ls hP hS hl)
theorem z_look (C : zC X nL cc own Ts f nw) {x dflt : Int} {ps : Array (Int × Int)} {len : Nat} {off : Int} {tgt : Nat} (d : decode cc pc = .ok (.lookupswitch dflt ps, len)) (hx : zR x) (hp : (ps.toList.zip (ps.toList.drop 1)).all (fun (a, next) => a.1 < next.1) = true) (ho : Op.lookupswitch.offset ps.toList dflt x = off) (ht : (pc : Int) + off = (tgt : Int)) (K : zJ X nL μ tgt L st) : zJ X nL μ pc L (.inl x :: st) := by
  have hA := hx
  obtain ⟨p, l, e, R, s, m, args, below, meth, c, Q, A, G, cells, slots⟩ := X
  obtain ⟨hx, hb, -⟩ := C
  intro hr H locs ls hP hS hl
  exact lv_lookup (x := iI x) hx hb d hp (by rw [iI_toInt hA]; exact ho) ht (K hr H locs ls hP hS hl)
/-- a field as an instruction names it: the class's number, the field's place -/
def zF (own : String) (idx ci k : Nat) : Prop := ∃ (q : vw_C), vwCl[ci]? = some q ∧ k < q.2.2 ∧ (∀ w ∈ u_ws q.1 q.2.1 q.2.2, w ∈ zBIG) ∧ Cond.fieldLink own idx (q.2.1 k).1 (q.2.1 k).2.1 (q.2.1 k).2.2.1 ∈ zBIG
/-- a field of ints that may be written -/
def zFp (ci k : Nat) (ty : FieldType) : Prop := ∃ (q : vw_C) (ty0 : Nat → FieldType), vwCl[ci]? = some q ∧ (∀ k, k < q.2.2 → parseFieldDescriptor (q.2.1 k).2.2.1 = some (ty0 k)) ∧ (∀ a, a < q.2.2 → ∀ b, b < q.2.2 → a ≠ b → (q.2.1 a).2.1 ≠ (q.2.1 b).2.1) ∧ (q.2.1 k).2.2.2 = false ∧ ty0 k = ty
theorem z_getI (C : zC X nL cc own Ts f nw) {idx ci k i : Nat} {ks : List (Option Nat)} (F : zF own idx ci k) (d : decode cc pc = .ok (.getfield idx, 3)) (hi : i < 68) (hd : zd i = .inl (ci, ks)) (hk : ks[k]? = some none) (kz : Int) (hkz : kz = (k : Int)) (K : zR (μ i kz) → zJ X nL μ (pc + 3) L (.inl (μ i kz) :: st)) : zJ X nL μ pc L (.inr i :: st) := by
  obtain ⟨p, l, e, R, s, m, args, below, meth, c, Q, A, G, cells, slots⟩ := X
  obtain ⟨hx, hb, -, hown, hts, hbig, -, -, hE, -⟩ := C
  obtain ⟨⟨Cn, T, N⟩, h1, h2, h3, h4⟩ := F
  intro hr H locs ls hP hS hl
  have hg := zW_get G μ hi
  rw [hd] at hg
  refine va_get (C := Cn) (T := T) (N := N) hx hb hts (fun w hw => hbig w (h3 w hw)) hown hE.1 hP i hg h1 k h2 (hts _ (hbig _ h4)) (fun _ h => h) (v := .int (iI (μ i kz))) ?_ d (K (hr i kz) hr H locs ls hP hS hl)
  rw [zfs_int G _ ks 0 k hk, hkz, Nat.zero_add]
theorem z_getR (C : zC X nL cc own Ts f nw) {idx ci k i t : Nat} {ks : List (Option Nat)} (F : zF own idx ci k) (d : decode cc pc = .ok (.getfield idx, 3)) (hi : i < 68) (hd : zd i = .inl (ci, ks)) (hk : ks[k]? = some (some t)) (K : zJ X nL μ (pc + 3) L (.inr t :: st)) : zJ X nL μ pc L (.inr i :: st) := by
  obtain ⟨p, l, e, R, s, m, args, below, meth, c, Q, A, G, cells, slots⟩ := X
  obtain ⟨hx, hb, -, hown, hts, hbig, -, -, hE, -⟩ := C
  obtain ⟨⟨Cn, T, N⟩, h1, h2, h3, h4⟩ := F
  intro hr H locs ls hP hS hl
  have hg := zW_get G μ hi
  rw [hd] at hg
  exact va_get (C := Cn) (T := T) (N := N) hx hb hts (fun w hw => hbig w (h3 w hw)) hown hE.1 hP i hg h1 k h2 (hts _ (hbig _ h4)) (fun _ h => h) (v := .ref (G.2.2.2 t)) (zfs_ref G _ ks 0 k hk) d (K hr H locs ls hP hS hl)
theorem z_putW (C : zC X nL cc own Ts f nw) {idx ci k i : Nat} {v v' : Int} {ty : FieldType} {ks : List (Option Nat)} (F : zF own idx ci k) (Fp : zFp ci k ty) (d : decode cc pc = .ok (.putfield idx, 3)) (hi : i < 68) (hd : zd i = .inl (ci, ks)) (hk : ks[k]? = some none) (kz : Int) (hkz : kz = (k : Int)) (hn : narrow ty (.int (iI v)) = .int (iI v)) (hfit : fits ty (.int (iI v)) = true) (hv : zR v') (hvv : iI v = iI v') (K : zJ X nL (zs μ i kz v') (pc + 3) L st) : zJ X nL μ pc L (.inl v :: .inr i :: st) := by
  obtain ⟨p, l, e, R, s, m, args, below, meth, c, Q, A, G, cells, slots⟩ := X
  obtain ⟨hx, hb, -, hown, hts, hbig, -, hD, hE, -⟩ := C
  obtain ⟨⟨Cn, T, N⟩, h1, h2, h3, h4⟩ := F
  obtain ⟨q, ty0, g1, g2, g3, g4, g5⟩ := Fp
  have hq : q = (Cn, T, N) := Option.some.inj (g1.symm.trans h1)
  subst hq
  intro hr H locs ls hP hS hl
  have hg := zW_get G μ hi
  rw [hd] at hg
  refine va_put (C := Cn) (T := T) (N := N) (A := A) hx hb hts (fun w hw => hbig w (h3 w hw)) ty0 g2 g3 hown hE.1 hP (zD_any μ hD) hS i hg h1 k h2 (hts _ (hbig _ h4)) (fun _ h => h) g4 (v := .int (iI v)) (ty := ty) (by rw [g2 k h2, g5]) hn hfit (by rw [zfs_len]; exact (List.getElem?_eq_some_iff.mp hk).1) d (fun H1 locs1 hP1 hD1 hS1 => ?_)
  refine K (zs_R hr i kz hv) H1 locs1 ls ?_ hS1 hl
  have e1 : (zW G μ).set i (G.2.2.2 i, .inr (ci, (zfs G (μ i) ks 0).set k (.int (iI v)))) = zW G (zs μ i kz v') := by
    rw [← zW_set G μ hi kz v', hd, hvv, zfs_set G (μ i) v' ks 0 k hk, hkz]
    simp only [Nat.zero_add]
    rfl
  rw [← e1]
  exact hP1
theorem z_putI (C : zC X nL cc own Ts f nw) {idx ci k i : Nat} {v : Int} {ks : List (Option Nat)} (F : zF own idx ci k) (Fp : zFp ci k .int) (d : decode cc pc = .ok (.putfield idx, 3)) (hi : i < 68) (hd : zd i = .inl (ci, ks)) (hk : ks[k]? = some none) (kz : Int) (hkz : kz = (k : Int)) (hv : zR v) (K : zJ X nL (zs μ i kz v) (pc + 3) L st) : zJ X nL μ pc L (.inl v :: .inr i :: st) :=
  z_putW C F Fp d hi hd hk kz hkz rfl (by rfl) hv rfl K
theorem z_putIw (C : zC X nL cc own Ts f nw) {idx ci k i : Nat} {v : Int} {ks : List (Option Nat)} (F : zF own idx ci k) (Fp : zFp ci k .int) (d : decode cc pc = .ok (.putfield idx, 3)) (hi : i < 68) (hd : zd i = .inl (ci, ks)) (hk : ks[k]? = some none) (kz : Int) (hkz : kz = (k : Int)) (K : zJ X nL (zs μ i kz (zw v)) (pc + 3) L st) : zJ X nL μ pc L (.inl v :: .inr i :: st) :=
  z_putW C F Fp d hi hd hk kz hkz rfl (by rfl) (zw_R v) (zw_iI v).symm K
theorem z_iald (C : zC X nL cc own Ts f nw) {i n : Nat} {x : Int} (d : decode cc pc = .ok (.iaload, 1)) (hi : i < 68) (hd : zd i = .inr (.inl n)) (h : 0 ≤ x ∧ x < (n : Int)) (hn : n ≤ 100) (K : zR (μ i x) → zJ X nL μ (pc + 1) L (.inl (μ i x) :: st)) : zJ X nL μ pc L (.inl x :: .inr i :: st) := by
  obtain ⟨p, l, e, R, s, m, args, below, meth, c, Q, A, G, cells, slots⟩ := X
  obtain ⟨hx, hb, -, hown, hts, hbig, -, -, hE, -⟩ := C
  intro hr H locs ls hP hS hl
  have hg := zW_get G μ hi
  rw [hd] at hg
  refine va_iald (n := n) (f := fun j => iI (μ i (j : Int))) (i := iI x) hx hb hE.1 hP i 0 hg rfl (iI_in h.1 h.2 (by omega)) d ?_
  rw [iI_clamp h.1 h.2 (by omega), show ((x.toNat : Nat) : Int) = x by omega]
  exact K (hr i x) hr H locs ls hP hS hl
theorem z_iastW (C : zC X nL cc own Ts f nw) {i n : Nat} {x v v' : Int} (d : decode cc pc = .ok (.iastore, 1)) (hi : i < 68) (hd : zd i = .inr (.inl n)) (h : 0 ≤ x ∧ x < (n : Int)) (hn : n ≤ 100) (hv : zR v') (hvv : iI v = iI v') (K : zJ X nL (zs μ i x v') (pc + 1) L st) : zJ X nL μ pc L (.inl v :: .inl x :: .inr i :: st) := by
  obtain ⟨p, l, e, R, s, m, args, below, meth, c, Q, A, G, cells, slots⟩ := X
  obtain ⟨hx, hb, -, hown, hts, hbig, -, hD, hE, -⟩ := C
  intro hr H locs ls hP hS hl
  have hg := zW_get G μ hi
  rw [hd] at hg
  refine va_iast (n := n) (f := fun j => iI (μ i (j : Int))) (i := iI x) (x := iI v) hx hb hE.1 hP (zD_any μ hD) hS i 0 hg rfl (iI_in h.1 h.2 (by omega)) d (fun H1 locs1 hP1 hD1 hS1 => ?_)
  refine K (zs_R hr i x hv) H1 locs1 ls ?_ hS1 hl
  have e1 : (zW G μ).set i (G.2.2.2 i, .inl (G.2.1, n, .inl (upd (fun j => iI (μ i (j : Int))) (iI x).toNatClampNeg (iI v)))) = zW G (zs μ i x v') := by
    rw [← zW_set G μ hi x v', hd, hvv, iI_clamp h.1 h.2 (by omega)]
    have e2 : upd (fun j : Nat => iI (μ i (j : Int))) x.toNat (iI v') = fun j : Nat => iI (if (j : Int) = x then v' else μ i (j : Int)) := by
      funext j
      by_cases hj : j = x.toNat
      · subst hj
        rw [pk_us, if_pos (by omega)]
      · rw [pk_un hj, if_neg (by omega)]
    rw [e2]
    rfl
  rw [← e1]
  exact hP1
theorem z_iast (C : zC X nL cc own Ts f nw) {i n : Nat} {x v : Int} (d : decode cc pc = .ok (.iastore, 1)) (hi : i < 68) (hd : zd i = .inr (.inl n)) (h : 0 ≤ x ∧ x < (n : Int)) (hn : n ≤ 100) (hv : zR v) (K : zJ X nL (zs μ i x v) (pc + 1) L st) : zJ X nL μ pc L (.inl v :: .inl x :: .inr i :: st) :=
  z_iastW C d hi hd h hn hv rfl K
theorem z_iastw (C : zC X nL cc own Ts f nw) {i n : Nat} {x v : Int} (d : decode cc pc = .ok (.iastore, 1)) (hi : i < 68) (hd : zd i = .inr (.inl n)) (h : 0 ≤ x ∧ x < (n : Int)) (hn : n ≤ 100) (K : zJ X nL (zs μ i x (zw v)) (pc + 1) L st) : zJ X nL μ pc L (.inl v :: .inl x :: .inr i :: st) :=
  z_iastW C d hi hd h hn (zw_R v) (zw_iI v).symm K
theorem z_aald (C : zC X nL cc own Ts f nw) {i n b : Nat} {x : Int} (d : decode cc pc = .ok (.aaload, 1)) (hi : i < 68) (hd : zd i = .inr (.inr (n, b))) (h : 0 ≤ x ∧ x < (n : Int)) (hn : n ≤ 100) (K : zJ X nL μ (pc + 1) L (.inr (b + x.toNat) :: st)) : zJ X nL μ pc L (.inl x :: .inr i :: st) := by
  obtain ⟨p, l, e, R, s, m, args, below, meth, c, Q, A, G, cells, slots⟩ := X
  obtain ⟨hx, hb, -, hown, hts, hbig, -, -, hE, -⟩ := C
  intro hr H locs ls hP hS hl
  have hg := zW_get G μ hi
  rw [hd] at hg
  have hcl : (iI x).toNatClampNeg = x.toNat := iI_clamp h.1 h.2 (by omega)
  refine W.aald (v := .ref (G.2.2.2 (b + x.toNat))) (ty := .array .int) (j := iI x) hx hb (hP i _ hg) ((hE.1.2 1 _ rfl).1 n (fun j => va_rf (some (G.2.2.2 (b + j))))) rfl (fun q => by cases q) ?_ ?_ rfl rfl d (K hr H locs ls hP hS hl)
  · show ¬ (iI x < 0 ∨ (arrV _ _ _).slots.size ≤ _)
    rw [arrV_size]
    exact iI_in (n := n) h.1 h.2 (by omega)
  · show (arrV _ n _).slots[_]? = _
    have hlt : (iI x).toNatClampNeg < n := by rw [hcl]; omega
    rw [arrV_read _ _ hlt, hcl]
    rfl
theorem z_alen (C : zC X nL cc own Ts f nw) {i n : Nat} (d : decode cc pc = .ok (.arraylength, 1)) (hi : i < 68) (hd : zd i = .inr (.inl n)) (nz : Int) (hn : nz = (n : Int)) (K : zJ X nL μ (pc + 1) L (.inl nz :: st)) : zJ X nL μ pc L (.inr i :: st) := by
  obtain ⟨p, l, e, R, s, m, args, below, meth, c, Q, A, G, cells, slots⟩ := X
  obtain ⟨hx, hb, -, hown, hts, hbig, -, -, hE, -⟩ := C
  intro hr H locs ls hP hS hl
  have hg := zW_get G μ hi
  rw [hd] at hg
  exact va_alen hx hb hE.1 hP i 0 hg rfl (v := iI nz) (by rw [hn]; exact Int32.ofInt_eq_ofNat.symm) d (K hr H locs ls hP hS hl)
end ZR2
end
section
/-! calls, entries and ends -/
def zent : Nat → List zV → List (Nat × zV)
  | _, [] => []
  | i, v :: vs => (i, v) :: zent (i + 1) vs
theorem zent_args (G : zG) : ∀ (as : List zV) (i : Nat), lv_args i (as.map (zv G)) = (zent i as).map (zlv G)
  | [], _ => rfl
  | v :: vs, i => by
    show (i, zv G v) :: lv_args (if (zv G v).category = 2 then i + 2 else i + 1) (vs.map (zv G)) = (i, zv G v) :: (zent (i + 1) vs).map (zlv G)
    rw [zv_cat, if_neg (by decide), zent_args G vs (i + 1)]
theorem zsl_len (G : zG) : ∀ (as : List zV), (lg_sl (as.map (zv G))).length = as.length
  | [] => rfl
  | v :: vs => by
    have h := zsl_len G vs
    simp only [lg_sl, List.map_cons, List.flatMap_cons, List.length_append, List.length_cons, zv_cat] at h ⊢
    rw [h]
    simp
    omega
theorem zsum (G : zG) : ∀ (st : List zV), ((st.map (zv G)).map fun v => v.category).sum = st.length
  | [] => rfl
  | v :: vs => by rw [List.map_cons, List.map_cons, List.sum_cons, zv_cat, zsum G vs, List.length_cons, Nat.add_comm]
theorem zGood {y : MethodName} {cc : ByteArray} {n : Nat} {ret : Option FieldType} {Ts : List Cond} (hbig : ∀ w ∈ zBIG, w ∈ Ts) (hc : Cond.code y cc n ret ∈ zBIG) : GoodIn Ts (zws y cc n ret) := fun w hw => by
  have h : w ∈ zBIG := by
    rcases List.mem_cons.mp hw with rfl | h
    · exact hc
    · exact h
  exact ⟨hbig w h, good_of_word (zB_good h)⟩
theorem zPc_blind (G : zG) (sz : Nat) (as : List zV) (μ : zM) : FrameBlind (zPc G sz as μ) := fun a U g mk q => by
  obtain ⟨q0, q1, qP, qD, qE⟩ := q
  exact ⟨q0, q1, qP, qD, zE_calling qE⟩
/-- what a call's tables say: the method, its class; how it is linked -/
def zY (y : MethodName) (cc : ByteArray) (n : Nat) (ret : Option FieldType) (k : Nat) : Prop := Cond.code y cc n ret ∈ zBIG ∧ Cond.initialized y.cls ∈ zBIG ∧ y.cls ≠ "java/lang/invoke/MethodHandle" ∧ y.cls ≠ "java/lang/invoke/VarHandle" ∧ (parseMethodDescriptor y.desc).map (fun d => d.parameters.length) = some k
def zYv (y : MethodName) (cc : ByteArray) (n : Nat) (ret : Option FieldType) (k : Nat) : Prop := zY y cc n ret k ∧ Cond.instanceMethod y ∈ zBIG ∧ Cond.selects y.cls y y ∈ zBIG
def zYs (y : MethodName) (cc : ByteArray) (n : Nat) (ret : Option FieldType) (k : Nat) : Prop := zY y cc n ret k ∧ Cond.static y ∈ zBIG
section ZR3
variable {X : zX} {nL : Nat} {cc : ByteArray} {own : String} {Ts : List Cond} {f nw : Nat} {μ : zM} {pc : Nat} {L L' : List (Nat × zV)} {st st0 : List zV}
/-- a receiver -/
def zRc (X : zX) (μ : zM) (i : Nat) (Cn : String) : Prop := match X with
  | (_, _, _, _, s, _, _, _, _, _, _, A, G, _, _) => ∀ (H : Heap) (locs : List Loc), va_P G.1 vwCl (zW G μ) H → va_S A s.heap H locs → ∃ cell : Cell, H[G.2.2.2 i]? = some cell ∧ cell.vm.isStatics = false ∧ s.vm.findClass Cn = some cell.cls
theorem zRc_of (C : zC X nL cc own Ts f nw) {i ci : Nat} {ks : List (Option Nat)} {q : vw_C} (hi : i < 68) (hd : zd i = .inl (ci, ks)) (hc : vwCl[ci]? = some q) : zRc X μ i q.1 := by
  obtain ⟨p, l, e, R, s, m, args, below, meth, c, Q, A, G, cells, slots⟩ := X
  obtain ⟨hx, hb, -, hown, hts, hbig, -, -, hE, -⟩ := C
  intro H locs hP hS
  have hg := zW_get G μ hi
  rw [hd] at hg
  exact va_recv hE.1 hP hc hg
theorem zRc_str (C : zC X nL cc own Ts f nw) {i : Nat} (hi : i < 6) : zRc X μ (70 + i) "java/lang/String" := by
  obtain ⟨p, l, e, R, s, m, args, below, meth, c, Q, A, G, cells, slots⟩ := X
  obtain ⟨hx, hb, -, hown, hts, hbig, -, -, hE, -⟩ := C
  intro H locs hP hS
  exact vk_recv (adK := fun i => G.2.2.2 (70 + i)) (i := i) hE.2.2.2.1 hi hS
theorem z_callVi (C : zC X nL cc own Ts f nw) {y : MethodName} {bytes : ByteArray} {n2 k f2 nw2 idx i : Nat} {ty : FieldType} {as : List zV} {post : Int → zM → Prop} (M : zMi (zl X) y bytes n2 ty f2 nw2 (.inr i :: as) μ post) (Y : zYv y bytes n2 (some ty) k) (hl0 : Cond.methodLink own idx y ∈ zBIG) (hrc : zRc X μ i y.cls) (d : decode cc pc = .ok (.invokevirtual idx, 3)) (hst : st0 = as.reverse ++ .inr i :: st) (hk : as.length = k) (hlen : st.length ≤ 8) (hR : f2 + 1 ≤ f ∧ 8 + (n2 + 11) + nw2 ≤ nw) (K : ∀ (r : Int) (μ' : zM), zR r → post r μ' → zJ X nL μ' (pc + 3) L (.inl r :: st)) : zJ X nL μ pc L st0 := by
  obtain ⟨p, l, e, R, s, m, args, below, meth, c, Q, A, G, cells, slots⟩ := X
  obtain ⟨hx, hb, hml, hown, hts, hbig, hA, hD, hE, hr1, hr2, hr3, hr4⟩ := C
  obtain ⟨⟨y1, y2, y3, y4, y5⟩, y6, y7⟩ := Y
  subst hst
  intro hr H locs ls hP hS hl
  have hle : ∀ q, zA G H.size q → A q := by
    rintro q (⟨j, hj, rfl⟩ | hq)
    · exact zD_A hD hj
    · exact hA q (Nat.le_trans hS.1 hq)
  have hcw : CallW R s args own y.cls idx y bytes n2 (some ty) (zws y bytes n2 (some ty)) (zrm f2 nw2) 0 0 k := ⟨callB_of k hts (zGood hbig y1) rfl rfl rfl (hts _ (hbig _ y2)) (hts _ (hbig _ hl0)) ⟨y3, y4, y5⟩ ⟨Nat.le_trans hR.1 hr1, Nat.le_trans hR.2 hr2⟩, hts _ (hbig _ y6), hts _ (hbig _ y7)⟩
  refine va_calli (va_runV (As := as.map (zv G)) (rest := st.map (zv G)) (g := F0 m pc ls _) ⟨hx, hb, hml, hown, hts⟩ (M G H.size hr) hcw ⟨zPc_blind G H.size _ μ, hrc H locs hP hS, fun U hU hW => ⟨rfl, by rw [hU], by rw [hU]; exact hP, zD_weak (zD_any μ hD) (fun _ _ => trivial), zE_call hE hS hle hU hW⟩⟩ rfl (by rw [List.length_map, hk]) hl.1 (by simp [zv]) (lv_room (by rw [zsum]; exact hlen)) d ⟨hr3, hr4⟩) hS (fun q _ h => hle q h) hle (fun r u t H1 locs1 ht hvm hw hB hz1 hk1 hS1 => ?_)
  obtain ⟨r', μ'⟩ := u
  obtain ⟨hre, hrR, hrm, hpost⟩ := hw
  subst hre
  have hP1 : va_P G.1 vwCl (zW G μ') H1 := by rw [← ht]; exact hB
  exact K r' μ' hrR hpost hrm H1 locs1 ls hP1 hS1 hl
theorem z_callVv (C : zC X nL cc own Ts f nw) {y : MethodName} {bytes : ByteArray} {n2 k f2 nw2 idx i : Nat} {as : List zV} {post : zM → Prop} (M : zMv (zl X) y bytes n2 f2 nw2 (.inr i :: as) μ post) (Y : zYv y bytes n2 none k) (hl0 : Cond.methodLink own idx y ∈ zBIG) (hrc : zRc X μ i y.cls) (d : decode cc pc = .ok (.invokevirtual idx, 3)) (hst : st0 = as.reverse ++ .inr i :: st) (hk : as.length = k) (hlen : st.length ≤ 8) (hR : f2 + 1 ≤ f ∧ 8 + (n2 + 11) + nw2 ≤ nw) (K : ∀ (μ' : zM), post μ' → zJ X nL μ' (pc + 3) L st) : zJ X nL μ pc L st0 := by
  obtain ⟨p, l, e, R, s, m, args, below, meth, c, Q, A, G, cells, slots⟩ := X
  obtain ⟨hx, hb, hml, hown, hts, hbig, hA, hD, hE, hr1, hr2, hr3, hr4⟩ := C
  obtain ⟨⟨y1, y2, y3, y4, y5⟩, y6, y7⟩ := Y
  subst hst
  intro hr H locs ls hP hS hl
  have hle : ∀ q, zA G H.size q → A q := by
    rintro q (⟨j, hj, rfl⟩ | hq)
    · exact zD_A hD hj
    · exact hA q (Nat.le_trans hS.1 hq)
  have hcw : CallW R s args own y.cls idx y bytes n2 none (zws y bytes n2 none) (zrm f2 nw2) 0 0 k := ⟨callB_of k hts (zGood hbig y1) rfl rfl rfl (hts _ (hbig _ y2)) (hts _ (hbig _ hl0)) ⟨y3, y4, y5⟩ ⟨Nat.le_trans hR.1 hr1, Nat.le_trans hR.2 hr2⟩, hts _ (hbig _ y6), hts _ (hbig _ y7)⟩
  refine va_callv (va_runV (As := as.map (zv G)) (rest := st.map (zv G)) (g := F0 m pc ls _) ⟨hx, hb, hml, hown, hts⟩ (M G H.size hr) hcw ⟨zPc_blind G H.size _ μ, hrc H locs hP hS, fun U hU hW => ⟨rfl, by rw [hU], by rw [hU]; exact hP, zD_weak (zD_any μ hD) (fun _ _ => trivial), zE_call hE hS hle hU hW⟩⟩ rfl (by rw [List.length_map, hk]) hl.1 (by simp [zv]) (lv_room (by rw [zsum]; exact hlen)) d ⟨hr3, hr4⟩) hS (fun q _ h => hle q h) hle (fun u t H1 locs1 ht hvm hw hB hz1 hk1 hS1 => ?_)
  obtain ⟨hrm, hpost⟩ := hw
  have hP1 : va_P G.1 vwCl (zW G u) H1 := by rw [← ht]; exact hB
  exact K u hpost hrm H1 locs1 ls hP1 hS1 hl
theorem z_callSi (C : zC X nL cc own Ts f nw) {y : MethodName} {bytes : ByteArray} {n2 k f2 nw2 idx : Nat} {ty : FieldType} {as : List zV} {post : Int → zM → Prop} (M : zMi (zl X) y bytes n2 ty f2 nw2 as μ post) (Y : zYs y bytes n2 (some ty) k) (hl0 : Cond.methodLink own idx y ∈ zBIG) (d : decode cc pc = .ok (.invokestatic idx, 3)) (hst : st0 = as.reverse ++ st) (hk : as.length = k) (hlen : st.length ≤ 8) (hR : f2 + 1 ≤ f ∧ 8 + (n2 + 11) + nw2 ≤ nw) (K : ∀ (r : Int) (μ' : zM), zR r → post r μ' → zJ X nL μ' (pc + 3) L (.inl r :: st)) : zJ X nL μ pc L st0 := by
  obtain ⟨p, l, e, R, s, m, args, below, meth, c, Q, A, G, cells, slots⟩ := X
  obtain ⟨hx, hb, hml, hown, hts, hbig, hA, hD, hE, hr1, hr2, hr3, hr4⟩ := C
  obtain ⟨⟨y1, y2, y3, y4, y5⟩, y6⟩ := Y
  subst hst
  intro hr H locs ls hP hS hl
  have hle : ∀ q, zA G H.size q → A q := by
    rintro q (⟨j, hj, rfl⟩ | hq)
    · exact zD_A hD hj
    · exact hA q (Nat.le_trans hS.1 hq)
  have hcw : CallB R s args own idx y bytes n2 (some ty) (zws y bytes n2 (some ty)) (zrm f2 nw2) 0 0 k ∧ (Cond.static y).before args s = true := ⟨callB_of k hts (zGood hbig y1) rfl rfl rfl (hts _ (hbig _ y2)) (hts _ (hbig _ hl0)) ⟨y3, y4, y5⟩ ⟨Nat.le_trans hR.1 hr1, Nat.le_trans hR.2 hr2⟩, hts _ (hbig _ y6)⟩
  refine va_calli (va_runS (As := as.map (zv G)) (rest := st.map (zv G)) (g := F0 m pc ls _) ⟨hx, hb, hml, hown, hts⟩ (M G H.size hr) hcw ⟨zPc_blind G H.size _ μ, fun U hU hW => ⟨rfl, by rw [hU], by rw [hU]; exact hP, zD_weak (zD_any μ hD) (fun _ _ => trivial), zE_call hE hS hle hU hW⟩⟩ rfl (by rw [List.length_map, hk]) hl.1 (by simp [zv]) (lv_room (by rw [zsum]; exact hlen)) d ⟨hr3, hr4⟩) hS (fun q _ h => hle q h) hle (fun r u t H1 locs1 ht hvm hw hB hz1 hk1 hS1 => ?_)
  obtain ⟨r', μ'⟩ := u
  obtain ⟨hre, hrR, hrm, hpost⟩ := hw
  subst hre
  have hP1 : va_P G.1 vwCl (zW G μ') H1 := by rw [← ht]; exact hB
  exact K r' μ' hrR hpost hrm H1 locs1 ls hP1 hS1 hl
theorem z_callSv (C : zC X nL cc own Ts f nw) {y : MethodName} {bytes : ByteArray} {n2 k f2 nw2 idx : Nat} {as : List zV} {post : zM → Prop} (M : zMv (zl X) y bytes n2 f2 nw2 as μ post) (Y : zYs y bytes n2 none k) (hl0 : Cond.methodLink own idx y ∈ zBIG) (d : decode cc pc = .ok (.invokestatic idx, 3)) (hst : st0 = as.reverse ++ st) (hk : as.length = k) (hlen : st.length ≤ 8) (hR : f2 + 1 ≤ f ∧ 8 + (n2 + 11) + nw2 ≤ nw) (K : ∀ (μ' : zM), post μ' → zJ X nL μ' (pc + 3) L st) : zJ X nL μ pc L st0 := by
  obtain ⟨p, l, e, R, s, m, args, below, meth, c, Q, A, G, cells, slots⟩ := X
  obtain ⟨hx, hb, hml, hown, hts, hbig, hA, hD, hE, hr1, hr2, hr3, hr4⟩ := C
  obtain ⟨⟨y1, y2, y3, y4, y5⟩, y6⟩ := Y
  subst hst
  intro hr H locs ls hP hS hl
  have hle : ∀ q, zA G H.size q → A q := by
    rintro q (⟨j, hj, rfl⟩ | hq)
    · exact zD_A hD hj
    · exact hA q (Nat.le_trans hS.1 hq)
  have hcw : CallB R s args own idx y bytes n2 none (zws y bytes n2 none) (zrm f2 nw2) 0 0 k ∧ (Cond.static y).before args s = true := ⟨callB_of k hts (zGood hbig y1) rfl rfl rfl (hts _ (hbig _ y2)) (hts _ (hbig _ hl0)) ⟨y3, y4, y5⟩ ⟨Nat.le_trans hR.1 hr1, Nat.le_trans hR.2 hr2⟩, hts _ (hbig _ y6)⟩
  refine va_callv (va_runS (As := as.map (zv G)) (rest := st.map (zv G)) (g := F0 m pc ls _) ⟨hx, hb, hml, hown, hts⟩ (M G H.size hr) hcw ⟨zPc_blind G H.size _ μ, fun U hU hW => ⟨rfl, by rw [hU], by rw [hU]; exact hP, zD_weak (zD_any μ hD) (fun _ _ => trivial), zE_call hE hS hle hU hW⟩⟩ rfl (by rw [List.length_map, hk]) hl.1 (by simp [zv]) (lv_room (by rw [zsum]; exact hlen)) d ⟨hr3, hr4⟩) hS (fun q _ h => hle q h) hle (fun u t H1 locs1 ht hvm hw hB hz1 hk1 hS1 => ?_)
  obtain ⟨hrm, hpost⟩ := hw
  have hP1 : va_P G.1 vwCl (zW G u) H1 := by rw [← ht]; exact hB
  exact K u hpost hrm H1 locs1 ls hP1 hS1 hl
theorem z_callSr (C : zC X nL cc own Ts f nw) {y : MethodName} {bytes : ByteArray} {n2 k f2 nw2 idx : Nat} {ty : FieldType} {as : List zV} {post : Nat → zM → Prop} (M : zMr (zl X) y bytes n2 ty f2 nw2 as μ post) (Y : zYs y bytes n2 (some ty) k) (hl0 : Cond.methodLink own idx y ∈ zBIG) (d : decode cc pc = .ok (.invokestatic idx, 3)) (hst : st0 = as.reverse ++ st) (hk : as.length = k) (hlen : st.length ≤ 8) (hR : f2 + 1 ≤ f ∧ 8 + (n2 + 11) + nw2 ≤ nw) (K : ∀ (r : Nat) (μ' : zM), post r μ' → zJ X nL μ' (pc + 3) L (.inr r :: st)) : zJ X nL μ pc L st0 := by
  obtain ⟨p, l, e, R, s, m, args, below, meth, c, Q, A, G, cells, slots⟩ := X
  obtain ⟨hx, hb, hml, hown, hts, hbig, hA, hD, hE, hr1, hr2, hr3, hr4⟩ := C
  obtain ⟨⟨y1, y2, y3, y4, y5⟩, y6⟩ := Y
  subst hst
  intro hr H locs ls hP hS hl
  have hle : ∀ q, zA G H.size q → A q := by
    rintro q (⟨j, hj, rfl⟩ | hq)
    · exact zD_A hD hj
    · exact hA q (Nat.le_trans hS.1 hq)
  have hcw : CallB R s args own idx y bytes n2 (some ty) (zws y bytes n2 (some ty)) (zrm f2 nw2) 0 0 k ∧ (Cond.static y).before args s = true := ⟨callB_of k hts (zGood hbig y1) rfl rfl rfl (hts _ (hbig _ y2)) (hts _ (hbig _ hl0)) ⟨y3, y4, y5⟩ ⟨Nat.le_trans hR.1 hr1, Nat.le_trans hR.2 hr2⟩, hts _ (hbig _ y6)⟩
  refine va_callr (va_runS (As := as.map (zv G)) (rest := st.map (zv G)) (g := F0 m pc ls _) ⟨hx, hb, hml, hown, hts⟩ (M G H.size hr) hcw ⟨zPc_blind G H.size _ μ, fun U hU hW => ⟨rfl, by rw [hU], by rw [hU]; exact hP, zD_weak (zD_any μ hD) (fun _ _ => trivial), zE_call hE hS hle hU hW⟩⟩ rfl (by rw [List.length_map, hk]) hl.1 (by simp [zv]) (lv_room (by rw [zsum]; exact hlen)) d ⟨hr3, hr4⟩) hS (fun q _ h => hle q h) hle (fun u ra t H1 locs1 ht hvm hw hB hz1 hk1 hS1 => ?_)
  obtain ⟨r', μ'⟩ := u
  obtain ⟨hrm, hpost⟩ := hw
  obtain ⟨rfl, hB⟩ := hB
  have hP1 : va_P G.1 vwCl (zW G μ') H1 := by rw [← ht]; exact hB
  exact K r' μ' hpost hrm H1 locs1 ls hP1 hS1 hl
/-- a static method of a nest mate -/
theorem z_callNi (C : zC X nL cc own Ts f nw) {y : MethodName} {bytes : ByteArray} {n2 k f2 nw2 idx : Nat} {ty : FieldType} {as : List zV} {post : Int → zM → Prop} (M : zMi (zl X) y bytes n2 ty f2 nw2 as μ post) (Y : zYs y bytes n2 (some ty) k) (hl0 : (own, idx, y, RX5) ∈ zNW) (d : decode cc pc = .ok (.invokestatic idx, 3)) (hst : st0 = as.reverse ++ st) (hk : as.length = k) (hlen : st.length ≤ 8) (hR : f2 + 1 ≤ f ∧ 8 + (n2 + 11) + nw2 ≤ nw) (K : ∀ (r : Int) (μ' : zM), zR r → post r μ' → zJ X nL μ' (pc + 3) L (.inl r :: st)) : zJ X nL μ pc L st0 := by
  obtain ⟨p, l, e, R, s, m, args, below, meth, c, Q, A, G, cells, slots⟩ := X
  obtain ⟨hx, hb, hml, hown, hts, hbig, hA, hD, hE, hr1, hr2, hr3, hr4⟩ := C
  obtain ⟨⟨y1, y2, y3, y4, y5⟩, y6⟩ := Y
  subst hst
  intro hr H locs ls hP hS hl
  have hle : ∀ q, zA G H.size q → A q := by
    rintro q (⟨j, hj, rfl⟩ | hq)
    · exact zD_A hD hj
    · exact hA q (Nat.le_trans hS.1 hq)
  have hcw : va_CN R s args own idx y RX5 bytes n2 (some ty) (zws y bytes n2 (some ty)) (zrm f2 nw2) 0 0 k ∧ (Cond.static y).before args s = true ∧ True := ⟨va_cnB k hts (zGood hbig y1) rfl rfl rfl (hE.2.1 _ hl0) (hts _ (hbig _ y2)) ⟨y3, y4, y5⟩ ⟨Nat.le_trans hR.1 hr1, Nat.le_trans hR.2 hr2⟩, hts _ (hbig _ y6), trivial⟩
  refine va_calli (va_runSN (As := as.map (zv G)) (rest := st.map (zv G)) (g := F0 m pc ls _) ⟨hx, hb, hml, hown, hts⟩ (M G H.size hr) hcw ⟨zPc_blind G H.size _ μ, fun U hU hW => ⟨rfl, by rw [hU], by rw [hU]; exact hP, zD_weak (zD_any μ hD) (fun _ _ => trivial), zE_call hE hS hle hU hW⟩⟩ rfl (by rw [List.length_map, hk]) hl.1 (by simp [zv]) (lv_room (by rw [zsum]; exact hlen)) d ⟨hr3, hr4⟩) hS (fun q _ h => hle q h) hle (fun r u t H1 locs1 ht hvm hw hB hz1 hk1 hS1 => ?_)
  obtain ⟨r', μ'⟩ := u
  obtain ⟨hre, hrR, hrm, hpost⟩ := hw
  subst hre
  have hP1 : va_P G.1 vwCl (zW G μ') H1 := by rw [← ht]; exact hB
  exact K r' μ' hrR hpost hrm H1 locs1 ls hP1 hS1 hl
end ZR3
/-- a method whose answer is an int, a boolean or a char -/
theorem zMi_of {l : Launch} {y : MethodName} {cc : ByteArray} {nL f nw : Nat} {ty : FieldType} {as : List zV} {μ : zM} {post : Int → zM → Prop} {own : String} (hy : plainName y.cls = true) (hown : y.cls = own) (hn : as.length ≤ nL)
    (body : ∀ X : zX, zl X = l → zC X nL cc own (zws y cc nL (some ty)) f nw → zRM μ → (∀ {pc : Nat} {μ' : zM} {L : List (Nat × zV)} {r : Int}, decode cc pc = .ok (.ireturn, 1) → zR r → narrow ty (.int (iI r)) = .int (iI r) → post r μ' → zJ X nL μ' pc L [.inl r]) → zJ X nL μ 0 (zent 0 as) []) : zMi l y cc nL ty f nw as μ post := by
  intro G sz hr
  refine Met.ofW (cc := cc) (maxL := nL) (ret := some ty) hy rfl ?_
  intro p e s m args below meth c s₁ B hml hv
  obtain ⟨rfl, hsz, hP, hD0, hE⟩ := hv
  subst hsz
  have hx := B.exec
  have hb := B.bytes
  have hrt := B.returns
  have hlocks := B.notSynchronized
  have hts := atoms_spec (ws := zws y cc nL (some ty)) B.pre
  have hcls : s.vm.findClass own = some m.cls := hown ▸ findClass_of_methodNamed B.named
  have hl := lv_entry (as.map (zv G)) (n := nL) (by rw [zsl_len]; exact hn)
  rw [lg_entry_eq]
  rw [zent_args] at hl
  have hA : ∀ q : Nat, s.heap.size ≤ q → zA G s.heap.size q := fun q h => Or.inr h
  have hD : va_D (zA G s.heap.size) (zW G (fun _ _ => 0)) := zD_weak (zD_any _ hD0) (fun i hi => Or.inl ⟨i, hi, rfl⟩)
  have J := body (p, l, e, (headSpec (zws y cc nL (some ty)) (zrm f nw)).room, s, m, (as.map (zv G)).toArray, below, meth, c, MQ below (va_Qi (fun (r : Int32) (u : Int × zM) => r = iI u.1 ∧ zR u.1 ∧ zRM u.2 ∧ post u.1 u.2) (fun u t => va_P G.1 vwCl (zW G u.2) t.heap) (zA G s.heap.size)) (as.map (zv G)).toArray s 0 0 (zA G s.heap.size), zA G s.heap.size, G, 0, 0) rfl ⟨hx, hb, hml, hcls, hts, fun w hw => List.mem_cons_of_mem _ hw, hA, hD, hE, Nat.le_refl _, Nat.le_refl _, Nat.zero_le _, Nat.zero_le _⟩ hr (by
    intro pc μ' L r d hR hn hp hrm H locs ls hP hS hl
    exact W.zret (v := iI r) hx hb hrt hn (fun t ht hW => ⟨⟨iI r, (r, μ'), rfl, ⟨rfl, hR, hrm, hp⟩, by show va_P G.1 vwCl (zW G μ') t.heap; rw [ht]; exact hP⟩, hS.F ht⟩) hS.2.2 d)
  exact J hr s.heap [] _ hP va_S.rf hl
theorem zMv_of {l : Launch} {y : MethodName} {cc : ByteArray} {nL f nw : Nat} {as : List zV} {μ : zM} {post : zM → Prop} {own : String} (hy : plainName y.cls = true) (hown : y.cls = own) (hn : as.length ≤ nL)
    (body : ∀ X : zX, zl X = l → zC X nL cc own (zws y cc nL none) f nw → zRM μ → (∀ {pc : Nat} {μ' : zM} {L : List (Nat × zV)}, decode cc pc = .ok (.return_, 1) → post μ' → zJ X nL μ' pc L []) → zJ X nL μ 0 (zent 0 as) []) : zMv l y cc nL f nw as μ post := by
  intro G sz hr
  refine Met.ofW (cc := cc) (maxL := nL) (ret := none) hy rfl ?_
  intro p e s m args below meth c s₁ B hml hv
  obtain ⟨rfl, hsz, hP, hD0, hE⟩ := hv
  subst hsz
  have hx := B.exec
  have hb := B.bytes
  have hrt := B.returns
  have hlocks := B.notSynchronized
  have hts := atoms_spec (ws := zws y cc nL none) B.pre
  have hcls : s.vm.findClass own = some m.cls := hown ▸ findClass_of_methodNamed B.named
  have hl := lv_entry (as.map (zv G)) (n := nL) (by rw [zsl_len]; exact hn)
  rw [lg_entry_eq]
  rw [zent_args] at hl
  have hA : ∀ q : Nat, s.heap.size ≤ q → zA G s.heap.size q := fun q h => Or.inr h
  have hD : va_D (zA G s.heap.size) (zW G (fun _ _ => 0)) := zD_weak (zD_any _ hD0) (fun i hi => Or.inl ⟨i, hi, rfl⟩)
  have J := body (p, l, e, (headSpec (zws y cc nL none) (zrm f nw)).room, s, m, (as.map (zv G)).toArray, below, meth, c, MQ below (va_Qv (fun (u : zM) => zRM u ∧ post u) (fun u t => va_P G.1 vwCl (zW G u) t.heap) (zA G s.heap.size)) (as.map (zv G)).toArray s 0 0 (zA G s.heap.size), zA G s.heap.size, G, 0, 0) rfl ⟨hx, hb, hml, hcls, hts, fun w hw => List.mem_cons_of_mem _ hw, hA, hD, hE, Nat.le_refl _, Nat.le_refl _, Nat.zero_le _, Nat.zero_le _⟩ hr (by
    intro pc μ' L d hp hrm H locs ls hP hS hl
    exact W.vret hx hb hrt (fun t ht hW => ⟨⟨μ', rfl, ⟨hrm, hp⟩, by show va_P G.1 vwCl (zW G μ') t.heap; rw [ht]; exact hP⟩, hS.F ht⟩) hS.2.2 d)
  exact J hr s.heap [] _ hP va_S.rf hl
theorem zMr_of {l : Launch} {y : MethodName} {cc : ByteArray} {nL f nw : Nat} {nm : String} {as : List zV} {μ : zM} {post : Nat → zM → Prop} {own : String} (hy : plainName y.cls = true) (hown : y.cls = own) (hn : as.length ≤ nL)
    (body : ∀ X : zX, zl X = l → zC X nL cc own (zws y cc nL (some (.object nm))) f nw → zRM μ → (∀ {pc : Nat} {μ' : zM} {L : List (Nat × zV)} {r : Nat}, decode cc pc = .ok (.areturn, 1) → post r μ' → zJ X nL μ' pc L [.inr r]) → zJ X nL μ 0 (zent 0 as) []) : zMr l y cc nL (.object nm) f nw as μ post := by
  intro G sz hr
  refine Met.ofW (cc := cc) (maxL := nL) (ret := some (.object nm)) hy rfl ?_
  intro p e s m args below meth c s₁ B hml hv
  obtain ⟨rfl, hsz, hP, hD0, hE⟩ := hv
  subst hsz
  have hx := B.exec
  have hb := B.bytes
  have hrt := B.returns
  have hlocks := B.notSynchronized
  have hts := atoms_spec (ws := zws y cc nL (some (.object nm))) B.pre
  have hcls : s.vm.findClass own = some m.cls := hown ▸ findClass_of_methodNamed B.named
  have hl := lv_entry (as.map (zv G)) (n := nL) (by rw [zsl_len]; exact hn)
  rw [lg_entry_eq]
  rw [zent_args] at hl
  have hA : ∀ q : Nat, s.heap.size ≤ q → zA G s.heap.size q := fun q h => Or.inr h
  have hD : va_D (zA G s.heap.size) (zW G (fun _ _ => 0)) := zD_weak (zD_any _ hD0) (fun i hi => Or.inl ⟨i, hi, rfl⟩)
  have J := body (p, l, e, (headSpec (zws y cc nL (some (.object nm))) (zrm f nw)).room, s, m, (as.map (zv G)).toArray, below, meth, c, MQ below (va_Qr (fun (u : Nat × zM) => zRM u.2 ∧ post u.1 u.2) (fun u a t => a = G.2.2.2 u.1 ∧ va_P G.1 vwCl (zW G u.2) t.heap) (zA G s.heap.size)) (as.map (zv G)).toArray s 0 0 (zA G s.heap.size), zA G s.heap.size, G, 0, 0) rfl ⟨hx, hb, hml, hcls, hts, fun w hw => List.mem_cons_of_mem _ hw, hA, hD, hE, Nat.le_refl _, Nat.le_refl _, Nat.zero_le _, Nat.zero_le _⟩ hr (by
    intro pc μ' L r d hp hrm H locs ls hP hS hl
    exact W.aret (v := .ref (G.2.2.2 r)) hx hb hrt (Or.inl ⟨nm, rfl⟩) (Or.inr ⟨_, rfl⟩) (fun t ht hW => ⟨⟨(r, μ'), G.2.2.2 r, rfl, ⟨hrm, hp⟩, rfl, by show va_P G.1 vwCl (zW G μ') t.heap; rw [ht]; exact hP⟩, hS.F ht⟩) hS.2.2 d)
  exact J hr s.heap [] _ hP va_S.rf hl
theorem z_nb {r : Int} (h : r = 0 ∨ r = 1) : narrow .boolean (.int (iI r)) = .int (iI r) := by
  rcases h with rfl | rfl <;> decide
end
section
/-! words of the tables, by their places: fields, methods, links -/
set_option maxRecDepth 20000 in
theorem zz_0 : (0 : Nat) = 0 := rfl
set_option maxRecDepth 20000 in
theorem inB0 : ∀ w ∈ u_ws RX0 TX0 1, w ∈ zBIG := zB_r [139] (by decide +kernel) (by decide +kernel)
set_option maxRecDepth 20000 in
theorem inB1 : ∀ w ∈ u_ws RX1 TX1 4, w ∈ zBIG := zB_r [123, 125, 127, 129] (by decide +kernel) (by decide +kernel)
set_option maxRecDepth 20000 in
theorem inB2 : ∀ w ∈ u_ws RX2 TX2 5, w ∈ zBIG := zB_r [100, 102, 104, 106, 108] (by decide +kernel) (by decide +kernel)
set_option maxRecDepth 20000 in
theorem inB3 : ∀ w ∈ u_ws RX3 TX3 2, w ∈ zBIG := zB_r [77, 79] (by decide +kernel) (by decide +kernel)
set_option maxRecDepth 20000 in
theorem inB4 : ∀ w ∈ u_ws RX4 TX4 7, w ∈ zBIG := zB_r [52, 54, 56, 58, 60, 62, 64] (by decide +kernel) (by decide +kernel)
set_option maxRecDepth 20000 in
theorem inB5 : ∀ w ∈ u_ws RX5 TX5 11, w ∈ zBIG := zB_r [153, 155, 157, 159, 161, 163, 165, 167, 169, 171, 173] (by decide +kernel) (by decide +kernel)
set_option maxRecDepth 20000 in
theorem inB6 : ∀ w ∈ u_ws RX6 TX6 35, w ∈ zBIG := zB_r [711, 713, 715, 717, 719, 721, 723, 725, 727, 729, 731, 733, 735, 737, 739, 741, 743, 745, 747, 749, 751, 753, 755, 757, 759, 761, 763, 765, 767, 769, 771, 773, 775, 777, 779] (by decide +kernel) (by decide +kernel)
set_option maxRecDepth 20000 in
theorem ffX5_10 : zF RX5 10 5 0 := ⟨(RX5, TX5, 11), rfl, by decide, inB5, zB_t 142 (by decide +kernel) rfl⟩
set_option maxRecDepth 20000 in
theorem ffX5_16 : zF RX5 16 5 1 := ⟨(RX5, TX5, 11), rfl, by decide, inB5, zB_t 143 (by decide +kernel) rfl⟩
set_option maxRecDepth 20000 in
theorem ffX5_19 : zF RX5 19 5 2 := ⟨(RX5, TX5, 11), rfl, by decide, inB5, zB_t 144 (by decide +kernel) rfl⟩
set_option maxRecDepth 20000 in
theorem ffX5_22 : zF RX5 22 5 3 := ⟨(RX5, TX5, 11), rfl, by decide, inB5, zB_t 145 (by decide +kernel) rfl⟩
set_option maxRecDepth 20000 in
theorem ffX5_29 : zF RX5 29 5 4 := ⟨(RX5, TX5, 11), rfl, by decide, inB5, zB_t 146 (by decide +kernel) rfl⟩
set_option maxRecDepth 20000 in
theorem ffX5_36 : zF RX5 36 5 5 := ⟨(RX5, TX5, 11), rfl, by decide, inB5, zB_t 147 (by decide +kernel) rfl⟩
set_option maxRecDepth 20000 in
theorem ffX5_43 : zF RX5 43 5 6 := ⟨(RX5, TX5, 11), rfl, by decide, inB5, zB_t 148 (by decide +kernel) rfl⟩
set_option maxRecDepth 20000 in
theorem ffX5_50 : zF RX5 50 5 7 := ⟨(RX5, TX5, 11), rfl, by decide, inB5, zB_t 149 (by decide +kernel) rfl⟩
set_option maxRecDepth 20000 in
theorem ffX5_54 : zF RX5 54 5 8 := ⟨(RX5, TX5, 11), rfl, by decide, inB5, zB_t 150 (by decide +kernel) rfl⟩
set_option maxRecDepth 20000 in
theorem ffX5_58 : zF RX5 58 5 9 := ⟨(RX5, TX5, 11), rfl, by decide, inB5, zB_t 151 (by decide +kernel) rfl⟩
set_option maxRecDepth 20000 in
theorem ffX5_62 : zF RX5 62 5 10 := ⟨(RX5, TX5, 11), rfl, by decide, inB5, zB_t 152 (by decide +kernel) rfl⟩
set_option maxRecDepth 20000 in
theorem ffX5_98 : zF RX5 98 4 1 := ⟨(RX4, TX4, 7), rfl, by decide, inB4, zB_t 35 (by decide +kernel) rfl⟩
set_option maxRecDepth 20000 in
theorem ffX5_101 : zF RX5 101 4 2 := ⟨(RX4, TX4, 7), rfl, by decide, inB4, zB_t 39 (by decide +kernel) rfl⟩
set_option maxRecDepth 20000 in
theorem ffX5_122 : zF RX5 122 4 4 := ⟨(RX4, TX4, 7), rfl, by decide, inB4, zB_t 43 (by decide +kernel) rfl⟩
set_option maxRecDepth 20000 in
theorem ffX5_125 : zF RX5 125 4 5 := ⟨(RX4, TX4, 7), rfl, by decide, inB4, zB_t 47 (by decide +kernel) rfl⟩
set_option maxRecDepth 20000 in
theorem ffX5_131 : zF RX5 131 4 6 := ⟨(RX4, TX4, 7), rfl, by decide, inB4, zB_t 50 (by decide +kernel) rfl⟩
set_option maxRecDepth 20000 in
theorem ffX5_137 : zF RX5 137 2 0 := ⟨(RX2, TX2, 5), rfl, by decide, inB2, zB_t 91 (by decide +kernel) rfl⟩
set_option maxRecDepth 20000 in
theorem ffX5_142 : zF RX5 142 2 1 := ⟨(RX2, TX2, 5), rfl, by decide, inB2, zB_t 93 (by decide +kernel) rfl⟩
set_option maxRecDepth 20000 in
theorem ffX5_145 : zF RX5 145 2 2 := ⟨(RX2, TX2, 5), rfl, by decide, inB2, zB_t 96 (by decide +kernel) rfl⟩
set_option maxRecDepth 20000 in
theorem ffX5_158 : zF RX5 158 1 0 := ⟨(RX1, TX1, 4), rfl, by decide, inB1, zB_t 118 (by decide +kernel) rfl⟩
set_option maxRecDepth 20000 in
theorem ffX5_164 : zF RX5 164 2 3 := ⟨(RX2, TX2, 5), rfl, by decide, inB2, zB_t 98 (by decide +kernel) rfl⟩
set_option maxRecDepth 20000 in
theorem ffX5_189 : zF RX5 189 4 0 := ⟨(RX4, TX4, 7), rfl, by decide, inB4, zB_t 33 (by decide +kernel) rfl⟩
set_option maxRecDepth 20000 in
theorem ffX5_208 : zF RX5 208 3 1 := ⟨(RX3, TX3, 2), rfl, by decide, inB3, zB_t 76 (by decide +kernel) rfl⟩
set_option maxRecDepth 20000 in
theorem ffX5_215 : zF RX5 215 1 1 := ⟨(RX1, TX1, 4), rfl, by decide, inB1, zB_t 120 (by decide +kernel) rfl⟩
set_option maxRecDepth 20000 in
theorem ffX0_9 : zF RX0 9 0 0 := ⟨(RX0, TX0, 1), rfl, by decide, inB0, zB_t 138 (by decide +kernel) rfl⟩
set_option maxRecDepth 20000 in
theorem ffX0_15 : zF RX0 15 4 0 := ⟨(RX4, TX4, 7), rfl, by decide, inB4, zB_t 31 (by decide +kernel) rfl⟩
set_option maxRecDepth 20000 in
theorem ffX1_9 : zF RX1 9 1 0 := ⟨(RX1, TX1, 4), rfl, by decide, inB1, zB_t 117 (by decide +kernel) rfl⟩
set_option maxRecDepth 20000 in
theorem ffX1_15 : zF RX1 15 1 1 := ⟨(RX1, TX1, 4), rfl, by decide, inB1, zB_t 119 (by decide +kernel) rfl⟩
set_option maxRecDepth 20000 in
theorem ffX1_18 : zF RX1 18 1 2 := ⟨(RX1, TX1, 4), rfl, by decide, inB1, zB_t 121 (by decide +kernel) rfl⟩
set_option maxRecDepth 20000 in
theorem ffX1_21 : zF RX1 21 1 3 := ⟨(RX1, TX1, 4), rfl, by decide, inB1, zB_t 122 (by decide +kernel) rfl⟩
set_option maxRecDepth 20000 in
theorem ffX1_28 : zF RX1 28 2 2 := ⟨(RX2, TX2, 5), rfl, by decide, inB2, zB_t 95 (by decide +kernel) rfl⟩
set_option maxRecDepth 20000 in
theorem ffX2_11 : zF RX2 11 2 0 := ⟨(RX2, TX2, 5), rfl, by decide, inB2, zB_t 90 (by decide +kernel) rfl⟩
set_option maxRecDepth 20000 in
theorem ffX2_16 : zF RX2 16 2 1 := ⟨(RX2, TX2, 5), rfl, by decide, inB2, zB_t 92 (by decide +kernel) rfl⟩
set_option maxRecDepth 20000 in
theorem ffX2_19 : zF RX2 19 2 2 := ⟨(RX2, TX2, 5), rfl, by decide, inB2, zB_t 94 (by decide +kernel) rfl⟩
set_option maxRecDepth 20000 in
theorem ffX2_23 : zF RX2 23 2 3 := ⟨(RX2, TX2, 5), rfl, by decide, inB2, zB_t 97 (by decide +kernel) rfl⟩
set_option maxRecDepth 20000 in
theorem ffX2_27 : zF RX2 27 2 4 := ⟨(RX2, TX2, 5), rfl, by decide, inB2, zB_t 99 (by decide +kernel) rfl⟩
set_option maxRecDepth 20000 in
theorem ffX2_48 : zF RX2 48 4 5 := ⟨(RX4, TX4, 7), rfl, by decide, inB4, zB_t 46 (by decide +kernel) rfl⟩
set_option maxRecDepth 20000 in
theorem ffX2_51 : zF RX2 51 4 4 := ⟨(RX4, TX4, 7), rfl, by decide, inB4, zB_t 42 (by decide +kernel) rfl⟩
set_option maxRecDepth 20000 in
theorem ffX2_71 : zF RX2 71 4 2 := ⟨(RX4, TX4, 7), rfl, by decide, inB4, zB_t 38 (by decide +kernel) rfl⟩
set_option maxRecDepth 20000 in
theorem ffX2_80 : zF RX2 80 4 1 := ⟨(RX4, TX4, 7), rfl, by decide, inB4, zB_t 36 (by decide +kernel) rfl⟩
set_option maxRecDepth 20000 in
theorem ffX2_97 : zF RX2 97 4 0 := ⟨(RX4, TX4, 7), rfl, by decide, inB4, zB_t 32 (by decide +kernel) rfl⟩
set_option maxRecDepth 20000 in
theorem ffX3_11 : zF RX3 11 3 0 := ⟨(RX3, TX3, 2), rfl, by decide, inB3, zB_t 74 (by decide +kernel) rfl⟩
set_option maxRecDepth 20000 in
theorem ffX3_15 : zF RX3 15 3 1 := ⟨(RX3, TX3, 2), rfl, by decide, inB3, zB_t 75 (by decide +kernel) rfl⟩
set_option maxRecDepth 20000 in
theorem ffX3_91 : zF RX3 91 4 4 := ⟨(RX4, TX4, 7), rfl, by decide, inB4, zB_t 44 (by decide +kernel) rfl⟩
set_option maxRecDepth 20000 in
theorem ffX3_94 : zF RX3 94 4 5 := ⟨(RX4, TX4, 7), rfl, by decide, inB4, zB_t 48 (by decide +kernel) rfl⟩
set_option maxRecDepth 20000 in
theorem ffX3_101 : zF RX3 101 4 6 := ⟨(RX4, TX4, 7), rfl, by decide, inB4, zB_t 51 (by decide +kernel) rfl⟩
set_option maxRecDepth 20000 in
theorem ffX4_9 : zF RX4 9 4 0 := ⟨(RX4, TX4, 7), rfl, by decide, inB4, zB_t 30 (by decide +kernel) rfl⟩
set_option maxRecDepth 20000 in
theorem ffX4_15 : zF RX4 15 4 1 := ⟨(RX4, TX4, 7), rfl, by decide, inB4, zB_t 34 (by decide +kernel) rfl⟩
set_option maxRecDepth 20000 in
theorem ffX4_18 : zF RX4 18 4 2 := ⟨(RX4, TX4, 7), rfl, by decide, inB4, zB_t 37 (by decide +kernel) rfl⟩
set_option maxRecDepth 20000 in
theorem ffX4_21 : zF RX4 21 4 3 := ⟨(RX4, TX4, 7), rfl, by decide, inB4, zB_t 40 (by decide +kernel) rfl⟩
set_option maxRecDepth 20000 in
theorem ffX4_24 : zF RX4 24 4 4 := ⟨(RX4, TX4, 7), rfl, by decide, inB4, zB_t 41 (by decide +kernel) rfl⟩
set_option maxRecDepth 20000 in
theorem ffX4_28 : zF RX4 28 4 5 := ⟨(RX4, TX4, 7), rfl, by decide, inB4, zB_t 45 (by decide +kernel) rfl⟩
set_option maxRecDepth 20000 in
theorem ffX4_31 : zF RX4 31 4 6 := ⟨(RX4, TX4, 7), rfl, by decide, inB4, zB_t 49 (by decide +kernel) rfl⟩
set_option maxRecDepth 20000 in
theorem ffX6_7 : zF RX6 7 6 0 := ⟨(RX6, TX6, 35), rfl, by decide, inB6, zB_t 676 (by decide +kernel) rfl⟩
set_option maxRecDepth 20000 in
theorem ffX6_13 : zF RX6 13 6 1 := ⟨(RX6, TX6, 35), rfl, by decide, inB6, zB_t 677 (by decide +kernel) rfl⟩
set_option maxRecDepth 20000 in
theorem ffX6_16 : zF RX6 16 6 2 := ⟨(RX6, TX6, 35), rfl, by decide, inB6, zB_t 678 (by decide +kernel) rfl⟩
set_option maxRecDepth 20000 in
theorem ffX6_19 : zF RX6 19 6 3 := ⟨(RX6, TX6, 35), rfl, by decide, inB6, zB_t 679 (by decide +kernel) rfl⟩
set_option maxRecDepth 20000 in
theorem ffX6_22 : zF RX6 22 6 4 := ⟨(RX6, TX6, 35), rfl, by decide, inB6, zB_t 680 (by decide +kernel) rfl⟩
set_option maxRecDepth 20000 in
theorem ffX6_25 : zF RX6 25 6 5 := ⟨(RX6, TX6, 35), rfl, by decide, inB6, zB_t 681 (by decide +kernel) rfl⟩
set_option maxRecDepth 20000 in
theorem ffX6_28 : zF RX6 28 6 6 := ⟨(RX6, TX6, 35), rfl, by decide, inB6, zB_t 682 (by decide +kernel) rfl⟩
set_option maxRecDepth 20000 in
theorem ffX6_31 : zF RX6 31 6 7 := ⟨(RX6, TX6, 35), rfl, by decide, inB6, zB_t 683 (by decide +kernel) rfl⟩
set_option maxRecDepth 20000 in
theorem ffX6_35 : zF RX6 35 6 8 := ⟨(RX6, TX6, 35), rfl, by decide, inB6, zB_t 684 (by decide +kernel) rfl⟩
set_option maxRecDepth 20000 in
theorem ffX6_38 : zF RX6 38 6 9 := ⟨(RX6, TX6, 35), rfl, by decide, inB6, zB_t 685 (by decide +kernel) rfl⟩
set_option maxRecDepth 20000 in
theorem ffX6_41 : zF RX6 41 6 10 := ⟨(RX6, TX6, 35), rfl, by decide, inB6, zB_t 686 (by decide +kernel) rfl⟩
set_option maxRecDepth 20000 in
theorem ffX6_44 : zF RX6 44 6 11 := ⟨(RX6, TX6, 35), rfl, by decide, inB6, zB_t 687 (by decide +kernel) rfl⟩
set_option maxRecDepth 20000 in
theorem ffX6_47 : zF RX6 47 6 12 := ⟨(RX6, TX6, 35), rfl, by decide, inB6, zB_t 688 (by decide +kernel) rfl⟩
set_option maxRecDepth 20000 in
theorem ffX6_50 : zF RX6 50 6 13 := ⟨(RX6, TX6, 35), rfl, by decide, inB6, zB_t 689 (by decide +kernel) rfl⟩
set_option maxRecDepth 20000 in
theorem ffX6_53 : zF RX6 53 6 14 := ⟨(RX6, TX6, 35), rfl, by decide, inB6, zB_t 690 (by decide +kernel) rfl⟩
set_option maxRecDepth 20000 in
theorem ffX6_56 : zF RX6 56 6 15 := ⟨(RX6, TX6, 35), rfl, by decide, inB6, zB_t 691 (by decide +kernel) rfl⟩
set_option maxRecDepth 20000 in
theorem ffX6_59 : zF RX6 59 6 16 := ⟨(RX6, TX6, 35), rfl, by decide, inB6, zB_t 692 (by decide +kernel) rfl⟩
set_option maxRecDepth 20000 in
theorem ffX6_62 : zF RX6 62 6 17 := ⟨(RX6, TX6, 35), rfl, by decide, inB6, zB_t 693 (by decide +kernel) rfl⟩
set_option maxRecDepth 20000 in
theorem ffX6_65 : zF RX6 65 6 18 := ⟨(RX6, TX6, 35), rfl, by decide, inB6, zB_t 694 (by decide +kernel) rfl⟩
set_option maxRecDepth 20000 in
theorem ffX6_68 : zF RX6 68 6 19 := ⟨(RX6, TX6, 35), rfl, by decide, inB6, zB_t 695 (by decide +kernel) rfl⟩
set_option maxRecDepth 20000 in
theorem ffX6_71 : zF RX6 71 6 20 := ⟨(RX6, TX6, 35), rfl, by decide, inB6, zB_t 696 (by decide +kernel) rfl⟩
set_option maxRecDepth 20000 in
theorem ffX6_74 : zF RX6 74 6 21 := ⟨(RX6, TX6, 35), rfl, by decide, inB6, zB_t 697 (by decide +kernel) rfl⟩
set_option maxRecDepth 20000 in
theorem ffX6_77 : zF RX6 77 6 22 := ⟨(RX6, TX6, 35), rfl, by decide, inB6, zB_t 698 (by decide +kernel) rfl⟩
set_option maxRecDepth 20000 in
theorem ffX6_80 : zF RX6 80 6 23 := ⟨(RX6, TX6, 35), rfl, by decide, inB6, zB_t 699 (by decide +kernel) rfl⟩
set_option maxRecDepth 20000 in
theorem ffX6_83 : zF RX6 83 6 24 := ⟨(RX6, TX6, 35), rfl, by decide, inB6, zB_t 700 (by decide +kernel) rfl⟩
set_option maxRecDepth 20000 in
theorem ffX6_86 : zF RX6 86 6 25 := ⟨(RX6, TX6, 35), rfl, by decide, inB6, zB_t 701 (by decide +kernel) rfl⟩
set_option maxRecDepth 20000 in
theorem ffX6_89 : zF RX6 89 6 26 := ⟨(RX6, TX6, 35), rfl, by decide, inB6, zB_t 702 (by decide +kernel) rfl⟩
set_option maxRecDepth 20000 in
theorem ffX6_93 : zF RX6 93 6 27 := ⟨(RX6, TX6, 35), rfl, by decide, inB6, zB_t 703 (by decide +kernel) rfl⟩
set_option maxRecDepth 20000 in
theorem ffX6_96 : zF RX6 96 6 28 := ⟨(RX6, TX6, 35), rfl, by decide, inB6, zB_t 704 (by decide +kernel) rfl⟩
set_option maxRecDepth 20000 in
theorem ffX6_99 : zF RX6 99 6 29 := ⟨(RX6, TX6, 35), rfl, by decide, inB6, zB_t 705 (by decide +kernel) rfl⟩
set_option maxRecDepth 20000 in
theorem ffX6_102 : zF RX6 102 6 30 := ⟨(RX6, TX6, 35), rfl, by decide, inB6, zB_t 706 (by decide +kernel) rfl⟩
set_option maxRecDepth 20000 in
theorem ffX6_105 : zF RX6 105 6 31 := ⟨(RX6, TX6, 35), rfl, by decide, inB6, zB_t 707 (by decide +kernel) rfl⟩
set_option maxRecDepth 20000 in
theorem ffX6_108 : zF RX6 108 6 32 := ⟨(RX6, TX6, 35), rfl, by decide, inB6, zB_t 708 (by decide +kernel) rfl⟩
set_option maxRecDepth 20000 in
theorem ffX6_111 : zF RX6 111 6 33 := ⟨(RX6, TX6, 35), rfl, by decide, inB6, zB_t 709 (by decide +kernel) rfl⟩
set_option maxRecDepth 20000 in
theorem ffX6_114 : zF RX6 114 6 34 := ⟨(RX6, TX6, 35), rfl, by decide, inB6, zB_t 710 (by decide +kernel) rfl⟩
set_option maxRecDepth 20000 in
theorem fp2_3 : zFp 2 3 .int := ⟨(RX2, TX2, 5), tyX2, rfl, tyX2_ok, nmX2, rfl, rfl⟩
set_option maxRecDepth 20000 in
theorem fp2_4 : zFp 2 4 .int := ⟨(RX2, TX2, 5), tyX2, rfl, tyX2_ok, nmX2, rfl, rfl⟩
set_option maxRecDepth 20000 in
theorem fp3_1 : zFp 3 1 .int := ⟨(RX3, TX3, 2), tyX3, rfl, tyX3_ok, nmX3, rfl, rfl⟩
set_option maxRecDepth 20000 in
theorem fp4_4 : zFp 4 4 .int := ⟨(RX4, TX4, 7), tyX4, rfl, tyX4_ok, nmX4, rfl, rfl⟩
set_option maxRecDepth 20000 in
theorem fp4_5 : zFp 4 5 .int := ⟨(RX4, TX4, 7), tyX4, rfl, tyX4_ok, nmX4, rfl, rfl⟩
set_option maxRecDepth 20000 in
theorem fp4_6 : zFp 4 6 .int := ⟨(RX4, TX4, 7), tyX4, rfl, tyX4_ok, nmX4, rfl, rfl⟩
set_option maxRecDepth 20000 in
theorem fp5_3 : zFp 5 3 .boolean := ⟨(RX5, TX5, 11), tyX5, rfl, tyX5_ok, nmX5, rfl, rfl⟩
set_option maxRecDepth 20000 in
theorem fp5_9 : zFp 5 9 .int := ⟨(RX5, TX5, 11), tyX5, rfl, tyX5_ok, nmX5, rfl, rfl⟩
set_option maxRecDepth 20000 in
theorem fp6_0 : zFp 6 0 .int := ⟨(RX6, TX6, 35), tyX6, rfl, tyX6_ok, nmX6, rfl, rfl⟩
set_option maxRecDepth 20000 in
theorem fp6_1 : zFp 6 1 .int := ⟨(RX6, TX6, 35), tyX6, rfl, tyX6_ok, nmX6, rfl, rfl⟩
set_option maxRecDepth 20000 in
theorem fp6_2 : zFp 6 2 .int := ⟨(RX6, TX6, 35), tyX6, rfl, tyX6_ok, nmX6, rfl, rfl⟩
set_option maxRecDepth 20000 in
theorem fp6_3 : zFp 6 3 .int := ⟨(RX6, TX6, 35), tyX6, rfl, tyX6_ok, nmX6, rfl, rfl⟩
set_option maxRecDepth 20000 in
theorem fp6_4 : zFp 6 4 .int := ⟨(RX6, TX6, 35), tyX6, rfl, tyX6_ok, nmX6, rfl, rfl⟩
set_option maxRecDepth 20000 in
theorem fp6_5 : zFp 6 5 .int := ⟨(RX6, TX6, 35), tyX6, rfl, tyX6_ok, nmX6, rfl, rfl⟩
set_option maxRecDepth 20000 in
theorem fp6_6 : zFp 6 6 .int := ⟨(RX6, TX6, 35), tyX6, rfl, tyX6_ok, nmX6, rfl, rfl⟩
set_option maxRecDepth 20000 in
theorem fp6_13 : zFp 6 13 .int := ⟨(RX6, TX6, 35), tyX6, rfl, tyX6_ok, nmX6, rfl, rfl⟩
set_option maxRecDepth 20000 in
theorem fp6_14 : zFp 6 14 .int := ⟨(RX6, TX6, 35), tyX6, rfl, tyX6_ok, nmX6, rfl, rfl⟩
set_option maxRecDepth 20000 in
theorem fp6_15 : zFp 6 15 .int := ⟨(RX6, TX6, 35), tyX6, rfl, tyX6_ok, nmX6, rfl, rfl⟩
set_option maxRecDepth 20000 in
theorem fp6_16 : zFp 6 16 .int := ⟨(RX6, TX6, 35), tyX6, rfl, tyX6_ok, nmX6, rfl, rfl⟩
set_option maxRecDepth 20000 in
theorem fp6_17 : zFp 6 17 .int := ⟨(RX6, TX6, 35), tyX6, rfl, tyX6_ok, nmX6, rfl, rfl⟩
set_option maxRecDepth 20000 in
theorem fp6_24 : zFp 6 24 .int := ⟨(RX6, TX6, 35), tyX6, rfl, tyX6_ok, nmX6, rfl, rfl⟩
set_option maxRecDepth 20000 in
theorem fp6_26 : zFp 6 26 .boolean := ⟨(RX6, TX6, 35), tyX6, rfl, tyX6_ok, nmX6, rfl, rfl⟩
set_option maxRecDepth 20000 in
theorem fp6_27 : zFp 6 27 .int := ⟨(RX6, TX6, 35), tyX6, rfl, tyX6_ok, nmX6, rfl, rfl⟩
set_option maxRecDepth 20000 in
theorem fp6_28 : zFp 6 28 .int := ⟨(RX6, TX6, 35), tyX6, rfl, tyX6_ok, nmX6, rfl, rfl⟩
set_option maxRecDepth 20000 in
theorem fp6_29 : zFp 6 29 .int := ⟨(RX6, TX6, 35), tyX6, rfl, tyX6_ok, nmX6, rfl, rfl⟩
set_option maxRecDepth 20000 in
theorem fp6_30 : zFp 6 30 .int := ⟨(RX6, TX6, 35), tyX6, rfl, tyX6_ok, nmX6, rfl, rfl⟩
set_option maxRecDepth 20000 in
theorem fp6_31 : zFp 6 31 .int := ⟨(RX6, TX6, 35), tyX6, rfl, tyX6_ok, nmX6, rfl, rfl⟩
set_option maxRecDepth 20000 in
theorem yyX0_letAllGo : zYv yX0_letAllGo cX0_letAllGo 2 none 0 := ⟨⟨zB_t 590 (by decide +kernel) rfl, zB_t 6 (by decide +kernel) rfl, by decide +kernel, by decide +kernel, by decide +kernel⟩, zB_t 588 (by decide +kernel) rfl, zB_t 589 (by decide +kernel) rfl⟩
set_option maxRecDepth 20000 in
theorem yyX0_give : zYv yX0_give cX0_give 3 (some (.boolean)) 2 := ⟨⟨zB_t 595 (by decide +kernel) rfl, zB_t 6 (by decide +kernel) rfl, by decide +kernel, by decide +kernel, by decide +kernel⟩, zB_t 593 (by decide +kernel) rfl, zB_t 594 (by decide +kernel) rfl⟩
set_option maxRecDepth 20000 in
theorem yyX0_firmWays : zYv yX0_firmWays cX0_firmWays 7 (some (.int)) 1 := ⟨⟨zB_t 582 (by decide +kernel) rfl, zB_t 6 (by decide +kernel) rfl, by decide +kernel, by decide +kernel, by decide +kernel⟩, zB_t 580 (by decide +kernel) rfl, zB_t 581 (by decide +kernel) rfl⟩
set_option maxRecDepth 20000 in
theorem yyX0_giveByCode : zYv yX0_giveByCode cX0_giveByCode 8 (some (.boolean)) 3 := ⟨⟨zB_t 586 (by decide +kernel) rfl, zB_t 6 (by decide +kernel) rfl, by decide +kernel, by decide +kernel, by decide +kernel⟩, zB_t 585 (by decide +kernel) rfl, zB_s 16 (by decide +kernel) rfl⟩
set_option maxRecDepth 20000 in
theorem yyX0_firstWhoWouldRather : zYv yX0_firstWhoWouldRather cX0_firstWhoWouldRather 5 (some (.int)) 1 := ⟨⟨zB_t 599 (by decide +kernel) rfl, zB_t 6 (by decide +kernel) rfl, by decide +kernel, by decide +kernel, by decide +kernel⟩, zB_t 597 (by decide +kernel) rfl, zB_t 598 (by decide +kernel) rfl⟩
set_option maxRecDepth 20000 in
theorem yyX0_wouldRather : zYv yX0_wouldRather cX0_wouldRather 4 (some (.boolean)) 3 := ⟨⟨zB_t 603 (by decide +kernel) rfl, zB_t 6 (by decide +kernel) rfl, by decide +kernel, by decide +kernel, by decide +kernel⟩, zB_t 602 (by decide +kernel) rfl, zB_s 17 (by decide +kernel) rfl⟩
set_option maxRecDepth 20000 in
theorem yyX1_settle : zYv yX1_settle cX1_settle 7 none 3 := ⟨⟨zB_t 497 (by decide +kernel) rfl, zB_t 5 (by decide +kernel) rfl, by decide +kernel, by decide +kernel, by decide +kernel⟩, zB_t 495 (by decide +kernel) rfl, zB_t 496 (by decide +kernel) rfl⟩
set_option maxRecDepth 20000 in
theorem yyX1_validYeses : zYv yX1_validYeses cX1_validYeses 5 (some (.int)) 4 := ⟨⟨zB_t 528 (by decide +kernel) rfl, zB_t 5 (by decide +kernel) rfl, by decide +kernel, by decide +kernel, by decide +kernel⟩, zB_t 527 (by decide +kernel) rfl, zB_s 14 (by decide +kernel) rfl⟩
set_option maxRecDepth 20000 in
theorem yyX1_howMany : zYv yX1_howMany cX1_howMany 3 (some (.int)) 0 := ⟨⟨zB_t 535 (by decide +kernel) rfl, zB_t 5 (by decide +kernel) rfl, by decide +kernel, by decide +kernel, by decide +kernel⟩, zB_t 533 (by decide +kernel) rfl, zB_t 534 (by decide +kernel) rfl⟩
set_option maxRecDepth 20000 in
theorem yyX1_gladness : zYv yX1_gladness cX1_gladness 5 (some (.int)) 1 := ⟨⟨zB_t 549 (by decide +kernel) rfl, zB_t 5 (by decide +kernel) rfl, by decide +kernel, by decide +kernel, by decide +kernel⟩, zB_t 547 (by decide +kernel) rfl, zB_t 548 (by decide +kernel) rfl⟩
set_option maxRecDepth 20000 in
theorem yyX1_likedMost : zYs yX1_likedMost cX1_likedMost 7 (some (.int)) 4 := ⟨⟨zB_t 531 (by decide +kernel) rfl, zB_t 5 (by decide +kernel) rfl, by decide +kernel, by decide +kernel, by decide +kernel⟩, zB_t 530 (by decide +kernel) rfl⟩
set_option maxRecDepth 20000 in
theorem yyX1_favourite : zYs yX1_favourite cX1_favourite 7 (some (.int)) 3 := ⟨⟨zB_t 518 (by decide +kernel) rfl, zB_t 5 (by decide +kernel) rfl, by decide +kernel, by decide +kernel, by decide +kernel⟩, zB_t 517 (by decide +kernel) rfl⟩
set_option maxRecDepth 20000 in
theorem yyX1_askInTurn : zYv yX1_askInTurn cX1_askInTurn 6 none 2 := ⟨⟨zB_t 501 (by decide +kernel) rfl, zB_t 5 (by decide +kernel) rfl, by decide +kernel, by decide +kernel, by decide +kernel⟩, zB_t 499 (by decide +kernel) rfl, zB_t 500 (by decide +kernel) rfl⟩
set_option maxRecDepth 20000 in
theorem yyX1_firstWhoWillAsk : zYv yX1_firstWhoWillAsk cX1_firstWhoWillAsk 2 (some (.int)) 0 := ⟨⟨zB_t 511 (by decide +kernel) rfl, zB_t 5 (by decide +kernel) rfl, by decide +kernel, by decide +kernel, by decide +kernel⟩, zB_t 510 (by decide +kernel) rfl, zB_s 12 (by decide +kernel) rfl⟩
set_option maxRecDepth 20000 in
theorem yyX1_ask : zYv yX1_ask cX1_ask 5 none 2 := ⟨⟨zB_t 515 (by decide +kernel) rfl, zB_t 5 (by decide +kernel) rfl, by decide +kernel, by decide +kernel, by decide +kernel⟩, zB_t 514 (by decide +kernel) rfl, zB_s 13 (by decide +kernel) rfl⟩
set_option maxRecDepth 20000 in
theorem yyX1_isLikedBefore : zYs yX1_isLikedBefore cX1_isLikedBefore 6 (some (.boolean)) 4 := ⟨⟨zB_t 524 (by decide +kernel) rfl, zB_t 5 (by decide +kernel) rfl, by decide +kernel, by decide +kernel, by decide +kernel⟩, zB_t 523 (by decide +kernel) rfl⟩
set_option maxRecDepth 20000 in
theorem yyX2_hold : zYv yX2_hold cX2_hold 5 none 1 := ⟨⟨zB_t 399 (by decide +kernel) rfl, zB_t 4 (by decide +kernel) rfl, by decide +kernel, by decide +kernel, by decide +kernel⟩, zB_t 397 (by decide +kernel) rfl, zB_t 398 (by decide +kernel) rfl⟩
set_option maxRecDepth 20000 in
theorem yyX2_partner : zYv yX2_partner cX2_partner 7 (some (.int)) 3 := ⟨⟨zB_t 409 (by decide +kernel) rfl, zB_t 4 (by decide +kernel) rfl, by decide +kernel, by decide +kernel, by decide +kernel⟩, zB_t 408 (by decide +kernel) rfl, zB_s 7 (by decide +kernel) rfl⟩
set_option maxRecDepth 20000 in
theorem yyX2_feelAndSay : zYv yX2_feelAndSay cX2_feelAndSay 6 none 3 := ⟨⟨zB_t 420 (by decide +kernel) rfl, zB_t 4 (by decide +kernel) rfl, by decide +kernel, by decide +kernel, by decide +kernel⟩, zB_t 419 (by decide +kernel) rfl, zB_s 8 (by decide +kernel) rfl⟩
set_option maxRecDepth 20000 in
theorem yyX2_feeling : zYv yX2_feeling cX2_feeling 6 (some (.int)) 4 := ⟨⟨zB_t 424 (by decide +kernel) rfl, zB_t 4 (by decide +kernel) rfl, by decide +kernel, by decide +kernel, by decide +kernel⟩, zB_t 423 (by decide +kernel) rfl, zB_s 9 (by decide +kernel) rfl⟩
set_option maxRecDepth 20000 in
theorem yyX2_isInShade : zYv yX2_isInShade cX2_isInShade 5 (some (.boolean)) 4 := ⟨⟨zB_t 432 (by decide +kernel) rfl, zB_t 4 (by decide +kernel) rfl, by decide +kernel, by decide +kernel, by decide +kernel⟩, zB_t 431 (by decide +kernel) rfl, zB_s 10 (by decide +kernel) rfl⟩
set_option maxRecDepth 20000 in
theorem yyX2_wasAlone : zYv yX2_wasAlone cX2_wasAlone 3 (some (.boolean)) 2 := ⟨⟨zB_t 436 (by decide +kernel) rfl, zB_t 4 (by decide +kernel) rfl, by decide +kernel, by decide +kernel, by decide +kernel⟩, zB_t 435 (by decide +kernel) rfl, zB_s 11 (by decide +kernel) rfl⟩
set_option maxRecDepth 20000 in
theorem yyX2_gaps : zYv yX2_gaps cX2_gaps 4 (some (.int)) 1 := ⟨⟨zB_t 443 (by decide +kernel) rfl, zB_t 4 (by decide +kernel) rfl, by decide +kernel, by decide +kernel, by decide +kernel⟩, zB_t 441 (by decide +kernel) rfl, zB_t 442 (by decide +kernel) rfl⟩
set_option maxRecDepth 20000 in
theorem yyX2_allGaps : zYv yX2_allGaps cX2_allGaps 4 (some (.int)) 1 := ⟨⟨zB_t 668 (by decide +kernel) rfl, zB_t 4 (by decide +kernel) rfl, by decide +kernel, by decide +kernel, by decide +kernel⟩, zB_t 666 (by decide +kernel) rfl, zB_t 667 (by decide +kernel) rfl⟩
set_option maxRecDepth 20000 in
theorem yyX2_saysYes : zYv yX2_saysYes cX2_saysYes 3 (some (.boolean)) 2 := ⟨⟨zB_t 489 (by decide +kernel) rfl, zB_t 4 (by decide +kernel) rfl, by decide +kernel, by decide +kernel, by decide +kernel⟩, zB_t 487 (by decide +kernel) rfl, zB_t 488 (by decide +kernel) rfl⟩
set_option maxRecDepth 20000 in
theorem yyX2_slipsFor : zYv yX2_slipsFor cX2_slipsFor 5 (some (.int)) 1 := ⟨⟨zB_t 485 (by decide +kernel) rfl, zB_t 4 (by decide +kernel) rfl, by decide +kernel, by decide +kernel, by decide +kernel⟩, zB_t 483 (by decide +kernel) rfl, zB_t 484 (by decide +kernel) rfl⟩
set_option maxRecDepth 20000 in
theorem yyX2_letAllMeetAll : zYv yX2_letAllMeetAll cX2_letAllMeetAll 7 (some (.boolean)) 1 := ⟨⟨zB_t 561 (by decide +kernel) rfl, zB_t 4 (by decide +kernel) rfl, by decide +kernel, by decide +kernel, by decide +kernel⟩, zB_t 559 (by decide +kernel) rfl, zB_t 560 (by decide +kernel) rfl⟩
set_option maxRecDepth 20000 in
theorem yyX3_isFull : zYv yX3_isFull cX3_isFull 1 (some (.boolean)) 0 := ⟨⟨zB_t 187 (by decide +kernel) rfl, zB_t 3 (by decide +kernel) rfl, by decide +kernel, by decide +kernel, by decide +kernel⟩, zB_t 185 (by decide +kernel) rfl, zB_t 186 (by decide +kernel) rfl⟩
set_option maxRecDepth 20000 in
theorem yyX3_add : zYv yX3_add cX3_add 2 (some (.int)) 1 := ⟨⟨zB_t 191 (by decide +kernel) rfl, zB_t 3 (by decide +kernel) rfl, by decide +kernel, by decide +kernel, by decide +kernel⟩, zB_t 189 (by decide +kernel) rfl, zB_t 190 (by decide +kernel) rfl⟩
set_option maxRecDepth 20000 in
theorem yyX3_forget : zYv yX3_forget cX3_forget 1 none 0 := ⟨⟨zB_t 327 (by decide +kernel) rfl, zB_t 3 (by decide +kernel) rfl, by decide +kernel, by decide +kernel, by decide +kernel⟩, zB_t 325 (by decide +kernel) rfl, zB_t 326 (by decide +kernel) rfl⟩
set_option maxRecDepth 20000 in
theorem yyX3_firstBadLetter : zYv yX3_firstBadLetter cX3_firstBadLetter 4 (some (.int)) 0 := ⟨⟨zB_t 200 (by decide +kernel) rfl, zB_t 3 (by decide +kernel) rfl, by decide +kernel, by decide +kernel, by decide +kernel⟩, zB_t 198 (by decide +kernel) rfl, zB_t 199 (by decide +kernel) rfl⟩
set_option maxRecDepth 20000 in
theorem yyX3_formBehind : zYs yX3_formBehind cX3_formBehind 1 (some (.object "java/lang/String")) 1 := ⟨⟨zB_t 203 (by decide +kernel) rfl, zB_t 3 (by decide +kernel) rfl, by decide +kernel, by decide +kernel, by decide +kernel⟩, zB_t 202 (by decide +kernel) rfl⟩
set_option maxRecDepth 20000 in
theorem yyX3_fits : zYs yX3_fits cX3_fits 2 (some (.boolean)) 2 := ⟨⟨zB_t 263 (by decide +kernel) rfl, zB_t 3 (by decide +kernel) rfl, by decide +kernel, by decide +kernel, by decide +kernel⟩, zB_t 262 (by decide +kernel) rfl⟩
set_option maxRecDepth 20000 in
theorem yyX3_statements : zYv yX3_statements cX3_statements 3 (some (.int)) 0 := ⟨⟨zB_t 389 (by decide +kernel) rfl, zB_t 3 (by decide +kernel) rfl, by decide +kernel, by decide +kernel, by decide +kernel⟩, zB_t 387 (by decide +kernel) rfl, zB_t 388 (by decide +kernel) rfl⟩
set_option maxRecDepth 20000 in
theorem yyX3_carryOut : zYv yX3_carryOut cX3_carryOut 3 (some (.int)) 1 := ⟨⟨zB_t 338 (by decide +kernel) rfl, zB_t 3 (by decide +kernel) rfl, by decide +kernel, by decide +kernel, by decide +kernel⟩, zB_t 336 (by decide +kernel) rfl, zB_t 337 (by decide +kernel) rfl⟩
set_option maxRecDepth 20000 in
theorem yyX3_carryOutOne : zYv yX3_carryOutOne cX3_carryOutOne 3 (some (.boolean)) 2 := ⟨⟨zB_t 342 (by decide +kernel) rfl, zB_t 3 (by decide +kernel) rfl, by decide +kernel, by decide +kernel, by decide +kernel⟩, zB_t 341 (by decide +kernel) rfl, zB_s 1 (by decide +kernel) rfl⟩
set_option maxRecDepth 20000 in
theorem yyX3_setLiking : zYv yX3_setLiking cX3_setLiking 5 (some (.boolean)) 2 := ⟨⟨zB_t 362 (by decide +kernel) rfl, zB_t 3 (by decide +kernel) rfl, by decide +kernel, by decide +kernel, by decide +kernel⟩, zB_t 361 (by decide +kernel) rfl, zB_s 4 (by decide +kernel) rfl⟩
set_option maxRecDepth 20000 in
theorem yyX3_setOrder : zYv yX3_setOrder cX3_setOrder 5 (some (.boolean)) 2 := ⟨⟨zB_t 378 (by decide +kernel) rfl, zB_t 3 (by decide +kernel) rfl, by decide +kernel, by decide +kernel, by decide +kernel⟩, zB_t 377 (by decide +kernel) rfl, zB_s 5 (by decide +kernel) rfl⟩
set_option maxRecDepth 20000 in
theorem yyX3_setLaw : zYv yX3_setLaw cX3_setLaw 4 (some (.boolean)) 2 := ⟨⟨zB_t 382 (by decide +kernel) rfl, zB_t 3 (by decide +kernel) rfl, by decide +kernel, by decide +kernel, by decide +kernel⟩, zB_t 381 (by decide +kernel) rfl, zB_s 6 (by decide +kernel) rfl⟩
set_option maxRecDepth 20000 in
theorem yyX3_kindAt : zYv yX3_kindAt cX3_kindAt 2 (some (.int)) 1 := ⟨⟨zB_t 346 (by decide +kernel) rfl, zB_t 3 (by decide +kernel) rfl, by decide +kernel, by decide +kernel, by decide +kernel⟩, zB_t 345 (by decide +kernel) rfl, zB_s 2 (by decide +kernel) rfl⟩
set_option maxRecDepth 20000 in
theorem yyX3_digitAt : zYv yX3_digitAt cX3_digitAt 2 (some (.int)) 1 := ⟨⟨zB_t 350 (by decide +kernel) rfl, zB_t 3 (by decide +kernel) rfl, by decide +kernel, by decide +kernel, by decide +kernel⟩, zB_t 349 (by decide +kernel) rfl, zB_s 3 (by decide +kernel) rfl⟩
set_option maxRecDepth 20000 in
theorem yyX4_become : zYv yX4_become cX4_become 2 none 1 := ⟨⟨zB_t 331 (by decide +kernel) rfl, zB_t 2 (by decide +kernel) rfl, by decide +kernel, by decide +kernel, by decide +kernel⟩, zB_t 329 (by decide +kernel) rfl, zB_t 330 (by decide +kernel) rfl⟩
set_option maxRecDepth 20000 in
theorem yyX4_isThere : zYv yX4_isThere cX4_isThere 2 (some (.boolean)) 1 := ⟨⟨zB_t 370 (by decide +kernel) rfl, zB_t 2 (by decide +kernel) rfl, by decide +kernel, by decide +kernel, by decide +kernel⟩, zB_t 368 (by decide +kernel) rfl, zB_t 369 (by decide +kernel) rfl⟩
set_option maxRecDepth 20000 in
theorem yyX4_areUnlike : zYv yX4_areUnlike cX4_areUnlike 3 (some (.boolean)) 2 := ⟨⟨zB_t 366 (by decide +kernel) rfl, zB_t 2 (by decide +kernel) rfl, by decide +kernel, by decide +kernel, by decide +kernel⟩, zB_t 364 (by decide +kernel) rfl, zB_t 365 (by decide +kernel) rfl⟩
set_option maxRecDepth 20000 in
theorem yyX4_howManyPeople : zYv yX4_howManyPeople cX4_howManyPeople 1 (some (.int)) 0 := ⟨⟨zB_t 636 (by decide +kernel) rfl, zB_t 2 (by decide +kernel) rfl, by decide +kernel, by decide +kernel, by decide +kernel⟩, zB_t 634 (by decide +kernel) rfl, zB_t 635 (by decide +kernel) rfl⟩
set_option maxRecDepth 20000 in
theorem yyX4_howManyFacing : zYv yX4_howManyFacing cX4_howManyFacing 2 (some (.int)) 1 := ⟨⟨zB_t 507 (by decide +kernel) rfl, zB_t 2 (by decide +kernel) rfl, by decide +kernel, by decide +kernel, by decide +kernel⟩, zB_t 505 (by decide +kernel) rfl, zB_t 506 (by decide +kernel) rfl⟩
set_option maxRecDepth 20000 in
theorem yyX4_rounds : zYv yX4_rounds cX4_rounds 1 (some (.int)) 0 := ⟨⟨zB_t 403 (by decide +kernel) rfl, zB_t 2 (by decide +kernel) rfl, by decide +kernel, by decide +kernel, by decide +kernel⟩, zB_t 401 (by decide +kernel) rfl, zB_t 402 (by decide +kernel) rfl⟩
set_option maxRecDepth 20000 in
theorem yyX4_isRound : zYv yX4_isRound cX4_isRound 2 (some (.boolean)) 1 := ⟨⟨zB_t 471 (by decide +kernel) rfl, zB_t 2 (by decide +kernel) rfl, by decide +kernel, by decide +kernel, by decide +kernel⟩, zB_t 469 (by decide +kernel) rfl, zB_t 470 (by decide +kernel) rfl⟩
set_option maxRecDepth 20000 in
theorem yyX4_likes : zYv yX4_likes cX4_likes 3 (some (.int)) 2 := ⟨⟨zB_t 428 (by decide +kernel) rfl, zB_t 2 (by decide +kernel) rfl, by decide +kernel, by decide +kernel, by decide +kernel⟩, zB_t 426 (by decide +kernel) rfl, zB_t 427 (by decide +kernel) rfl⟩
set_option maxRecDepth 20000 in
theorem yyX4_setLiking : zYv yX4_setLiking cX4_setLiking 4 none 3 := ⟨⟨zB_t 358 (by decide +kernel) rfl, zB_t 2 (by decide +kernel) rfl, by decide +kernel, by decide +kernel, by decide +kernel⟩, zB_t 356 (by decide +kernel) rfl, zB_t 357 (by decide +kernel) rfl⟩
set_option maxRecDepth 20000 in
theorem yyX4_addPerson : zYv yX4_addPerson cX4_addPerson 6 (some (.boolean)) 3 := ⟨⟨zB_t 354 (by decide +kernel) rfl, zB_t 2 (by decide +kernel) rfl, by decide +kernel, by decide +kernel, by decide +kernel⟩, zB_t 352 (by decide +kernel) rfl, zB_t 353 (by decide +kernel) rfl⟩
set_option maxRecDepth 20000 in
theorem yyX4_drawLikings : zYv yX4_drawLikings cX4_drawLikings 5 (some (.int)) 1 := ⟨⟨zB_t 646 (by decide +kernel) rfl, zB_t 2 (by decide +kernel) rfl, by decide +kernel, by decide +kernel, by decide +kernel⟩, zB_t 644 (by decide +kernel) rfl, zB_t 645 (by decide +kernel) rfl⟩
set_option maxRecDepth 20000 in
theorem yyX5_letter : zYv yX5_letter cX5_letter 2 (some (.int)) 1 := ⟨⟨zB_t 179 (by decide +kernel) rfl, zB_t 1 (by decide +kernel) rfl, by decide +kernel, by decide +kernel, by decide +kernel⟩, zB_t 177 (by decide +kernel) rfl, zB_t 178 (by decide +kernel) rfl⟩
set_option maxRecDepth 20000 in
theorem yyX5_evening : zYv yX5_evening cX5_evening 4 (some (.int)) 0 := ⟨⟨zB_t 196 (by decide +kernel) rfl, zB_t 1 (by decide +kernel) rfl, by decide +kernel, by decide +kernel, by decide +kernel⟩, zB_t 194 (by decide +kernel) rfl, zB_t 195 (by decide +kernel) rfl⟩
set_option maxRecDepth 20000 in
theorem yyX5_person : zYv yX5_person cX5_person 3 (some (.int)) 2 := ⟨⟨zB_t 394 (by decide +kernel) rfl, zB_t 1 (by decide +kernel) rfl, by decide +kernel, by decide +kernel, by decide +kernel⟩, zB_t 392 (by decide +kernel) rfl, zB_t 393 (by decide +kernel) rfl⟩
set_option maxRecDepth 20000 in
theorem yyX5_liking : zYv yX5_liking cX5_liking 3 (some (.int)) 2 := ⟨⟨zB_t 447 (by decide +kernel) rfl, zB_t 1 (by decide +kernel) rfl, by decide +kernel, by decide +kernel, by decide +kernel⟩, zB_t 445 (by decide +kernel) rfl, zB_t 446 (by decide +kernel) rfl⟩
set_option maxRecDepth 20000 in
theorem yyX5_like : zYv yX5_like cX5_like 5 (some (.int)) 3 := ⟨⟨zB_t 453 (by decide +kernel) rfl, zB_t 1 (by decide +kernel) rfl, by decide +kernel, by decide +kernel, by decide +kernel⟩, zB_t 451 (by decide +kernel) rfl, zB_t 452 (by decide +kernel) rfl⟩
set_option maxRecDepth 20000 in
theorem yyX5_order : zYv yX5_order cX5_order 4 (some (.int)) 2 := ⟨⟨zB_t 458 (by decide +kernel) rfl, zB_t 1 (by decide +kernel) rfl, by decide +kernel, by decide +kernel, by decide +kernel⟩, zB_t 456 (by decide +kernel) rfl, zB_t 457 (by decide +kernel) rfl⟩
set_option maxRecDepth 20000 in
theorem yyX5_law : zYv yX5_law cX5_law 3 (some (.int)) 1 := ⟨⟨zB_t 462 (by decide +kernel) rfl, zB_t 1 (by decide +kernel) rfl, by decide +kernel, by decide +kernel, by decide +kernel⟩, zB_t 460 (by decide +kernel) rfl, zB_t 461 (by decide +kernel) rfl⟩
set_option maxRecDepth 20000 in
theorem yyX5_meets : zYv yX5_meets cX5_meets 3 (some (.int)) 2 := ⟨⟨zB_t 467 (by decide +kernel) rfl, zB_t 1 (by decide +kernel) rfl, by decide +kernel, by decide +kernel, by decide +kernel⟩, zB_t 465 (by decide +kernel) rfl, zB_t 466 (by decide +kernel) rfl⟩
set_option maxRecDepth 20000 in
theorem yyX5_felt : zYv yX5_felt cX5_felt 3 (some (.int)) 2 := ⟨⟨zB_t 476 (by decide +kernel) rfl, zB_t 1 (by decide +kernel) rfl, by decide +kernel, by decide +kernel, by decide +kernel⟩, zB_t 474 (by decide +kernel) rfl, zB_t 475 (by decide +kernel) rfl⟩
set_option maxRecDepth 20000 in
theorem yyX5_yeses : zYv yX5_yeses cX5_yeses 3 (some (.int)) 2 := ⟨⟨zB_t 481 (by decide +kernel) rfl, zB_t 1 (by decide +kernel) rfl, by decide +kernel, by decide +kernel, by decide +kernel⟩, zB_t 479 (by decide +kernel) rfl, zB_t 480 (by decide +kernel) rfl⟩
set_option maxRecDepth 20000 in
theorem yyX5_pairs : zYv yX5_pairs cX5_pairs 2 (some (.int)) 1 := ⟨⟨zB_t 493 (by decide +kernel) rfl, zB_t 1 (by decide +kernel) rfl, by decide +kernel, by decide +kernel, by decide +kernel⟩, zB_t 491 (by decide +kernel) rfl, zB_t 492 (by decide +kernel) rfl⟩
set_option maxRecDepth 20000 in
theorem yyX5_glad : zYv yX5_glad cX5_glad 3 (some (.int)) 2 := ⟨⟨zB_t 545 (by decide +kernel) rfl, zB_t 1 (by decide +kernel) rfl, by decide +kernel, by decide +kernel, by decide +kernel⟩, zB_t 543 (by decide +kernel) rfl, zB_t 544 (by decide +kernel) rfl⟩
set_option maxRecDepth 20000 in
theorem yyX5_shaded : zYv yX5_shaded cX5_shaded 1 (some (.int)) 0 := ⟨⟨zB_t 553 (by decide +kernel) rfl, zB_t 1 (by decide +kernel) rfl, by decide +kernel, by decide +kernel, by decide +kernel⟩, zB_t 551 (by decide +kernel) rfl, zB_t 552 (by decide +kernel) rfl⟩
set_option maxRecDepth 20000 in
theorem yyX5_bestOrder : zYv yX5_bestOrder cX5_bestOrder 6 (some (.int)) 0 := ⟨⟨zB_t 557 (by decide +kernel) rfl, zB_t 1 (by decide +kernel) rfl, by decide +kernel, by decide +kernel, by decide +kernel⟩, zB_t 555 (by decide +kernel) rfl, zB_t 556 (by decide +kernel) rfl⟩
set_option maxRecDepth 20000 in
theorem yyX5_ranks : zYv yX5_ranks cX5_ranks 2 (some (.int)) 1 := ⟨⟨zB_t 565 (by decide +kernel) rfl, zB_t 1 (by decide +kernel) rfl, by decide +kernel, by decide +kernel, by decide +kernel⟩, zB_t 563 (by decide +kernel) rfl, zB_t 564 (by decide +kernel) rfl⟩
set_option maxRecDepth 20000 in
theorem yyX5_asked : zYv yX5_asked cX5_asked 2 (some (.int)) 1 := ⟨⟨zB_t 574 (by decide +kernel) rfl, zB_t 1 (by decide +kernel) rfl, by decide +kernel, by decide +kernel, by decide +kernel⟩, zB_t 572 (by decide +kernel) rfl, zB_t 573 (by decide +kernel) rfl⟩
set_option maxRecDepth 20000 in
theorem yyX5_firm : zYv yX5_firm cX5_firm 1 (some (.int)) 0 := ⟨⟨zB_t 578 (by decide +kernel) rfl, zB_t 1 (by decide +kernel) rfl, by decide +kernel, by decide +kernel, by decide +kernel⟩, zB_t 576 (by decide +kernel) rfl, zB_t 577 (by decide +kernel) rfl⟩
set_option maxRecDepth 20000 in
theorem yyX5_row : zYv yX5_row cX5_row 2 (some (.int)) 1 := ⟨⟨zB_t 608 (by decide +kernel) rfl, zB_t 1 (by decide +kernel) rfl, by decide +kernel, by decide +kernel, by decide +kernel⟩, zB_t 606 (by decide +kernel) rfl, zB_t 607 (by decide +kernel) rfl⟩
set_option maxRecDepth 20000 in
theorem yyX5_rather : zYv yX5_rather cX5_rather 1 (some (.int)) 0 := ⟨⟨zB_t 612 (by decide +kernel) rfl, zB_t 1 (by decide +kernel) rfl, by decide +kernel, by decide +kernel, by decide +kernel⟩, zB_t 610 (by decide +kernel) rfl, zB_t 611 (by decide +kernel) rfl⟩
set_option maxRecDepth 20000 in
theorem yyX5_truly : zYv yX5_truly cX5_truly 6 (some (.int)) 2 := ⟨⟨zB_t 623 (by decide +kernel) rfl, zB_t 1 (by decide +kernel) rfl, by decide +kernel, by decide +kernel, by decide +kernel⟩, zB_t 621 (by decide +kernel) rfl, zB_t 622 (by decide +kernel) rfl⟩
set_option maxRecDepth 20000 in
theorem yyX5_judge : zYv yX5_judge cX5_judge 6 (some (.int)) 0 := ⟨⟨zB_t 628 (by decide +kernel) rfl, zB_t 1 (by decide +kernel) rfl, by decide +kernel, by decide +kernel, by decide +kernel⟩, zB_t 626 (by decide +kernel) rfl, zB_t 627 (by decide +kernel) rfl⟩
set_option maxRecDepth 20000 in
theorem yyX5_clear : zYv yX5_clear cX5_clear 2 (some (.int)) 0 := ⟨⟨zB_t 632 (by decide +kernel) rfl, zB_t 1 (by decide +kernel) rfl, by decide +kernel, by decide +kernel, by decide +kernel⟩, zB_t 630 (by decide +kernel) rfl, zB_t 631 (by decide +kernel) rfl⟩
set_option maxRecDepth 20000 in
theorem yyX5_lots : zYv yX5_lots cX5_lots 6 (some (.int)) 2 := ⟨⟨zB_t 642 (by decide +kernel) rfl, zB_t 1 (by decide +kernel) rfl, by decide +kernel, by decide +kernel, by decide +kernel⟩, zB_t 640 (by decide +kernel) rfl, zB_t 641 (by decide +kernel) rfl⟩
set_option maxRecDepth 20000 in
theorem yyX5_image : zYv yX5_image cX5_image 1 (some (.int)) 0 := ⟨⟨zB_t 655 (by decide +kernel) rfl, zB_t 1 (by decide +kernel) rfl, by decide +kernel, by decide +kernel, by decide +kernel⟩, zB_t 653 (by decide +kernel) rfl, zB_t 654 (by decide +kernel) rfl⟩
set_option maxRecDepth 20000 in
theorem yyX5_on : zYv yX5_on cX5_on 1 (some (.int)) 0 := ⟨⟨zB_t 659 (by decide +kernel) rfl, zB_t 1 (by decide +kernel) rfl, by decide +kernel, by decide +kernel, by decide +kernel⟩, zB_t 657 (by decide +kernel) rfl, zB_t 658 (by decide +kernel) rfl⟩
set_option maxRecDepth 20000 in
theorem yyX5_count : zYv yX5_count cX5_count 2 (some (.int)) 1 := ⟨⟨zB_t 663 (by decide +kernel) rfl, zB_t 1 (by decide +kernel) rfl, by decide +kernel, by decide +kernel, by decide +kernel⟩, zB_t 661 (by decide +kernel) rfl, zB_t 662 (by decide +kernel) rfl⟩
set_option maxRecDepth 20000 in
theorem yyX5_refuse : zYv yX5_refuse cX5_refuse 2 (some (.int)) 1 := ⟨⟨zB_t 183 (by decide +kernel) rfl, zB_t 1 (by decide +kernel) rfl, by decide +kernel, by decide +kernel, by decide +kernel⟩, zB_t 182 (by decide +kernel) rfl, zB_s 0 (by decide +kernel) rfl⟩
set_option maxRecDepth 20000 in
theorem yyX5_gotWhenAsking : zYv yX5_gotWhenAsking cX5_gotWhenAsking 3 (some (.int)) 2 := ⟨⟨zB_t 569 (by decide +kernel) rfl, zB_t 1 (by decide +kernel) rfl, by decide +kernel, by decide +kernel, by decide +kernel⟩, zB_t 568 (by decide +kernel) rfl, zB_s 15 (by decide +kernel) rfl⟩
set_option maxRecDepth 20000 in
theorem yyX5_holdAsTheRowTells : zYv yX5_holdAsTheRowTells cX5_holdAsTheRowTells 3 (some (.boolean)) 0 := ⟨⟨zB_t 616 (by decide +kernel) rfl, zB_t 1 (by decide +kernel) rfl, by decide +kernel, by decide +kernel, by decide +kernel⟩, zB_t 615 (by decide +kernel) rfl, zB_s 18 (by decide +kernel) rfl⟩
set_option maxRecDepth 20000 in
theorem yyX5_isLaw : zYs yX5_isLaw cX5_isLaw 1 (some (.boolean)) 1 := ⟨⟨zB_t 385 (by decide +kernel) rfl, zB_t 1 (by decide +kernel) rfl, by decide +kernel, by decide +kernel, by decide +kernel⟩, zB_t 384 (by decide +kernel) rfl⟩
set_option maxRecDepth 20000 in
theorem yyX5_sideOf : zYs yX5_sideOf cX5_sideOf 1 (some (.int)) 1 := ⟨⟨zB_t 373 (by decide +kernel) rfl, zB_t 1 (by decide +kernel) rfl, by decide +kernel, by decide +kernel, by decide +kernel⟩, zB_t 372 (by decide +kernel) rfl⟩
set_option maxRecDepth 20000 in
theorem yyX5_bitOf : zYs yX5_bitOf cX5_bitOf 1 (some (.int)) 1 := ⟨⟨zB_t 439 (by decide +kernel) rfl, zB_t 1 (by decide +kernel) rfl, by decide +kernel, by decide +kernel, by decide +kernel⟩, zB_t 438 (by decide +kernel) rfl⟩
set_option maxRecDepth 20000 in
theorem yyX5_otherStart : zYs yX5_otherStart cX5_otherStart 1 (some (.int)) 1 := ⟨⟨zB_t 413 (by decide +kernel) rfl, zB_t 1 (by decide +kernel) rfl, by decide +kernel, by decide +kernel, by decide +kernel⟩, zB_t 412 (by decide +kernel) rfl⟩
set_option maxRecDepth 20000 in
theorem yyX6_in : zYv yX6_in cX6_in 4 (some (.boolean)) 3 := ⟨⟨zB_t 829 (by decide +kernel) rfl, zB_t 7 (by decide +kernel) rfl, by decide +kernel, by decide +kernel, by decide +kernel⟩, zB_t 828 (by decide +kernel) rfl, zB_s 28 (by decide +kernel) rfl⟩
set_option maxRecDepth 20000 in
theorem yyX6_has : zYv yX6_has cX6_has 3 (some (.boolean)) 2 := ⟨⟨zB_t 978 (by decide +kernel) rfl, zB_t 7 (by decide +kernel) rfl, by decide +kernel, by decide +kernel, by decide +kernel⟩, zB_t 977 (by decide +kernel) rfl, zB_s 56 (by decide +kernel) rfl⟩
set_option maxRecDepth 20000 in
theorem yyX6_no : zYv yX6_no cX6_no 2 (some (.int)) 1 := ⟨⟨zB_t 789 (by decide +kernel) rfl, zB_t 7 (by decide +kernel) rfl, by decide +kernel, by decide +kernel, by decide +kernel⟩, zB_t 788 (by decide +kernel) rfl, zB_s 19 (by decide +kernel) rfl⟩
set_option maxRecDepth 20000 in
theorem yyX6_isOf : zYv yX6_isOf cX6_isOf 4 (some (.boolean)) 3 := ⟨⟨zB_t 853 (by decide +kernel) rfl, zB_t 7 (by decide +kernel) rfl, by decide +kernel, by decide +kernel, by decide +kernel⟩, zB_t 852 (by decide +kernel) rfl, zB_s 34 (by decide +kernel) rfl⟩
set_option maxRecDepth 20000 in
theorem yyX6_isPerson : zYv yX6_isPerson cX6_isPerson 2 (some (.boolean)) 1 := ⟨⟨zB_t 877 (by decide +kernel) rfl, zB_t 7 (by decide +kernel) rfl, by decide +kernel, by decide +kernel, by decide +kernel⟩, zB_t 876 (by decide +kernel) rfl, zB_s 39 (by decide +kernel) rfl⟩
set_option maxRecDepth 20000 in
theorem yyX6_areTwo : zYv yX6_areTwo cX6_areTwo 3 (some (.boolean)) 2 := ⟨⟨zB_t 897 (by decide +kernel) rfl, zB_t 7 (by decide +kernel) rfl, by decide +kernel, by decide +kernel, by decide +kernel⟩, zB_t 896 (by decide +kernel) rfl, zB_s 43 (by decide +kernel) rfl⟩
set_option maxRecDepth 20000 in
theorem yyX6_likingOf : zYv yX6_likingOf cX6_likingOf 3 (some (.int)) 2 := ⟨⟨zB_t 901 (by decide +kernel) rfl, zB_t 7 (by decide +kernel) rfl, by decide +kernel, by decide +kernel, by decide +kernel⟩, zB_t 900 (by decide +kernel) rfl, zB_s 44 (by decide +kernel) rfl⟩
set_option maxRecDepth 20000 in
theorem yyX6_others : zYv yX6_others cX6_others 2 (some (.int)) 1 := ⟨⟨zB_t 950 (by decide +kernel) rfl, zB_t 7 (by decide +kernel) rfl, by decide +kernel, by decide +kernel, by decide +kernel⟩, zB_t 949 (by decide +kernel) rfl, zB_s 50 (by decide +kernel) rfl⟩
set_option maxRecDepth 20000 in
theorem yyX6_otherOf : zYv yX6_otherOf cX6_otherOf 3 (some (.int)) 2 := ⟨⟨zB_t 869 (by decide +kernel) rfl, zB_t 7 (by decide +kernel) rfl, by decide +kernel, by decide +kernel, by decide +kernel⟩, zB_t 868 (by decide +kernel) rfl, zB_s 38 (by decide +kernel) rfl⟩
set_option maxRecDepth 20000 in
theorem yyX6_letter : zYv yX6_letter cX6_letter 2 (some (.int)) 1 := ⟨⟨zB_t 785 (by decide +kernel) rfl, zB_t 7 (by decide +kernel) rfl, by decide +kernel, by decide +kernel, by decide +kernel⟩, zB_t 783 (by decide +kernel) rfl, zB_t 784 (by decide +kernel) rfl⟩
set_option maxRecDepth 20000 in
theorem yyX6_next : zYv yX6_next cX6_next 1 (some (.int)) 0 := ⟨⟨zB_t 805 (by decide +kernel) rfl, zB_t 7 (by decide +kernel) rfl, by decide +kernel, by decide +kernel, by decide +kernel⟩, zB_t 804 (by decide +kernel) rfl, zB_s 22 (by decide +kernel) rfl⟩
set_option maxRecDepth 20000 in
theorem yyX6_takes : zYv yX6_takes cX6_takes 2 (some (.boolean)) 1 := ⟨⟨zB_t 841 (by decide +kernel) rfl, zB_t 7 (by decide +kernel) rfl, by decide +kernel, by decide +kernel, by decide +kernel⟩, zB_t 840 (by decide +kernel) rfl, zB_s 31 (by decide +kernel) rfl⟩
set_option maxRecDepth 20000 in
theorem yyX6_digit : zYv yX6_digit cX6_digit 1 (some (.int)) 0 := ⟨⟨zB_t 825 (by decide +kernel) rfl, zB_t 7 (by decide +kernel) rfl, by decide +kernel, by decide +kernel, by decide +kernel⟩, zB_t 824 (by decide +kernel) rfl, zB_s 27 (by decide +kernel) rfl⟩
set_option maxRecDepth 20000 in
theorem yyX6_kindOf : zYv yX6_kindOf cX6_kindOf 2 (some (.int)) 1 := ⟨⟨zB_t 817 (by decide +kernel) rfl, zB_t 7 (by decide +kernel) rfl, by decide +kernel, by decide +kernel, by decide +kernel⟩, zB_t 816 (by decide +kernel) rfl, zB_s 25 (by decide +kernel) rfl⟩
set_option maxRecDepth 20000 in
theorem yyX6_takesKind : zYv yX6_takesKind cX6_takesKind 1 (some (.boolean)) 0 := ⟨⟨zB_t 813 (by decide +kernel) rfl, zB_t 7 (by decide +kernel) rfl, by decide +kernel, by decide +kernel, by decide +kernel⟩, zB_t 812 (by decide +kernel) rfl, zB_s 24 (by decide +kernel) rfl⟩
set_option maxRecDepth 20000 in
theorem yyX6_takesOne : zYv yX6_takesOne cX6_takesOne 1 (some (.boolean)) 0 := ⟨⟨zB_t 821 (by decide +kernel) rfl, zB_t 7 (by decide +kernel) rfl, by decide +kernel, by decide +kernel, by decide +kernel⟩, zB_t 820 (by decide +kernel) rfl, zB_s 26 (by decide +kernel) rfl⟩
set_option maxRecDepth 20000 in
theorem yyX6_takesTwo : zYv yX6_takesTwo cX6_takesTwo 1 (some (.boolean)) 0 := ⟨⟨zB_t 837 (by decide +kernel) rfl, zB_t 7 (by decide +kernel) rfl, by decide +kernel, by decide +kernel, by decide +kernel⟩, zB_t 836 (by decide +kernel) rfl, zB_s 30 (by decide +kernel) rfl⟩
set_option maxRecDepth 20000 in
theorem yyX6_takesThree : zYv yX6_takesThree cX6_takesThree 1 (some (.boolean)) 0 := ⟨⟨zB_t 833 (by decide +kernel) rfl, zB_t 7 (by decide +kernel) rfl, by decide +kernel, by decide +kernel, by decide +kernel⟩, zB_t 832 (by decide +kernel) rfl, zB_s 29 (by decide +kernel) rfl⟩
set_option maxRecDepth 20000 in
theorem yyX6_takesRest : zYv yX6_takesRest cX6_takesRest 2 (some (.boolean)) 1 := ⟨⟨zB_t 809 (by decide +kernel) rfl, zB_t 7 (by decide +kernel) rfl, by decide +kernel, by decide +kernel, by decide +kernel⟩, zB_t 808 (by decide +kernel) rfl, zB_s 23 (by decide +kernel) rfl⟩
set_option maxRecDepth 20000 in
theorem yyX6_takesStatement : zYv yX6_takesStatement cX6_takesStatement 2 (some (.boolean)) 0 := ⟨⟨zB_t 801 (by decide +kernel) rfl, zB_t 7 (by decide +kernel) rfl, by decide +kernel, by decide +kernel, by decide +kernel⟩, zB_t 800 (by decide +kernel) rfl, zB_s 21 (by decide +kernel) rfl⟩
set_option maxRecDepth 20000 in
theorem yyX6_isText : zYv yX6_isText cX6_isText 2 (some (.boolean)) 0 := ⟨⟨zB_t 797 (by decide +kernel) rfl, zB_t 7 (by decide +kernel) rfl, by decide +kernel, by decide +kernel, by decide +kernel⟩, zB_t 796 (by decide +kernel) rfl, zB_s 20 (by decide +kernel) rfl⟩
set_option maxRecDepth 20000 in
theorem yyX6_isGood : zYv yX6_isGood cX6_isGood 4 (some (.boolean)) 3 := ⟨⟨zB_t 849 (by decide +kernel) rfl, zB_t 7 (by decide +kernel) rfl, by decide +kernel, by decide +kernel, by decide +kernel⟩, zB_t 848 (by decide +kernel) rfl, zB_s 33 (by decide +kernel) rfl⟩
set_option maxRecDepth 20000 in
theorem yyX6_wrongPlace : zYv yX6_wrongPlace cX6_wrongPlace 5 (some (.int)) 0 := ⟨⟨zB_t 845 (by decide +kernel) rfl, zB_t 7 (by decide +kernel) rfl, by decide +kernel, by decide +kernel, by decide +kernel⟩, zB_t 844 (by decide +kernel) rfl, zB_s 32 (by decide +kernel) rfl⟩
set_option maxRecDepth 20000 in
theorem yyX6_newOne : zYv yX6_newOne cX6_newOne 3 none 1 := ⟨⟨zB_t 865 (by decide +kernel) rfl, zB_t 7 (by decide +kernel) rfl, by decide +kernel, by decide +kernel, by decide +kernel⟩, zB_t 864 (by decide +kernel) rfl, zB_s 37 (by decide +kernel) rfl⟩
set_option maxRecDepth 20000 in
theorem yyX6_comes : zYv yX6_comes cX6_comes 2 none 1 := ⟨⟨zB_t 861 (by decide +kernel) rfl, zB_t 7 (by decide +kernel) rfl, by decide +kernel, by decide +kernel, by decide +kernel⟩, zB_t 860 (by decide +kernel) rfl, zB_s 36 (by decide +kernel) rfl⟩
set_option maxRecDepth 20000 in
theorem yyX6_comesAll : zYv yX6_comesAll cX6_comesAll 4 (some (.int)) 0 := ⟨⟨zB_t 857 (by decide +kernel) rfl, zB_t 7 (by decide +kernel) rfl, by decide +kernel, by decide +kernel, by decide +kernel⟩, zB_t 856 (by decide +kernel) rfl, zB_s 35 (by decide +kernel) rfl⟩
set_option maxRecDepth 20000 in
theorem yyX6_evening : zYv yX6_evening cX6_evening 3 (some (.int)) 0 := ⟨⟨zB_t 793 (by decide +kernel) rfl, zB_t 7 (by decide +kernel) rfl, by decide +kernel, by decide +kernel, by decide +kernel⟩, zB_t 791 (by decide +kernel) rfl, zB_t 792 (by decide +kernel) rfl⟩
set_option maxRecDepth 20000 in
theorem yyX6_roundsNow : zYv yX6_roundsNow cX6_roundsNow 1 (some (.int)) 0 := ⟨⟨zB_t 885 (by decide +kernel) rfl, zB_t 7 (by decide +kernel) rfl, by decide +kernel, by decide +kernel, by decide +kernel⟩, zB_t 884 (by decide +kernel) rfl, zB_s 41 (by decide +kernel) rfl⟩
set_option maxRecDepth 20000 in
theorem yyX6_isRound : zYv yX6_isRound cX6_isRound 2 (some (.boolean)) 1 := ⟨⟨zB_t 921 (by decide +kernel) rfl, zB_t 7 (by decide +kernel) rfl, by decide +kernel, by decide +kernel, by decide +kernel⟩, zB_t 920 (by decide +kernel) rfl, zB_s 45 (by decide +kernel) rfl⟩
set_option maxRecDepth 20000 in
theorem yyX6_metBy : zYv yX6_metBy cX6_metBy 5 (some (.int)) 2 := ⟨⟨zB_t 889 (by decide +kernel) rfl, zB_t 7 (by decide +kernel) rfl, by decide +kernel, by decide +kernel, by decide +kernel⟩, zB_t 888 (by decide +kernel) rfl, zB_s 42 (by decide +kernel) rfl⟩
set_option maxRecDepth 20000 in
theorem yyX6_behindOf : zYv yX6_behindOf cX6_behindOf 3 (some (.int)) 2 := ⟨⟨zB_t 938 (by decide +kernel) rfl, zB_t 7 (by decide +kernel) rfl, by decide +kernel, by decide +kernel, by decide +kernel⟩, zB_t 937 (by decide +kernel) rfl, zB_s 48 (by decide +kernel) rfl⟩
set_option maxRecDepth 20000 in
theorem yyX6_tired : zYv yX6_tired cX6_tired 4 (some (.int)) 3 := ⟨⟨zB_t 934 (by decide +kernel) rfl, zB_t 7 (by decide +kernel) rfl, by decide +kernel, by decide +kernel, by decide +kernel⟩, zB_t 933 (by decide +kernel) rfl, zB_s 47 (by decide +kernel) rfl⟩
set_option maxRecDepth 20000 in
theorem yyX6_feels : zYv yX6_feels cX6_feels 6 (some (.int)) 3 := ⟨⟨zB_t 930 (by decide +kernel) rfl, zB_t 7 (by decide +kernel) rfl, by decide +kernel, by decide +kernel, by decide +kernel⟩, zB_t 929 (by decide +kernel) rfl, zB_s 46 (by decide +kernel) rfl⟩
set_option maxRecDepth 20000 in
theorem yyX6_saysYes : zYv yX6_saysYes cX6_saysYes 4 (some (.boolean)) 2 := ⟨⟨zB_t 954 (by decide +kernel) rfl, zB_t 7 (by decide +kernel) rfl, by decide +kernel, by decide +kernel, by decide +kernel⟩, zB_t 953 (by decide +kernel) rfl, zB_s 51 (by decide +kernel) rfl⟩
set_option maxRecDepth 20000 in
theorem yyX6_yesesOf : zYv yX6_yesesOf cX6_yesesOf 4 (some (.int)) 1 := ⟨⟨zB_t 946 (by decide +kernel) rfl, zB_t 7 (by decide +kernel) rfl, by decide +kernel, by decide +kernel, by decide +kernel⟩, zB_t 945 (by decide +kernel) rfl, zB_s 49 (by decide +kernel) rfl⟩
set_option maxRecDepth 20000 in
theorem yyX6_yesesTo : zYv yX6_yesesTo cX6_yesesTo 4 (some (.int)) 1 := ⟨⟨zB_t 958 (by decide +kernel) rfl, zB_t 7 (by decide +kernel) rfl, by decide +kernel, by decide +kernel, by decide +kernel⟩, zB_t 957 (by decide +kernel) rfl, zB_s 52 (by decide +kernel) rfl⟩
set_option maxRecDepth 20000 in
theorem yyX6_gapsOf : zYv yX6_gapsOf cX6_gapsOf 4 (some (.int)) 1 := ⟨⟨zB_t 881 (by decide +kernel) rfl, zB_t 7 (by decide +kernel) rfl, by decide +kernel, by decide +kernel, by decide +kernel⟩, zB_t 880 (by decide +kernel) rfl, zB_s 40 (by decide +kernel) rfl⟩
set_option maxRecDepth 20000 in
theorem yyX6_person : zYv yX6_person cX6_person 3 (some (.int)) 2 := ⟨⟨zB_t 873 (by decide +kernel) rfl, zB_t 7 (by decide +kernel) rfl, by decide +kernel, by decide +kernel, by decide +kernel⟩, zB_t 871 (by decide +kernel) rfl, zB_t 872 (by decide +kernel) rfl⟩
set_option maxRecDepth 20000 in
theorem yyX6_liking : zYv yX6_liking cX6_liking 3 (some (.int)) 2 := ⟨⟨zB_t 893 (by decide +kernel) rfl, zB_t 7 (by decide +kernel) rfl, by decide +kernel, by decide +kernel, by decide +kernel⟩, zB_t 891 (by decide +kernel) rfl, zB_t 892 (by decide +kernel) rfl⟩
set_option maxRecDepth 20000 in
theorem yyX6_like : zYv yX6_like cX6_like 5 (some (.int)) 3 := ⟨⟨zB_t 905 (by decide +kernel) rfl, zB_t 7 (by decide +kernel) rfl, by decide +kernel, by decide +kernel, by decide +kernel⟩, zB_t 903 (by decide +kernel) rfl, zB_t 904 (by decide +kernel) rfl⟩
set_option maxRecDepth 20000 in
theorem yyX6_order : zYv yX6_order cX6_order 4 (some (.int)) 2 := ⟨⟨zB_t 909 (by decide +kernel) rfl, zB_t 7 (by decide +kernel) rfl, by decide +kernel, by decide +kernel, by decide +kernel⟩, zB_t 907 (by decide +kernel) rfl, zB_t 908 (by decide +kernel) rfl⟩
set_option maxRecDepth 20000 in
theorem yyX6_law : zYv yX6_law cX6_law 3 (some (.int)) 1 := ⟨⟨zB_t 913 (by decide +kernel) rfl, zB_t 7 (by decide +kernel) rfl, by decide +kernel, by decide +kernel, by decide +kernel⟩, zB_t 911 (by decide +kernel) rfl, zB_t 912 (by decide +kernel) rfl⟩
set_option maxRecDepth 20000 in
theorem yyX6_meets : zYv yX6_meets cX6_meets 3 (some (.int)) 2 := ⟨⟨zB_t 917 (by decide +kernel) rfl, zB_t 7 (by decide +kernel) rfl, by decide +kernel, by decide +kernel, by decide +kernel⟩, zB_t 915 (by decide +kernel) rfl, zB_t 916 (by decide +kernel) rfl⟩
set_option maxRecDepth 20000 in
theorem yyX6_felt : zYv yX6_felt cX6_felt 4 (some (.int)) 2 := ⟨⟨zB_t 925 (by decide +kernel) rfl, zB_t 7 (by decide +kernel) rfl, by decide +kernel, by decide +kernel, by decide +kernel⟩, zB_t 923 (by decide +kernel) rfl, zB_t 924 (by decide +kernel) rfl⟩
set_option maxRecDepth 20000 in
theorem yyX6_yeses : zYv yX6_yeses cX6_yeses 3 (some (.int)) 2 := ⟨⟨zB_t 942 (by decide +kernel) rfl, zB_t 7 (by decide +kernel) rfl, by decide +kernel, by decide +kernel, by decide +kernel⟩, zB_t 940 (by decide +kernel) rfl, zB_t 941 (by decide +kernel) rfl⟩
set_option maxRecDepth 20000 in
theorem yyX6_dearest : zYv yX6_dearest cX6_dearest 5 (some (.int)) 2 := ⟨⟨zB_t 974 (by decide +kernel) rfl, zB_t 7 (by decide +kernel) rfl, by decide +kernel, by decide +kernel, by decide +kernel⟩, zB_t 973 (by decide +kernel) rfl, zB_s 55 (by decide +kernel) rfl⟩
set_option maxRecDepth 20000 in
theorem yyX6_isRather : zYv yX6_isRather cX6_isRather 4 (some (.boolean)) 3 := ⟨⟨zB_t 982 (by decide +kernel) rfl, zB_t 7 (by decide +kernel) rfl, by decide +kernel, by decide +kernel, by decide +kernel⟩, zB_t 981 (by decide +kernel) rfl, zB_s 57 (by decide +kernel) rfl⟩
set_option maxRecDepth 20000 in
theorem yyX6_nextAsker : zYv yX6_nextAsker cX6_nextAsker 7 (some (.int)) 3 := ⟨⟨zB_t 970 (by decide +kernel) rfl, zB_t 7 (by decide +kernel) rfl, by decide +kernel, by decide +kernel, by decide +kernel⟩, zB_t 969 (by decide +kernel) rfl, zB_s 54 (by decide +kernel) rfl⟩
set_option maxRecDepth 20000 in
theorem yyX6_layRanks : zYv yX6_layRanks cX6_layRanks 6 none 1 := ⟨⟨zB_t 966 (by decide +kernel) rfl, zB_t 7 (by decide +kernel) rfl, by decide +kernel, by decide +kernel, by decide +kernel⟩, zB_t 965 (by decide +kernel) rfl, zB_s 53 (by decide +kernel) rfl⟩
set_option maxRecDepth 20000 in
theorem yyX6_ranks : zYv yX6_ranks cX6_ranks 2 (some (.int)) 1 := ⟨⟨zB_t 962 (by decide +kernel) rfl, zB_t 7 (by decide +kernel) rfl, by decide +kernel, by decide +kernel, by decide +kernel⟩, zB_t 960 (by decide +kernel) rfl, zB_t 961 (by decide +kernel) rfl⟩
set_option maxRecDepth 20000 in
theorem yyX6_asked : zYv yX6_asked cX6_asked 2 (some (.int)) 1 := ⟨⟨zB_t 986 (by decide +kernel) rfl, zB_t 7 (by decide +kernel) rfl, by decide +kernel, by decide +kernel, by decide +kernel⟩, zB_t 984 (by decide +kernel) rfl, zB_t 985 (by decide +kernel) rfl⟩
set_option maxRecDepth 20000 in
theorem yyX6_layCounts : zYv yX6_layCounts cX6_layCounts 7 none 1 := ⟨⟨zB_t 994 (by decide +kernel) rfl, zB_t 7 (by decide +kernel) rfl, by decide +kernel, by decide +kernel, by decide +kernel⟩, zB_t 993 (by decide +kernel) rfl, zB_s 58 (by decide +kernel) rfl⟩
set_option maxRecDepth 20000 in
theorem yyX6_pairsOf : zYv yX6_pairsOf cX6_pairsOf 4 (some (.int)) 1 := ⟨⟨zB_t 1002 (by decide +kernel) rfl, zB_t 7 (by decide +kernel) rfl, by decide +kernel, by decide +kernel, by decide +kernel⟩, zB_t 1001 (by decide +kernel) rfl, zB_s 60 (by decide +kernel) rfl⟩
set_option maxRecDepth 20000 in
theorem yyX6_allPairs : zYv yX6_allPairs cX6_allPairs 5 (some (.int)) 1 := ⟨⟨zB_t 998 (by decide +kernel) rfl, zB_t 7 (by decide +kernel) rfl, by decide +kernel, by decide +kernel, by decide +kernel⟩, zB_t 997 (by decide +kernel) rfl, zB_s 59 (by decide +kernel) rfl⟩
set_option maxRecDepth 20000 in
theorem yyX6_pairs : zYv yX6_pairs cX6_pairs 2 (some (.int)) 1 := ⟨⟨zB_t 990 (by decide +kernel) rfl, zB_t 7 (by decide +kernel) rfl, by decide +kernel, by decide +kernel, by decide +kernel⟩, zB_t 988 (by decide +kernel) rfl, zB_t 989 (by decide +kernel) rfl⟩
set_option maxRecDepth 20000 in
theorem yyX6_glad : zYv yX6_glad cX6_glad 3 (some (.int)) 2 := ⟨⟨zB_t 1006 (by decide +kernel) rfl, zB_t 7 (by decide +kernel) rfl, by decide +kernel, by decide +kernel, by decide +kernel⟩, zB_t 1004 (by decide +kernel) rfl, zB_t 1005 (by decide +kernel) rfl⟩
set_option maxRecDepth 20000 in
theorem yyX6_shadedNow : zYv yX6_shadedNow cX6_shadedNow 5 (some (.int)) 0 := ⟨⟨zB_t 1014 (by decide +kernel) rfl, zB_t 7 (by decide +kernel) rfl, by decide +kernel, by decide +kernel, by decide +kernel⟩, zB_t 1013 (by decide +kernel) rfl, zB_s 61 (by decide +kernel) rfl⟩
set_option maxRecDepth 20000 in
theorem yyX6_shaded : zYv yX6_shaded cX6_shaded 1 (some (.int)) 0 := ⟨⟨zB_t 1010 (by decide +kernel) rfl, zB_t 7 (by decide +kernel) rfl, by decide +kernel, by decide +kernel, by decide +kernel⟩, zB_t 1008 (by decide +kernel) rfl, zB_t 1009 (by decide +kernel) rfl⟩
set_option maxRecDepth 20000 in
theorem yyX6_meetAll : zYv yX6_meetAll cX6_meetAll 4 (some (.boolean)) 0 := ⟨⟨zB_t 1022 (by decide +kernel) rfl, zB_t 7 (by decide +kernel) rfl, by decide +kernel, by decide +kernel, by decide +kernel⟩, zB_t 1021 (by decide +kernel) rfl, zB_s 62 (by decide +kernel) rfl⟩
set_option maxRecDepth 20000 in
theorem yyX6_bestOrder : zYv yX6_bestOrder cX6_bestOrder 8 (some (.int)) 0 := ⟨⟨zB_t 1018 (by decide +kernel) rfl, zB_t 7 (by decide +kernel) rfl, by decide +kernel, by decide +kernel, by decide +kernel⟩, zB_t 1016 (by decide +kernel) rfl, zB_t 1017 (by decide +kernel) rfl⟩
set_option maxRecDepth 20000 in
theorem yyX6_wouldRather : zYv yX6_wouldRather cX6_wouldRather 4 (some (.boolean)) 2 := ⟨⟨zB_t 1038 (by decide +kernel) rfl, zB_t 7 (by decide +kernel) rfl, by decide +kernel, by decide +kernel, by decide +kernel⟩, zB_t 1037 (by decide +kernel) rfl, zB_s 65 (by decide +kernel) rfl⟩
set_option maxRecDepth 20000 in
theorem yyX6_firstRather : zYv yX6_firstRather cX6_firstRather 3 (some (.int)) 0 := ⟨⟨zB_t 1034 (by decide +kernel) rfl, zB_t 7 (by decide +kernel) rfl, by decide +kernel, by decide +kernel, by decide +kernel⟩, zB_t 1033 (by decide +kernel) rfl, zB_s 64 (by decide +kernel) rfl⟩
set_option maxRecDepth 20000 in
theorem yyX6_layWay : zYv yX6_layWay cX6_layWay 8 (some (.boolean)) 1 := ⟨⟨zB_t 1030 (by decide +kernel) rfl, zB_t 7 (by decide +kernel) rfl, by decide +kernel, by decide +kernel, by decide +kernel⟩, zB_t 1029 (by decide +kernel) rfl, zB_s 63 (by decide +kernel) rfl⟩
set_option maxRecDepth 20000 in
theorem yyX6_firm : zYv yX6_firm cX6_firm 6 (some (.int)) 0 := ⟨⟨zB_t 1026 (by decide +kernel) rfl, zB_t 7 (by decide +kernel) rfl, by decide +kernel, by decide +kernel, by decide +kernel⟩, zB_t 1024 (by decide +kernel) rfl, zB_t 1025 (by decide +kernel) rfl⟩
set_option maxRecDepth 20000 in
theorem yyX6_row : zYv yX6_row cX6_row 2 (some (.int)) 1 := ⟨⟨zB_t 1042 (by decide +kernel) rfl, zB_t 7 (by decide +kernel) rfl, by decide +kernel, by decide +kernel, by decide +kernel⟩, zB_t 1040 (by decide +kernel) rfl, zB_t 1041 (by decide +kernel) rfl⟩
set_option maxRecDepth 20000 in
theorem yyX6_isWay : zYv yX6_isWay cX6_isWay 2 (some (.boolean)) 0 := ⟨⟨zB_t 1050 (by decide +kernel) rfl, zB_t 7 (by decide +kernel) rfl, by decide +kernel, by decide +kernel, by decide +kernel⟩, zB_t 1049 (by decide +kernel) rfl, zB_s 66 (by decide +kernel) rfl⟩
set_option maxRecDepth 20000 in
theorem yyX6_rather : zYv yX6_rather cX6_rather 1 (some (.int)) 0 := ⟨⟨zB_t 1046 (by decide +kernel) rfl, zB_t 7 (by decide +kernel) rfl, by decide +kernel, by decide +kernel, by decide +kernel⟩, zB_t 1044 (by decide +kernel) rfl, zB_t 1045 (by decide +kernel) rfl⟩
set_option maxRecDepth 20000 in
theorem yyX6_truly : zYv yX6_truly cX6_truly 7 (some (.int)) 2 := ⟨⟨zB_t 1054 (by decide +kernel) rfl, zB_t 7 (by decide +kernel) rfl, by decide +kernel, by decide +kernel, by decide +kernel⟩, zB_t 1052 (by decide +kernel) rfl, zB_t 1053 (by decide +kernel) rfl⟩
set_option maxRecDepth 20000 in
theorem yyX6_nth : zYv yX6_nth cX6_nth 2 (some (.int)) 1 := ⟨⟨zB_t 1066 (by decide +kernel) rfl, zB_t 7 (by decide +kernel) rfl, by decide +kernel, by decide +kernel, by decide +kernel⟩, zB_t 1065 (by decide +kernel) rfl, zB_s 68 (by decide +kernel) rfl⟩
set_option maxRecDepth 20000 in
theorem yyX6_judged : zYv yX6_judged cX6_judged 3 (some (.int)) 0 := ⟨⟨zB_t 1062 (by decide +kernel) rfl, zB_t 7 (by decide +kernel) rfl, by decide +kernel, by decide +kernel, by decide +kernel⟩, zB_t 1061 (by decide +kernel) rfl, zB_s 67 (by decide +kernel) rfl⟩
set_option maxRecDepth 20000 in
theorem yyX6_judge : zYv yX6_judge cX6_judge 2 (some (.int)) 0 := ⟨⟨zB_t 1058 (by decide +kernel) rfl, zB_t 7 (by decide +kernel) rfl, by decide +kernel, by decide +kernel, by decide +kernel⟩, zB_t 1056 (by decide +kernel) rfl, zB_t 1057 (by decide +kernel) rfl⟩
set_option maxRecDepth 20000 in
theorem yyX6_clear : zYv yX6_clear cX6_clear 2 (some (.int)) 0 := ⟨⟨zB_t 1070 (by decide +kernel) rfl, zB_t 7 (by decide +kernel) rfl, by decide +kernel, by decide +kernel, by decide +kernel⟩, zB_t 1068 (by decide +kernel) rfl, zB_t 1069 (by decide +kernel) rfl⟩
set_option maxRecDepth 20000 in
theorem yyX6_draw : zYv yX6_draw cX6_draw 2 (some (.int)) 1 := ⟨⟨zB_t 1078 (by decide +kernel) rfl, zB_t 7 (by decide +kernel) rfl, by decide +kernel, by decide +kernel, by decide +kernel⟩, zB_t 1077 (by decide +kernel) rfl, zB_s 69 (by decide +kernel) rfl⟩
set_option maxRecDepth 20000 in
theorem yyX6_lots : zYv yX6_lots cX6_lots 7 (some (.int)) 2 := ⟨⟨zB_t 1074 (by decide +kernel) rfl, zB_t 7 (by decide +kernel) rfl, by decide +kernel, by decide +kernel, by decide +kernel⟩, zB_t 1072 (by decide +kernel) rfl, zB_t 1073 (by decide +kernel) rfl⟩
set_option maxRecDepth 20000 in
theorem yyX6_image : zYv yX6_image cX6_image 2 (some (.int)) 0 := ⟨⟨zB_t 1085 (by decide +kernel) rfl, zB_t 7 (by decide +kernel) rfl, by decide +kernel, by decide +kernel, by decide +kernel⟩, zB_t 1083 (by decide +kernel) rfl, zB_t 1084 (by decide +kernel) rfl⟩
set_option maxRecDepth 20000 in
theorem yyX6_on : zYv yX6_on cX6_on 2 (some (.int)) 0 := ⟨⟨zB_t 1089 (by decide +kernel) rfl, zB_t 7 (by decide +kernel) rfl, by decide +kernel, by decide +kernel, by decide +kernel⟩, zB_t 1087 (by decide +kernel) rfl, zB_t 1088 (by decide +kernel) rfl⟩
set_option maxRecDepth 20000 in
theorem yyX6_allGaps : zYv yX6_allGaps cX6_allGaps 3 (some (.int)) 0 := ⟨⟨zB_t 1097 (by decide +kernel) rfl, zB_t 7 (by decide +kernel) rfl, by decide +kernel, by decide +kernel, by decide +kernel⟩, zB_t 1096 (by decide +kernel) rfl, zB_s 70 (by decide +kernel) rfl⟩
set_option maxRecDepth 20000 in
theorem yyX6_count : zYv yX6_count cX6_count 2 (some (.int)) 1 := ⟨⟨zB_t 1093 (by decide +kernel) rfl, zB_t 7 (by decide +kernel) rfl, by decide +kernel, by decide +kernel, by decide +kernel⟩, zB_t 1091 (by decide +kernel) rfl, zB_t 1092 (by decide +kernel) rfl⟩
set_option maxRecDepth 20000 in
theorem yyJ11_isValidCodePoint_9a6ad : zYs yJ11_isValidCodePoint_9a6ad cJ11_isValidCodePoint_9a6ad 2 (some (.boolean)) 1 := ⟨⟨zB_t 315 (by decide +kernel) rfl, zB_t 13 (by decide +kernel) rfl, by decide +kernel, by decide +kernel, by decide +kernel⟩, zB_t 314 (by decide +kernel) rfl⟩
set_option maxRecDepth 20000 in
theorem yyJ11_highSurrogate_5068e : zYs yJ11_highSurrogate_5068e cJ11_highSurrogate_5068e 1 (some (.char)) 1 := ⟨⟨zB_t 318 (by decide +kernel) rfl, zB_t 13 (by decide +kernel) rfl, by decide +kernel, by decide +kernel, by decide +kernel⟩, zB_t 317 (by decide +kernel) rfl⟩
set_option maxRecDepth 20000 in
theorem yyJ11_lowSurrogate_5068e : zYs yJ11_lowSurrogate_5068e cJ11_lowSurrogate_5068e 1 (some (.char)) 1 := ⟨⟨zB_t 322 (by decide +kernel) rfl, zB_t 13 (by decide +kernel) rfl, by decide +kernel, by decide +kernel, by decide +kernel⟩, zB_t 321 (by decide +kernel) rfl⟩
set_option maxRecDepth 20000 in
theorem yyJ6_bitCount_0f7a4 : zYs yJ6_bitCount_0f7a4 cJ6_bitCount_0f7a4 1 (some (.int)) 1 := ⟨⟨zB_t 538 (by decide +kernel) rfl, zB_t 15 (by decide +kernel) rfl, by decide +kernel, by decide +kernel, by decide +kernel⟩, zB_t 537 (by decide +kernel) rfl⟩
set_option maxRecDepth 20000 in
theorem yyJ9_floorMod_7cf53 : zYs yJ9_floorMod_7cf53 cJ9_floorMod_7cf53 3 (some (.int)) 2 := ⟨⟨zB_t 416 (by decide +kernel) rfl, zB_t 12 (by decide +kernel) rfl, by decide +kernel, by decide +kernel, by decide +kernel⟩, zB_t 415 (by decide +kernel) rfl⟩
set_option maxRecDepth 20000 in
theorem yyJ9_max_7cf53 : zYs yJ9_max_7cf53 cJ9_max_7cf53 2 (some (.int)) 2 := ⟨⟨zB_t 282 (by decide +kernel) rfl, zB_t 12 (by decide +kernel) rfl, by decide +kernel, by decide +kernel, by decide +kernel⟩, zB_t 281 (by decide +kernel) rfl⟩
set_option maxRecDepth 20000 in
theorem yyJ9_min_7cf53 : zYs yJ9_min_7cf53 cJ9_min_7cf53 2 (some (.int)) 2 := ⟨⟨zB_t 285 (by decide +kernel) rfl, zB_t 12 (by decide +kernel) rfl, by decide +kernel, by decide +kernel, by decide +kernel⟩, zB_t 284 (by decide +kernel) rfl⟩
set_option maxRecDepth 20000 in
theorem yyJ0_length_8abf5 : zYv yJ0_length_8abf5 cJ0_length_8abf5 1 (some (.int)) 0 := ⟨⟨zB_t 216 (by decide +kernel) rfl, zB_t 8 (by decide +kernel) rfl, by decide +kernel, by decide +kernel, by decide +kernel⟩, zB_t 214 (by decide +kernel) rfl, zB_t 215 (by decide +kernel) rfl⟩
set_option maxRecDepth 20000 in
theorem yyJ0_isEmpty_aae02 : zYv yJ0_isEmpty_aae02 cJ0_isEmpty_aae02 1 (some (.boolean)) 0 := ⟨⟨zB_t 212 (by decide +kernel) rfl, zB_t 8 (by decide +kernel) rfl, by decide +kernel, by decide +kernel, by decide +kernel⟩, zB_t 210 (by decide +kernel) rfl, zB_t 211 (by decide +kernel) rfl⟩
set_option maxRecDepth 20000 in
theorem yyJ0_charAt_5068e : zYv yJ0_charAt_5068e cJ0_charAt_5068e 2 (some (.char)) 1 := ⟨⟨zB_t 226 (by decide +kernel) rfl, zB_t 8 (by decide +kernel) rfl, by decide +kernel, by decide +kernel, by decide +kernel⟩, zB_t 224 (by decide +kernel) rfl, zB_t 225 (by decide +kernel) rfl⟩
set_option maxRecDepth 20000 in
theorem yyJ0_indexOf_0f7a4 : zYv yJ0_indexOf_0f7a4 cJ0_indexOf_0f7a4 2 (some (.int)) 1 := ⟨⟨zB_t 268 (by decide +kernel) rfl, zB_t 8 (by decide +kernel) rfl, by decide +kernel, by decide +kernel, by decide +kernel⟩, zB_t 266 (by decide +kernel) rfl, zB_t 267 (by decide +kernel) rfl⟩
set_option maxRecDepth 20000 in
theorem yyJ0_indexOf_7cf53 : zYv yJ0_indexOf_7cf53 cJ0_indexOf_7cf53 3 (some (.int)) 2 := ⟨⟨zB_t 272 (by decide +kernel) rfl, zB_t 8 (by decide +kernel) rfl, by decide +kernel, by decide +kernel, by decide +kernel⟩, zB_t 270 (by decide +kernel) rfl, zB_t 271 (by decide +kernel) rfl⟩
set_option maxRecDepth 20000 in
theorem yyJ0_coder_7d493 : zYv yJ0_coder_7d493 cJ0_coder_7d493 1 (some (.byte)) 0 := ⟨⟨zB_t 220 (by decide +kernel) rfl, zB_t 8 (by decide +kernel) rfl, by decide +kernel, by decide +kernel, by decide +kernel⟩, zB_t 218 (by decide +kernel) rfl, zB_t 219 (by decide +kernel) rfl⟩
set_option maxRecDepth 20000 in
theorem yyJ0_isLatin1_aae02 : zYv yJ0_isLatin1_aae02 cJ0_isLatin1_aae02 1 (some (.boolean)) 0 := ⟨⟨zB_t 230 (by decide +kernel) rfl, zB_t 8 (by decide +kernel) rfl, by decide +kernel, by decide +kernel, by decide +kernel⟩, zB_t 228 (by decide +kernel) rfl, zB_t 229 (by decide +kernel) rfl⟩
set_option maxRecDepth 20000 in
theorem yyJ0_checkIndex_df160 : zYs yJ0_checkIndex_df160 cJ0_checkIndex_df160 2 none 2 := ⟨⟨zB_t 236 (by decide +kernel) rfl, zB_t 8 (by decide +kernel) rfl, by decide +kernel, by decide +kernel, by decide +kernel⟩, zB_t 235 (by decide +kernel) rfl⟩
set_option maxRecDepth 20000 in
theorem yyJ0_checkBoundsBeginEnd_23922 : zYs yJ0_checkBoundsBeginEnd_23922 cJ0_checkBoundsBeginEnd_23922 3 none 3 := ⟨⟨zB_t 303 (by decide +kernel) rfl, zB_t 8 (by decide +kernel) rfl, by decide +kernel, by decide +kernel, by decide +kernel⟩, zB_t 302 (by decide +kernel) rfl⟩
set_option maxRecDepth 20000 in
theorem yyJ1_charAt_3b067 : zYs yJ1_charAt_3b067 cJ1_charAt_3b067 2 (some (.char)) 2 := ⟨⟨zB_t 233 (by decide +kernel) rfl, zB_t 9 (by decide +kernel) rfl, by decide +kernel, by decide +kernel, by decide +kernel⟩, zB_t 232 (by decide +kernel) rfl⟩
set_option maxRecDepth 20000 in
theorem yyJ1_canEncode_9a6ad : zYs yJ1_canEncode_9a6ad cJ1_canEncode_9a6ad 1 (some (.boolean)) 1 := ⟨⟨zB_t 279 (by decide +kernel) rfl, zB_t 9 (by decide +kernel) rfl, by decide +kernel, by decide +kernel, by decide +kernel⟩, zB_t 278 (by decide +kernel) rfl⟩
set_option maxRecDepth 20000 in
theorem yyJ1_indexOf_4cfef : zYs yJ1_indexOf_4cfef cJ1_indexOf_4cfef 4 (some (.int)) 4 := ⟨⟨zB_t 276 (by decide +kernel) rfl, zB_t 9 (by decide +kernel) rfl, by decide +kernel, by decide +kernel, by decide +kernel⟩, zB_t 275 (by decide +kernel) rfl⟩
set_option maxRecDepth 20000 in
theorem yyJ1_indexOfChar_4cfef : zYs yJ1_indexOfChar_4cfef cJ1_indexOfChar_4cfef 6 (some (.int)) 4 := ⟨⟨zB_t 288 (by decide +kernel) rfl, zB_t 9 (by decide +kernel) rfl, by decide +kernel, by decide +kernel, by decide +kernel⟩, zB_t 287 (by decide +kernel) rfl⟩
set_option maxRecDepth 20000 in
theorem yyJ2_getChar_3b067 : zYs yJ2_getChar_3b067 cJ2_getChar_3b067 2 (some (.char)) 2 := ⟨⟨zB_t 254 (by decide +kernel) rfl, zB_t 11 (by decide +kernel) rfl, by decide +kernel, by decide +kernel, by decide +kernel⟩, zB_t 253 (by decide +kernel) rfl⟩
set_option maxRecDepth 20000 in
theorem yyJ2_length_9d52b : zYs yJ2_length_9d52b cJ2_length_9d52b 1 (some (.int)) 1 := ⟨⟨zB_t 250 (by decide +kernel) rfl, zB_t 11 (by decide +kernel) rfl, by decide +kernel, by decide +kernel, by decide +kernel⟩, zB_t 249 (by decide +kernel) rfl⟩
set_option maxRecDepth 20000 in
theorem yyJ2_indexOf_4cfef : zYs yJ2_indexOf_4cfef cJ2_indexOf_4cfef 4 (some (.int)) 4 := ⟨⟨zB_t 291 (by decide +kernel) rfl, zB_t 11 (by decide +kernel) rfl, by decide +kernel, by decide +kernel, by decide +kernel⟩, zB_t 290 (by decide +kernel) rfl⟩
set_option maxRecDepth 20000 in
theorem yyJ2_indexOfChar_4cfef : zYs yJ2_indexOfChar_4cfef cJ2_indexOfChar_4cfef 4 (some (.int)) 4 := ⟨⟨zB_t 297 (by decide +kernel) rfl, zB_t 11 (by decide +kernel) rfl, by decide +kernel, by decide +kernel, by decide +kernel⟩, zB_t 296 (by decide +kernel) rfl⟩
set_option maxRecDepth 20000 in
theorem yyJ2_indexOfCharUnsafe_4cfef : zYs yJ2_indexOfCharUnsafe_4cfef cJ2_indexOfCharUnsafe_4cfef 5 (some (.int)) 4 := ⟨⟨zB_t 309 (by decide +kernel) rfl, zB_t 11 (by decide +kernel) rfl, by decide +kernel, by decide +kernel, by decide +kernel⟩, zB_t 308 (by decide +kernel) rfl⟩
set_option maxRecDepth 20000 in
theorem yyJ2_indexOfSupplementary_4cfef : zYs yJ2_indexOfSupplementary_4cfef cJ2_indexOfSupplementary_4cfef 7 (some (.int)) 4 := ⟨⟨zB_t 312 (by decide +kernel) rfl, zB_t 11 (by decide +kernel) rfl, by decide +kernel, by decide +kernel, by decide +kernel⟩, zB_t 311 (by decide +kernel) rfl⟩
set_option maxRecDepth 20000 in
theorem yyJ2_charAt_3b067 : zYs yJ2_charAt_3b067 cJ2_charAt_3b067 2 (some (.char)) 2 := ⟨⟨zB_t 244 (by decide +kernel) rfl, zB_t 11 (by decide +kernel) rfl, by decide +kernel, by decide +kernel, by decide +kernel⟩, zB_t 243 (by decide +kernel) rfl⟩
set_option maxRecDepth 20000 in
theorem yyJ2_checkIndex_2214a : zYs yJ2_checkIndex_2214a cJ2_checkIndex_2214a 2 none 2 := ⟨⟨zB_t 247 (by decide +kernel) rfl, zB_t 11 (by decide +kernel) rfl, by decide +kernel, by decide +kernel, by decide +kernel⟩, zB_t 246 (by decide +kernel) rfl⟩
set_option maxRecDepth 20000 in
theorem yyJ2_checkBoundsBeginEnd_d044e : zYs yJ2_checkBoundsBeginEnd_d044e cJ2_checkBoundsBeginEnd_d044e 3 none 3 := ⟨⟨zB_t 300 (by decide +kernel) rfl, zB_t 11 (by decide +kernel) rfl, by decide +kernel, by decide +kernel, by decide +kernel⟩, zB_t 299 (by decide +kernel) rfl⟩
set_option maxRecDepth 20000 in
theorem yyJ3_checkIndex_8e157 : zYs yJ3_checkIndex_8e157 cJ3_checkIndex_8e157 3 (some (.int)) 3 := ⟨⟨zB_t 241 (by decide +kernel) rfl, zB_t 10 (by decide +kernel) rfl, by decide +kernel, by decide +kernel, by decide +kernel⟩, zB_t 240 (by decide +kernel) rfl⟩
set_option maxRecDepth 20000 in
theorem yyJ3_checkFromToIndex_8c36e : zYs yJ3_checkFromToIndex_8c36e cJ3_checkFromToIndex_8c36e 4 (some (.int)) 4 := ⟨⟨zB_t 306 (by decide +kernel) rfl, zB_t 10 (by decide +kernel) rfl, by decide +kernel, by decide +kernel, by decide +kernel⟩, zB_t 305 (by decide +kernel) rfl⟩
set_option maxRecDepth 20000 in
theorem mlX5_65 : Cond.methodLink RX5 65 yX5_refuse ∈ zBIG := zB_t 180 (by decide +kernel) rfl
set_option maxRecDepth 20000 in
theorem mlX5_69 : Cond.methodLink RX5 69 yX3_isFull ∈ zBIG := zB_t 184 (by decide +kernel) rfl
set_option maxRecDepth 20000 in
theorem mlX5_73 : Cond.methodLink RX5 73 yX3_add ∈ zBIG := zB_t 188 (by decide +kernel) rfl
set_option maxRecDepth 20000 in
theorem mlX5_76 : Cond.methodLink RX5 76 yX3_firstBadLetter ∈ zBIG := zB_t 197 (by decide +kernel) rfl
set_option maxRecDepth 20000 in
theorem mlX5_80 : Cond.methodLink RX5 80 yX3_forget ∈ zBIG := zB_t 324 (by decide +kernel) rfl
set_option maxRecDepth 20000 in
theorem mlX5_83 : Cond.methodLink RX5 83 yX4_become ∈ zBIG := zB_t 328 (by decide +kernel) rfl
set_option maxRecDepth 20000 in
theorem mlX5_87 : Cond.methodLink RX5 87 yX3_carryOut ∈ zBIG := zB_t 335 (by decide +kernel) rfl
set_option maxRecDepth 20000 in
theorem mlX5_91 : Cond.methodLink RX5 91 yX3_statements ∈ zBIG := zB_t 386 (by decide +kernel) rfl
set_option maxRecDepth 20000 in
theorem mlX5_94 : Cond.methodLink RX5 94 yX4_isThere ∈ zBIG := zB_t 395 (by decide +kernel) rfl
set_option maxRecDepth 20000 in
theorem mlX5_104 : Cond.methodLink RX5 104 yX2_hold ∈ zBIG := zB_t 396 (by decide +kernel) rfl
set_option maxRecDepth 20000 in
theorem mlX5_107 : Cond.methodLink RX5 107 yX2_gaps ∈ zBIG := zB_t 440 (by decide +kernel) rfl
set_option maxRecDepth 20000 in
theorem mlX5_110 : Cond.methodLink RX5 110 yX4_areUnlike ∈ zBIG := zB_t 448 (by decide +kernel) rfl
set_option maxRecDepth 20000 in
theorem mlX5_114 : Cond.methodLink RX5 114 yX4_likes ∈ zBIG := zB_t 449 (by decide +kernel) rfl
set_option maxRecDepth 20000 in
theorem mlX5_118 : Cond.methodLink RX5 118 yX4_setLiking ∈ zBIG := zB_t 454 (by decide +kernel) rfl
set_option maxRecDepth 20000 in
theorem mlX5_128 : Cond.methodLink RX5 128 yX5_isLaw ∈ zBIG := zB_t 463 (by decide +kernel) rfl
set_option maxRecDepth 20000 in
theorem mlX5_134 : Cond.methodLink RX5 134 yX4_isRound ∈ zBIG := zB_t 468 (by decide +kernel) rfl
set_option maxRecDepth 20000 in
theorem mlX5_148 : Cond.methodLink RX5 148 yX2_slipsFor ∈ zBIG := zB_t 482 (by decide +kernel) rfl
set_option maxRecDepth 20000 in
theorem mlX5_151 : Cond.methodLink RX5 151 yX1_settle ∈ zBIG := zB_t 494 (by decide +kernel) rfl
set_option maxRecDepth 20000 in
theorem mlX5_155 : Cond.methodLink RX5 155 yX1_howMany ∈ zBIG := zB_t 532 (by decide +kernel) rfl
set_option maxRecDepth 20000 in
theorem mlX5_161 : Cond.methodLink RX5 161 yX1_gladness ∈ zBIG := zB_t 546 (by decide +kernel) rfl
set_option maxRecDepth 20000 in
theorem mlX5_167 : Cond.methodLink RX5 167 yX2_letAllMeetAll ∈ zBIG := zB_t 558 (by decide +kernel) rfl
set_option maxRecDepth 20000 in
theorem mlX5_171 : Cond.methodLink RX5 171 yX5_gotWhenAsking ∈ zBIG := zB_t 566 (by decide +kernel) rfl
set_option maxRecDepth 20000 in
theorem mlX5_174 : Cond.methodLink RX5 174 yX0_firmWays ∈ zBIG := zB_t 579 (by decide +kernel) rfl
set_option maxRecDepth 20000 in
theorem mlX5_177 : Cond.methodLink RX5 177 yX5_holdAsTheRowTells ∈ zBIG := zB_t 613 (by decide +kernel) rfl
set_option maxRecDepth 20000 in
theorem mlX5_180 : Cond.methodLink RX5 180 yX0_firstWhoWouldRather ∈ zBIG := zB_t 619 (by decide +kernel) rfl
set_option maxRecDepth 20000 in
theorem mlX5_183 : Cond.methodLink RX5 183 yX2_saysYes ∈ zBIG := zB_t 624 (by decide +kernel) rfl
set_option maxRecDepth 20000 in
theorem mlX5_186 : Cond.methodLink RX5 186 yX5_clear ∈ zBIG := zB_t 629 (by decide +kernel) rfl
set_option maxRecDepth 20000 in
theorem mlX5_192 : Cond.methodLink RX5 192 yX4_howManyPeople ∈ zBIG := zB_t 633 (by decide +kernel) rfl
set_option maxRecDepth 20000 in
theorem mlX5_195 : Cond.methodLink RX5 195 yJ9_min_7cf53 ∈ zBIG := zB_t 637 (by decide +kernel) rfl
set_option maxRecDepth 20000 in
theorem mlX5_200 : Cond.methodLink RX5 200 yX4_drawLikings ∈ zBIG := zB_t 643 (by decide +kernel) rfl
set_option maxRecDepth 20000 in
theorem mlX5_203 : Cond.methodLink RX5 203 yX4_rounds ∈ zBIG := zB_t 664 (by decide +kernel) rfl
set_option maxRecDepth 20000 in
theorem mlX5_205 : Cond.methodLink RX5 205 yX2_allGaps ∈ zBIG := zB_t 665 (by decide +kernel) rfl
set_option maxRecDepth 20000 in
theorem mlX5_211 : Cond.methodLink RX5 211 yX1_askInTurn ∈ zBIG := zB_t 570 (by decide +kernel) rfl
set_option maxRecDepth 20000 in
theorem mlX5_218 : Cond.methodLink RX5 218 yX0_letAllGo ∈ zBIG := zB_t 617 (by decide +kernel) rfl
set_option maxRecDepth 20000 in
theorem mlX5_221 : Cond.methodLink RX5 221 yX0_give ∈ zBIG := zB_t 618 (by decide +kernel) rfl
set_option maxRecDepth 20000 in
theorem mlX0_20 : Cond.methodLink RX0 20 yX0_giveByCode ∈ zBIG := zB_t 583 (by decide +kernel) rfl
set_option maxRecDepth 20000 in
theorem mlX0_24 : Cond.methodLink RX0 24 yX0_firstWhoWouldRather ∈ zBIG := zB_t 596 (by decide +kernel) rfl
set_option maxRecDepth 20000 in
theorem mlX0_28 : Cond.methodLink RX0 28 yX0_letAllGo ∈ zBIG := zB_t 587 (by decide +kernel) rfl
set_option maxRecDepth 20000 in
theorem mlX0_35 : Cond.methodLink RX0 35 yX0_give ∈ zBIG := zB_t 592 (by decide +kernel) rfl
set_option maxRecDepth 20000 in
theorem mlX0_39 : Cond.methodLink RX0 39 yX0_wouldRather ∈ zBIG := zB_t 600 (by decide +kernel) rfl
set_option maxRecDepth 20000 in
theorem mlX0_42 : Cond.methodLink RX0 42 yX4_likes ∈ zBIG := zB_t 604 (by decide +kernel) rfl
set_option maxRecDepth 20000 in
theorem mlX1_24 : Cond.methodLink RX1 24 yX1_askInTurn ∈ zBIG := zB_t 498 (by decide +kernel) rfl
set_option maxRecDepth 20000 in
theorem mlX1_33 : Cond.methodLink RX1 33 yX1_validYeses ∈ zBIG := zB_t 525 (by decide +kernel) rfl
set_option maxRecDepth 20000 in
theorem mlX1_41 : Cond.methodLink RX1 41 yX1_likedMost ∈ zBIG := zB_t 529 (by decide +kernel) rfl
set_option maxRecDepth 20000 in
theorem mlX1_44 : Cond.methodLink RX1 44 yJ6_bitCount_0f7a4 ∈ zBIG := zB_t 536 (by decide +kernel) rfl
set_option maxRecDepth 20000 in
theorem mlX1_49 : Cond.methodLink RX1 49 yX4_likes ∈ zBIG := zB_t 521 (by decide +kernel) rfl
set_option maxRecDepth 20000 in
theorem mlX1_55 : Cond.methodLink RX1 55 yX1_favourite ∈ zBIG := zB_t 516 (by decide +kernel) rfl
set_option maxRecDepth 20000 in
theorem mlX1_62 : Cond.methodLink RX1 62 yX4_isThere ∈ zBIG := zB_t 502 (by decide +kernel) rfl
set_option maxRecDepth 20000 in
theorem mlX1_69 : Cond.methodLink RX1 69 yX4_howManyFacing ∈ zBIG := zB_t 504 (by decide +kernel) rfl
set_option maxRecDepth 20000 in
theorem mlX1_72 : Cond.methodLink RX1 72 yX1_firstWhoWillAsk ∈ zBIG := zB_t 508 (by decide +kernel) rfl
set_option maxRecDepth 20000 in
theorem mlX1_76 : Cond.methodLink RX1 76 yX1_ask ∈ zBIG := zB_t 512 (by decide +kernel) rfl
set_option maxRecDepth 20000 in
theorem mlX1_79 : Cond.methodLink RX1 79 yX1_isLikedBefore ∈ zBIG := zB_t 522 (by decide +kernel) rfl
set_option maxRecDepth 20000 in
theorem mlX2_30 : Cond.methodLink RX2 30 yX4_rounds ∈ zBIG := zB_t 400 (by decide +kernel) rfl
set_option maxRecDepth 20000 in
theorem mlX2_36 : Cond.methodLink RX2 36 yX4_isThere ∈ zBIG := zB_t 405 (by decide +kernel) rfl
set_option maxRecDepth 20000 in
theorem mlX2_40 : Cond.methodLink RX2 40 yX2_partner ∈ zBIG := zB_t 406 (by decide +kernel) rfl
set_option maxRecDepth 20000 in
theorem mlX2_44 : Cond.methodLink RX2 44 yX2_feelAndSay ∈ zBIG := zB_t 417 (by decide +kernel) rfl
set_option maxRecDepth 20000 in
theorem mlX2_61 : Cond.methodLink RX2 61 yJ9_floorMod_7cf53 ∈ zBIG := zB_t 414 (by decide +kernel) rfl
set_option maxRecDepth 20000 in
theorem mlX2_67 : Cond.methodLink RX2 67 yX2_feeling ∈ zBIG := zB_t 421 (by decide +kernel) rfl
set_option maxRecDepth 20000 in
theorem mlX2_77 : Cond.methodLink RX2 77 yX4_likes ∈ zBIG := zB_t 425 (by decide +kernel) rfl
set_option maxRecDepth 20000 in
theorem mlX2_83 : Cond.methodLink RX2 83 yX2_isInShade ∈ zBIG := zB_t 429 (by decide +kernel) rfl
set_option maxRecDepth 20000 in
theorem mlX2_87 : Cond.methodLink RX2 87 yX2_wasAlone ∈ zBIG := zB_t 433 (by decide +kernel) rfl
set_option maxRecDepth 20000 in
theorem mlX2_91 : Cond.methodLink RX2 91 yX2_gaps ∈ zBIG := zB_t 669 (by decide +kernel) rfl
set_option maxRecDepth 20000 in
theorem mlX2_94 : Cond.methodLink RX2 94 yX2_saysYes ∈ zBIG := zB_t 486 (by decide +kernel) rfl
set_option maxRecDepth 20000 in
theorem mlX3_19 : Cond.methodLink RX3 19 yX3_isFull ∈ zBIG := zB_t 192 (by decide +kernel) rfl
set_option maxRecDepth 20000 in
theorem mlX3_23 : Cond.methodLink RX3 23 yX3_formBehind ∈ zBIG := zB_t 201 (by decide +kernel) rfl
set_option maxRecDepth 20000 in
theorem mlX3_27 : Cond.methodLink RX3 27 yJ0_isEmpty_aae02 ∈ zBIG := zB_t 209 (by decide +kernel) rfl
set_option maxRecDepth 20000 in
theorem mlX3_32 : Cond.methodLink RX3 32 yJ0_length_8abf5 ∈ zBIG := zB_t 213 (by decide +kernel) rfl
set_option maxRecDepth 20000 in
theorem mlX3_35 : Cond.methodLink RX3 35 yJ0_charAt_5068e ∈ zBIG := zB_t 223 (by decide +kernel) rfl
set_option maxRecDepth 20000 in
theorem mlX3_39 : Cond.methodLink RX3 39 yX3_fits ∈ zBIG := zB_t 261 (by decide +kernel) rfl
set_option maxRecDepth 20000 in
theorem mlX3_55 : Cond.methodLink RX3 55 yJ0_indexOf_0f7a4 ∈ zBIG := zB_t 265 (by decide +kernel) rfl
set_option maxRecDepth 20000 in
theorem mlX3_59 : Cond.methodLink RX3 59 yX3_carryOutOne ∈ zBIG := zB_t 339 (by decide +kernel) rfl
set_option maxRecDepth 20000 in
theorem mlX3_63 : Cond.methodLink RX3 63 yX3_kindAt ∈ zBIG := zB_t 343 (by decide +kernel) rfl
set_option maxRecDepth 20000 in
theorem mlX3_66 : Cond.methodLink RX3 66 yX3_digitAt ∈ zBIG := zB_t 347 (by decide +kernel) rfl
set_option maxRecDepth 20000 in
theorem mlX3_69 : Cond.methodLink RX3 69 yX4_addPerson ∈ zBIG := zB_t 351 (by decide +kernel) rfl
set_option maxRecDepth 20000 in
theorem mlX3_75 : Cond.methodLink RX3 75 yX3_setLiking ∈ zBIG := zB_t 359 (by decide +kernel) rfl
set_option maxRecDepth 20000 in
theorem mlX3_78 : Cond.methodLink RX3 78 yX3_setOrder ∈ zBIG := zB_t 375 (by decide +kernel) rfl
set_option maxRecDepth 20000 in
theorem mlX3_81 : Cond.methodLink RX3 81 yX3_setLaw ∈ zBIG := zB_t 379 (by decide +kernel) rfl
set_option maxRecDepth 20000 in
theorem mlX3_84 : Cond.methodLink RX3 84 yX4_areUnlike ∈ zBIG := zB_t 363 (by decide +kernel) rfl
set_option maxRecDepth 20000 in
theorem mlX3_88 : Cond.methodLink RX3 88 yX4_setLiking ∈ zBIG := zB_t 374 (by decide +kernel) rfl
set_option maxRecDepth 20000 in
theorem mlX4_44 : Cond.methodLink RX4 44 yX4_isThere ∈ zBIG := zB_t 367 (by decide +kernel) rfl
set_option maxRecDepth 20000 in
theorem mlX4_48 : Cond.methodLink RX4 48 yJ9_max_7cf53 ∈ zBIG := zB_t 404 (by decide +kernel) rfl
set_option maxRecDepth 20000 in
theorem mlX4_54 : Cond.methodLink RX4 54 yX4_rounds ∈ zBIG := zB_t 472 (by decide +kernel) rfl
set_option maxRecDepth 20000 in
theorem mlX4_58 : Cond.methodLink RX4 58 yX4_setLiking ∈ zBIG := zB_t 355 (by decide +kernel) rfl
set_option maxRecDepth 20000 in
theorem mlX4_62 : Cond.methodLink RX4 62 yX4_howManyFacing ∈ zBIG := zB_t 647 (by decide +kernel) rfl
set_option maxRecDepth 20000 in
theorem mlL_13 : Cond.methodLink RL 13 yX5_letter ∈ zBIG := zB_t 176 (by decide +kernel) rfl
set_option maxRecDepth 20000 in
theorem mlL_17 : Cond.methodLink RL 17 yX6_letter ∈ zBIG := zB_t 782 (by decide +kernel) rfl
set_option maxRecDepth 20000 in
theorem mlL_18 : Cond.methodLink RL 18 yX5_evening ∈ zBIG := zB_t 193 (by decide +kernel) rfl
set_option maxRecDepth 20000 in
theorem mlL_22 : Cond.methodLink RL 22 yX6_evening ∈ zBIG := zB_t 790 (by decide +kernel) rfl
set_option maxRecDepth 20000 in
theorem mlL_23 : Cond.methodLink RL 23 yX5_person ∈ zBIG := zB_t 391 (by decide +kernel) rfl
set_option maxRecDepth 20000 in
theorem mlL_27 : Cond.methodLink RL 27 yX6_person ∈ zBIG := zB_t 870 (by decide +kernel) rfl
set_option maxRecDepth 20000 in
theorem mlL_28 : Cond.methodLink RL 28 yX5_liking ∈ zBIG := zB_t 444 (by decide +kernel) rfl
set_option maxRecDepth 20000 in
theorem mlL_31 : Cond.methodLink RL 31 yX6_liking ∈ zBIG := zB_t 890 (by decide +kernel) rfl
set_option maxRecDepth 20000 in
theorem mlL_32 : Cond.methodLink RL 32 yX5_like ∈ zBIG := zB_t 450 (by decide +kernel) rfl
set_option maxRecDepth 20000 in
theorem mlL_36 : Cond.methodLink RL 36 yX6_like ∈ zBIG := zB_t 902 (by decide +kernel) rfl
set_option maxRecDepth 20000 in
theorem mlL_37 : Cond.methodLink RL 37 yX5_order ∈ zBIG := zB_t 455 (by decide +kernel) rfl
set_option maxRecDepth 20000 in
theorem mlL_40 : Cond.methodLink RL 40 yX6_order ∈ zBIG := zB_t 906 (by decide +kernel) rfl
set_option maxRecDepth 20000 in
theorem mlL_41 : Cond.methodLink RL 41 yX5_law ∈ zBIG := zB_t 459 (by decide +kernel) rfl
set_option maxRecDepth 20000 in
theorem mlL_44 : Cond.methodLink RL 44 yX6_law ∈ zBIG := zB_t 910 (by decide +kernel) rfl
set_option maxRecDepth 20000 in
theorem mlL_45 : Cond.methodLink RL 45 yX5_meets ∈ zBIG := zB_t 464 (by decide +kernel) rfl
set_option maxRecDepth 20000 in
theorem mlL_48 : Cond.methodLink RL 48 yX6_meets ∈ zBIG := zB_t 914 (by decide +kernel) rfl
set_option maxRecDepth 20000 in
theorem mlL_49 : Cond.methodLink RL 49 yX5_felt ∈ zBIG := zB_t 473 (by decide +kernel) rfl
set_option maxRecDepth 20000 in
theorem mlL_52 : Cond.methodLink RL 52 yX6_felt ∈ zBIG := zB_t 922 (by decide +kernel) rfl
set_option maxRecDepth 20000 in
theorem mlL_53 : Cond.methodLink RL 53 yX5_yeses ∈ zBIG := zB_t 478 (by decide +kernel) rfl
set_option maxRecDepth 20000 in
theorem mlL_56 : Cond.methodLink RL 56 yX6_yeses ∈ zBIG := zB_t 939 (by decide +kernel) rfl
set_option maxRecDepth 20000 in
theorem mlL_57 : Cond.methodLink RL 57 yX5_pairs ∈ zBIG := zB_t 490 (by decide +kernel) rfl
set_option maxRecDepth 20000 in
theorem mlL_60 : Cond.methodLink RL 60 yX6_pairs ∈ zBIG := zB_t 987 (by decide +kernel) rfl
set_option maxRecDepth 20000 in
theorem mlL_61 : Cond.methodLink RL 61 yX5_glad ∈ zBIG := zB_t 542 (by decide +kernel) rfl
set_option maxRecDepth 20000 in
theorem mlL_64 : Cond.methodLink RL 64 yX6_glad ∈ zBIG := zB_t 1003 (by decide +kernel) rfl
set_option maxRecDepth 20000 in
theorem mlL_65 : Cond.methodLink RL 65 yX5_shaded ∈ zBIG := zB_t 550 (by decide +kernel) rfl
set_option maxRecDepth 20000 in
theorem mlL_68 : Cond.methodLink RL 68 yX6_shaded ∈ zBIG := zB_t 1007 (by decide +kernel) rfl
set_option maxRecDepth 20000 in
theorem mlL_69 : Cond.methodLink RL 69 yX5_bestOrder ∈ zBIG := zB_t 554 (by decide +kernel) rfl
set_option maxRecDepth 20000 in
theorem mlL_72 : Cond.methodLink RL 72 yX6_bestOrder ∈ zBIG := zB_t 1015 (by decide +kernel) rfl
set_option maxRecDepth 20000 in
theorem mlL_73 : Cond.methodLink RL 73 yX5_ranks ∈ zBIG := zB_t 562 (by decide +kernel) rfl
set_option maxRecDepth 20000 in
theorem mlL_76 : Cond.methodLink RL 76 yX6_ranks ∈ zBIG := zB_t 959 (by decide +kernel) rfl
set_option maxRecDepth 20000 in
theorem mlL_77 : Cond.methodLink RL 77 yX5_asked ∈ zBIG := zB_t 571 (by decide +kernel) rfl
set_option maxRecDepth 20000 in
theorem mlL_80 : Cond.methodLink RL 80 yX6_asked ∈ zBIG := zB_t 983 (by decide +kernel) rfl
set_option maxRecDepth 20000 in
theorem mlL_81 : Cond.methodLink RL 81 yX5_firm ∈ zBIG := zB_t 575 (by decide +kernel) rfl
set_option maxRecDepth 20000 in
theorem mlL_84 : Cond.methodLink RL 84 yX6_firm ∈ zBIG := zB_t 1023 (by decide +kernel) rfl
set_option maxRecDepth 20000 in
theorem mlL_85 : Cond.methodLink RL 85 yX5_row ∈ zBIG := zB_t 605 (by decide +kernel) rfl
set_option maxRecDepth 20000 in
theorem mlL_88 : Cond.methodLink RL 88 yX6_row ∈ zBIG := zB_t 1039 (by decide +kernel) rfl
set_option maxRecDepth 20000 in
theorem mlL_89 : Cond.methodLink RL 89 yX5_rather ∈ zBIG := zB_t 609 (by decide +kernel) rfl
set_option maxRecDepth 20000 in
theorem mlL_92 : Cond.methodLink RL 92 yX6_rather ∈ zBIG := zB_t 1043 (by decide +kernel) rfl
set_option maxRecDepth 20000 in
theorem mlL_93 : Cond.methodLink RL 93 yX5_truly ∈ zBIG := zB_t 620 (by decide +kernel) rfl
set_option maxRecDepth 20000 in
theorem mlL_96 : Cond.methodLink RL 96 yX6_truly ∈ zBIG := zB_t 1051 (by decide +kernel) rfl
set_option maxRecDepth 20000 in
theorem mlL_97 : Cond.methodLink RL 97 yX5_judge ∈ zBIG := zB_t 625 (by decide +kernel) rfl
set_option maxRecDepth 20000 in
theorem mlL_100 : Cond.methodLink RL 100 yX6_judge ∈ zBIG := zB_t 1055 (by decide +kernel) rfl
set_option maxRecDepth 20000 in
theorem mlL_101 : Cond.methodLink RL 101 yX5_clear ∈ zBIG := zB_t 638 (by decide +kernel) rfl
set_option maxRecDepth 20000 in
theorem mlL_104 : Cond.methodLink RL 104 yX6_clear ∈ zBIG := zB_t 1067 (by decide +kernel) rfl
set_option maxRecDepth 20000 in
theorem mlL_105 : Cond.methodLink RL 105 yX5_lots ∈ zBIG := zB_t 639 (by decide +kernel) rfl
set_option maxRecDepth 20000 in
theorem mlL_108 : Cond.methodLink RL 108 yX6_lots ∈ zBIG := zB_t 1071 (by decide +kernel) rfl
set_option maxRecDepth 20000 in
theorem mlL_109 : Cond.methodLink RL 109 yX5_image ∈ zBIG := zB_t 652 (by decide +kernel) rfl
set_option maxRecDepth 20000 in
theorem mlL_112 : Cond.methodLink RL 112 yX6_image ∈ zBIG := zB_t 1082 (by decide +kernel) rfl
set_option maxRecDepth 20000 in
theorem mlL_113 : Cond.methodLink RL 113 yX5_on ∈ zBIG := zB_t 656 (by decide +kernel) rfl
set_option maxRecDepth 20000 in
theorem mlL_116 : Cond.methodLink RL 116 yX6_on ∈ zBIG := zB_t 1086 (by decide +kernel) rfl
set_option maxRecDepth 20000 in
theorem mlL_117 : Cond.methodLink RL 117 yX5_count ∈ zBIG := zB_t 660 (by decide +kernel) rfl
set_option maxRecDepth 20000 in
theorem mlL_120 : Cond.methodLink RL 120 yX6_count ∈ zBIG := zB_t 1090 (by decide +kernel) rfl
set_option maxRecDepth 20000 in
theorem mlX6_117 : Cond.methodLink RX6 117 yX6_in ∈ zBIG := zB_t 826 (by decide +kernel) rfl
set_option maxRecDepth 20000 in
theorem mlX6_121 : Cond.methodLink RX6 121 yX6_isOf ∈ zBIG := zB_t 850 (by decide +kernel) rfl
set_option maxRecDepth 20000 in
theorem mlX6_124 : Cond.methodLink RX6 124 yX6_isPerson ∈ zBIG := zB_t 874 (by decide +kernel) rfl
set_option maxRecDepth 20000 in
theorem mlX6_128 : Cond.methodLink RX6 128 yX6_no ∈ zBIG := zB_t 786 (by decide +kernel) rfl
set_option maxRecDepth 20000 in
theorem mlX6_132 : Cond.methodLink RX6 132 yX6_next ∈ zBIG := zB_t 802 (by decide +kernel) rfl
set_option maxRecDepth 20000 in
theorem mlX6_136 : Cond.methodLink RX6 136 yX6_kindOf ∈ zBIG := zB_t 814 (by decide +kernel) rfl
set_option maxRecDepth 20000 in
theorem mlX6_139 : Cond.methodLink RX6 139 yX6_digit ∈ zBIG := zB_t 822 (by decide +kernel) rfl
set_option maxRecDepth 20000 in
theorem mlX6_142 : Cond.methodLink RX6 142 yX6_takesOne ∈ zBIG := zB_t 818 (by decide +kernel) rfl
set_option maxRecDepth 20000 in
theorem mlX6_146 : Cond.methodLink RX6 146 yX6_takesTwo ∈ zBIG := zB_t 834 (by decide +kernel) rfl
set_option maxRecDepth 20000 in
theorem mlX6_149 : Cond.methodLink RX6 149 yX6_takesKind ∈ zBIG := zB_t 810 (by decide +kernel) rfl
set_option maxRecDepth 20000 in
theorem mlX6_152 : Cond.methodLink RX6 152 yX6_takesThree ∈ zBIG := zB_t 830 (by decide +kernel) rfl
set_option maxRecDepth 20000 in
theorem mlX6_155 : Cond.methodLink RX6 155 yX6_takesRest ∈ zBIG := zB_t 806 (by decide +kernel) rfl
set_option maxRecDepth 20000 in
theorem mlX6_158 : Cond.methodLink RX6 158 yX6_takes ∈ zBIG := zB_t 838 (by decide +kernel) rfl
set_option maxRecDepth 20000 in
theorem mlX6_161 : Cond.methodLink RX6 161 yX6_takesStatement ∈ zBIG := zB_t 798 (by decide +kernel) rfl
set_option maxRecDepth 20000 in
theorem mlX6_164 : Cond.methodLink RX6 164 yX6_isGood ∈ zBIG := zB_t 846 (by decide +kernel) rfl
set_option maxRecDepth 20000 in
theorem mlX6_167 : Cond.methodLink RX6 167 yX6_otherOf ∈ zBIG := zB_t 866 (by decide +kernel) rfl
set_option maxRecDepth 20000 in
theorem mlX6_171 : Cond.methodLink RX6 171 yX6_newOne ∈ zBIG := zB_t 862 (by decide +kernel) rfl
set_option maxRecDepth 20000 in
theorem mlX6_175 : Cond.methodLink RX6 175 yX6_comes ∈ zBIG := zB_t 858 (by decide +kernel) rfl
set_option maxRecDepth 20000 in
theorem mlX6_178 : Cond.methodLink RX6 178 yX6_isText ∈ zBIG := zB_t 794 (by decide +kernel) rfl
set_option maxRecDepth 20000 in
theorem mlX6_181 : Cond.methodLink RX6 181 yX6_wrongPlace ∈ zBIG := zB_t 842 (by decide +kernel) rfl
set_option maxRecDepth 20000 in
theorem mlX6_184 : Cond.methodLink RX6 184 yX6_comesAll ∈ zBIG := zB_t 854 (by decide +kernel) rfl
set_option maxRecDepth 20000 in
theorem mlX6_187 : Cond.methodLink RX6 187 yX6_roundsNow ∈ zBIG := zB_t 882 (by decide +kernel) rfl
set_option maxRecDepth 20000 in
theorem mlX6_190 : Cond.methodLink RX6 190 yX6_metBy ∈ zBIG := zB_t 886 (by decide +kernel) rfl
set_option maxRecDepth 20000 in
theorem mlX6_193 : Cond.methodLink RX6 193 yX6_likingOf ∈ zBIG := zB_t 898 (by decide +kernel) rfl
set_option maxRecDepth 20000 in
theorem mlX6_196 : Cond.methodLink RX6 196 yX6_tired ∈ zBIG := zB_t 931 (by decide +kernel) rfl
set_option maxRecDepth 20000 in
theorem mlX6_200 : Cond.methodLink RX6 200 yX6_behindOf ∈ zBIG := zB_t 935 (by decide +kernel) rfl
set_option maxRecDepth 20000 in
theorem mlX6_203 : Cond.methodLink RX6 203 yX6_feels ∈ zBIG := zB_t 927 (by decide +kernel) rfl
set_option maxRecDepth 20000 in
theorem mlX6_206 : Cond.methodLink RX6 206 yX6_others ∈ zBIG := zB_t 947 (by decide +kernel) rfl
set_option maxRecDepth 20000 in
theorem mlX6_209 : Cond.methodLink RX6 209 yX6_saysYes ∈ zBIG := zB_t 951 (by decide +kernel) rfl
set_option maxRecDepth 20000 in
theorem mlX6_213 : Cond.methodLink RX6 213 yX6_gapsOf ∈ zBIG := zB_t 878 (by decide +kernel) rfl
set_option maxRecDepth 20000 in
theorem mlX6_216 : Cond.methodLink RX6 216 yX6_areTwo ∈ zBIG := zB_t 894 (by decide +kernel) rfl
set_option maxRecDepth 20000 in
theorem mlX6_219 : Cond.methodLink RX6 219 yX6_isRound ∈ zBIG := zB_t 918 (by decide +kernel) rfl
set_option maxRecDepth 20000 in
theorem mlX6_223 : Cond.methodLink RX6 223 yX6_yesesOf ∈ zBIG := zB_t 943 (by decide +kernel) rfl
set_option maxRecDepth 20000 in
theorem mlX6_226 : Cond.methodLink RX6 226 yX6_yesesTo ∈ zBIG := zB_t 955 (by decide +kernel) rfl
set_option maxRecDepth 20000 in
theorem mlX6_229 : Cond.methodLink RX6 229 yX6_has ∈ zBIG := zB_t 975 (by decide +kernel) rfl
set_option maxRecDepth 20000 in
theorem mlX6_232 : Cond.methodLink RX6 232 yX6_nextAsker ∈ zBIG := zB_t 967 (by decide +kernel) rfl
set_option maxRecDepth 20000 in
theorem mlX6_235 : Cond.methodLink RX6 235 yX6_dearest ∈ zBIG := zB_t 971 (by decide +kernel) rfl
set_option maxRecDepth 20000 in
theorem mlX6_238 : Cond.methodLink RX6 238 yX6_isRather ∈ zBIG := zB_t 979 (by decide +kernel) rfl
set_option maxRecDepth 20000 in
theorem mlX6_241 : Cond.methodLink RX6 241 yX6_layRanks ∈ zBIG := zB_t 963 (by decide +kernel) rfl
set_option maxRecDepth 20000 in
theorem mlX6_244 : Cond.methodLink RX6 244 yX6_layCounts ∈ zBIG := zB_t 991 (by decide +kernel) rfl
set_option maxRecDepth 20000 in
theorem mlX6_247 : Cond.methodLink RX6 247 yX6_allPairs ∈ zBIG := zB_t 995 (by decide +kernel) rfl
set_option maxRecDepth 20000 in
theorem mlX6_250 : Cond.methodLink RX6 250 yX6_pairsOf ∈ zBIG := zB_t 999 (by decide +kernel) rfl
set_option maxRecDepth 20000 in
theorem mlX6_253 : Cond.methodLink RX6 253 yX6_shadedNow ∈ zBIG := zB_t 1011 (by decide +kernel) rfl
set_option maxRecDepth 20000 in
theorem mlX6_256 : Cond.methodLink RX6 256 yX6_meetAll ∈ zBIG := zB_t 1019 (by decide +kernel) rfl
set_option maxRecDepth 20000 in
theorem mlX6_259 : Cond.methodLink RX6 259 yX6_wouldRather ∈ zBIG := zB_t 1035 (by decide +kernel) rfl
set_option maxRecDepth 20000 in
theorem mlX6_262 : Cond.methodLink RX6 262 yX6_layWay ∈ zBIG := zB_t 1027 (by decide +kernel) rfl
set_option maxRecDepth 20000 in
theorem mlX6_265 : Cond.methodLink RX6 265 yX6_firstRather ∈ zBIG := zB_t 1031 (by decide +kernel) rfl
set_option maxRecDepth 20000 in
theorem mlX6_268 : Cond.methodLink RX6 268 yX6_isWay ∈ zBIG := zB_t 1047 (by decide +kernel) rfl
set_option maxRecDepth 20000 in
theorem mlX6_271 : Cond.methodLink RX6 271 yX6_nth ∈ zBIG := zB_t 1063 (by decide +kernel) rfl
set_option maxRecDepth 20000 in
theorem mlX6_274 : Cond.methodLink RX6 274 yX6_judged ∈ zBIG := zB_t 1059 (by decide +kernel) rfl
set_option maxRecDepth 20000 in
theorem mlX6_280 : Cond.methodLink RX6 280 yX6_draw ∈ zBIG := zB_t 1075 (by decide +kernel) rfl
set_option maxRecDepth 20000 in
theorem mlX6_283 : Cond.methodLink RX6 283 yX6_allGaps ∈ zBIG := zB_t 1094 (by decide +kernel) rfl
set_option maxRecDepth 20000 in
theorem mlJ0_335 : Cond.methodLink RJ0 335 yJ0_coder_7d493 ∈ zBIG := zB_t 217 (by decide +kernel) rfl
set_option maxRecDepth 20000 in
theorem mlJ0_492 : Cond.methodLink RJ0 492 yJ0_isLatin1_aae02 ∈ zBIG := zB_t 227 (by decide +kernel) rfl
set_option maxRecDepth 20000 in
theorem mlJ0_495 : Cond.methodLink RJ0 495 yJ1_charAt_3b067 ∈ zBIG := zB_t 231 (by decide +kernel) rfl
set_option maxRecDepth 20000 in
theorem mlJ0_498 : Cond.methodLink RJ0 498 yJ2_charAt_3b067 ∈ zBIG := zB_t 242 (by decide +kernel) rfl
set_option maxRecDepth 20000 in
theorem mlJ0_505 : Cond.methodLink RJ0 505 yJ0_length_8abf5 ∈ zBIG := zB_t 273 (by decide +kernel) rfl
set_option maxRecDepth 20000 in
theorem mlJ0_633 : Cond.methodLink RJ0 633 yJ0_indexOf_7cf53 ∈ zBIG := zB_t 269 (by decide +kernel) rfl
set_option maxRecDepth 20000 in
theorem mlJ0_637 : Cond.methodLink RJ0 637 yJ1_indexOf_4cfef ∈ zBIG := zB_t 274 (by decide +kernel) rfl
set_option maxRecDepth 20000 in
theorem mlJ0_640 : Cond.methodLink RJ0 640 yJ2_indexOf_4cfef ∈ zBIG := zB_t 289 (by decide +kernel) rfl
set_option maxRecDepth 20000 in
theorem mlJ0_1059 : Cond.methodLink RJ0 1059 yJ3_checkIndex_8e157 ∈ zBIG := zB_t 239 (by decide +kernel) rfl
set_option maxRecDepth 20000 in
theorem mlJ0_1062 : Cond.methodLink RJ0 1062 yJ3_checkFromToIndex_8c36e ∈ zBIG := zB_t 304 (by decide +kernel) rfl
set_option maxRecDepth 20000 in
theorem mlJ1_9 : Cond.methodLink RJ1 9 yJ0_checkIndex_df160 ∈ zBIG := zB_t 234 (by decide +kernel) rfl
set_option maxRecDepth 20000 in
theorem mlJ1_38 : Cond.methodLink RJ1 38 yJ9_min_7cf53 ∈ zBIG := zB_t 283 (by decide +kernel) rfl
set_option maxRecDepth 20000 in
theorem mlJ1_88 : Cond.methodLink RJ1 88 yJ1_canEncode_9a6ad ∈ zBIG := zB_t 277 (by decide +kernel) rfl
set_option maxRecDepth 20000 in
theorem mlJ1_92 : Cond.methodLink RJ1 92 yJ9_max_7cf53 ∈ zBIG := zB_t 280 (by decide +kernel) rfl
set_option maxRecDepth 20000 in
theorem mlJ1_95 : Cond.methodLink RJ1 95 yJ1_indexOfChar_4cfef ∈ zBIG := zB_t 286 (by decide +kernel) rfl
set_option maxRecDepth 20000 in
theorem mlJ2_48 : Cond.methodLink RJ2 48 yJ2_length_9d52b ∈ zBIG := zB_t 248 (by decide +kernel) rfl
set_option maxRecDepth 20000 in
theorem mlJ2_67 : Cond.methodLink RJ2 67 yJ2_checkIndex_2214a ∈ zBIG := zB_t 245 (by decide +kernel) rfl
set_option maxRecDepth 20000 in
theorem mlJ2_71 : Cond.methodLink RJ2 71 yJ2_getChar_3b067 ∈ zBIG := zB_t 252 (by decide +kernel) rfl
set_option maxRecDepth 20000 in
theorem mlJ2_96 : Cond.methodLink RJ2 96 yJ2_checkBoundsBeginEnd_d044e ∈ zBIG := zB_t 298 (by decide +kernel) rfl
set_option maxRecDepth 20000 in
theorem mlJ2_157 : Cond.methodLink RJ2 157 yJ11_highSurrogate_5068e ∈ zBIG := zB_t 316 (by decide +kernel) rfl
set_option maxRecDepth 20000 in
theorem mlJ2_161 : Cond.methodLink RJ2 161 yJ11_lowSurrogate_5068e ∈ zBIG := zB_t 320 (by decide +kernel) rfl
set_option maxRecDepth 20000 in
theorem mlJ2_164 : Cond.methodLink RJ2 164 yJ11_isValidCodePoint_9a6ad ∈ zBIG := zB_t 313 (by decide +kernel) rfl
set_option maxRecDepth 20000 in
theorem mlJ2_183 : Cond.methodLink RJ2 183 yJ9_min_7cf53 ∈ zBIG := zB_t 293 (by decide +kernel) rfl
set_option maxRecDepth 20000 in
theorem mlJ2_224 : Cond.methodLink RJ2 224 yJ9_max_7cf53 ∈ zBIG := zB_t 292 (by decide +kernel) rfl
set_option maxRecDepth 20000 in
theorem mlJ2_228 : Cond.methodLink RJ2 228 yJ2_indexOfChar_4cfef ∈ zBIG := zB_t 295 (by decide +kernel) rfl
set_option maxRecDepth 20000 in
theorem mlJ2_232 : Cond.methodLink RJ2 232 yJ2_indexOfSupplementary_4cfef ∈ zBIG := zB_t 310 (by decide +kernel) rfl
set_option maxRecDepth 20000 in
theorem mlJ2_241 : Cond.methodLink RJ2 241 yJ0_checkBoundsBeginEnd_23922 ∈ zBIG := zB_t 301 (by decide +kernel) rfl
set_option maxRecDepth 20000 in
theorem mlJ2_244 : Cond.methodLink RJ2 244 yJ2_indexOfCharUnsafe_4cfef ∈ zBIG := zB_t 307 (by decide +kernel) rfl
set_option maxRecDepth 20000 in
theorem mlJ2_414 : Cond.methodLink RJ2 414 yJ0_checkIndex_df160 ∈ zBIG := zB_t 251 (by decide +kernel) rfl
set_option maxRecDepth 20000 in
theorem kkX5_141 : Cond.constant RX5 141 (iI 1000000000) ∈ zBIG := zB_t 477 (by decide +kernel) rfl
set_option maxRecDepth 20000 in
theorem kkX4_65 : Cond.constant RX4 65 (iI 1664525) ∈ zBIG := zB_t 648 (by decide +kernel) rfl
set_option maxRecDepth 20000 in
theorem kkX4_66 : Cond.constant RX4 66 (iI 1013904223) ∈ zBIG := zB_t 649 (by decide +kernel) rfl
set_option maxRecDepth 20000 in
theorem kkX4_70 : Cond.constant RX4 70 (iI 2147483647) ∈ zBIG := zB_t 651 (by decide +kernel) rfl
set_option maxRecDepth 20000 in
theorem kkX6_222 : Cond.constant RX6 222 (iI 1000000000) ∈ zBIG := zB_t 926 (by decide +kernel) rfl
set_option maxRecDepth 20000 in
theorem kkX6_277 : Cond.constant RX6 277 (iI 1664525) ∈ zBIG := zB_t 1079 (by decide +kernel) rfl
set_option maxRecDepth 20000 in
theorem kkX6_278 : Cond.constant RX6 278 (iI 1013904223) ∈ zBIG := zB_t 1080 (by decide +kernel) rfl
set_option maxRecDepth 20000 in
theorem kkX6_279 : Cond.constant RX6 279 (iI 2147483647) ∈ zBIG := zB_t 1081 (by decide +kernel) rfl
set_option maxRecDepth 20000 in
theorem kkJ11_76 : Cond.constant RJ11 76 (iI 56320) ∈ zBIG := zB_t 323 (by decide +kernel) rfl
set_option maxRecDepth 20000 in
theorem kkJ11_110 : Cond.constant RJ11 110 (iI 55232) ∈ zBIG := zB_t 319 (by decide +kernel) rfl
set_option maxRecDepth 20000 in
theorem kkJ6_265 : Cond.constant RJ6 265 (iI 1431655765) ∈ zBIG := zB_t 539 (by decide +kernel) rfl
set_option maxRecDepth 20000 in
theorem kkJ6_266 : Cond.constant RJ6 266 (iI 858993459) ∈ zBIG := zB_t 540 (by decide +kernel) rfl
set_option maxRecDepth 20000 in
theorem kkJ6_267 : Cond.constant RJ6 267 (iI 252645135) ∈ zBIG := zB_t 541 (by decide +kernel) rfl
set_option maxRecDepth 20000 in
theorem kkJ2_227 : Cond.constant RJ2 227 (iI 65536) ∈ zBIG := zB_t 294 (by decide +kernel) rfl
end
section
theorem dX0_init_0 : decode cX0_init 0 = .ok (.aload_n 0, 1) := by decide +kernel
theorem dX0_init_1 : decode cX0_init 1 = .ok (.invokespecial 3, 3) := by decide +kernel
theorem dX0_init_4 : decode cX0_init 4 = .ok (.aload_n 0, 1) := by decide +kernel
theorem dX0_init_5 : decode cX0_init 5 = .ok (.bipush 10, 2) := by decide +kernel
theorem dX0_init_7 : decode cX0_init 7 = .ok (.newarray .int, 2) := by decide +kernel
theorem dX0_init_9 : decode cX0_init 9 = .ok (.putfield 9, 3) := by decide +kernel
theorem dX0_init_12 : decode cX0_init 12 = .ok (.return_, 1) := by decide +kernel
theorem dX0_letAllGo_0 : decode cX0_letAllGo 0 = .ok (.iconst 0, 1) := by decide +kernel
theorem dX0_letAllGo_1 : decode cX0_letAllGo 1 = .ok (.istore_n 1, 1) := by decide +kernel
theorem dX0_letAllGo_2 : decode cX0_letAllGo 2 = .ok (.iload_n 1, 1) := by decide +kernel
theorem dX0_letAllGo_3 : decode cX0_letAllGo 3 = .ok (.bipush 10, 2) := by decide +kernel
theorem dX0_letAllGo_5 : decode cX0_letAllGo 5 = .ok (.if_icmp .ge 17, 3) := by decide +kernel
theorem dX0_letAllGo_8 : decode cX0_letAllGo 8 = .ok (.aload_n 0, 1) := by decide +kernel
theorem dX0_letAllGo_9 : decode cX0_letAllGo 9 = .ok (.getfield 9, 3) := by decide +kernel
theorem dX0_letAllGo_12 : decode cX0_letAllGo 12 = .ok (.iload_n 1, 1) := by decide +kernel
theorem dX0_letAllGo_13 : decode cX0_letAllGo 13 = .ok (.bipush (-9), 2) := by decide +kernel
theorem dX0_letAllGo_15 : decode cX0_letAllGo 15 = .ok (.iastore, 1) := by decide +kernel
theorem dX0_letAllGo_16 : decode cX0_letAllGo 16 = .ok (.iinc 1 1, 3) := by decide +kernel
theorem dX0_letAllGo_19 : decode cX0_letAllGo 19 = .ok (.goto (-17), 3) := by decide +kernel
theorem dX0_letAllGo_22 : decode cX0_letAllGo 22 = .ok (.return_, 1) := by decide +kernel
theorem dX0_give_0 : decode cX0_give 0 = .ok (.aload_n 0, 1) := by decide +kernel
theorem dX0_give_1 : decode cX0_give 1 = .ok (.getfield 9, 3) := by decide +kernel
theorem dX0_give_4 : decode cX0_give 4 = .ok (.iload_n 2, 1) := by decide +kernel
theorem dX0_give_5 : decode cX0_give 5 = .ok (.iaload, 1) := by decide +kernel
theorem dX0_give_6 : decode cX0_give 6 = .ok (.bipush (-9), 2) := by decide +kernel
theorem dX0_give_8 : decode cX0_give 8 = .ok (.if_icmp .eq 5, 3) := by decide +kernel
theorem dX0_give_11 : decode cX0_give 11 = .ok (.iconst 0, 1) := by decide +kernel
theorem dX0_give_12 : decode cX0_give 12 = .ok (.ireturn, 1) := by decide +kernel
theorem dX0_give_13 : decode cX0_give 13 = .ok (.aload_n 0, 1) := by decide +kernel
theorem dX0_give_14 : decode cX0_give 14 = .ok (.getfield 9, 3) := by decide +kernel
theorem dX0_give_17 : decode cX0_give 17 = .ok (.iload_n 1, 1) := by decide +kernel
theorem dX0_give_18 : decode cX0_give 18 = .ok (.iload_n 2, 1) := by decide +kernel
theorem dX0_give_19 : decode cX0_give 19 = .ok (.iastore, 1) := by decide +kernel
theorem dX0_give_20 : decode cX0_give 20 = .ok (.aload_n 0, 1) := by decide +kernel
theorem dX0_give_21 : decode cX0_give 21 = .ok (.getfield 9, 3) := by decide +kernel
theorem dX0_give_24 : decode cX0_give 24 = .ok (.iload_n 2, 1) := by decide +kernel
theorem dX0_give_25 : decode cX0_give 25 = .ok (.iload_n 1, 1) := by decide +kernel
theorem dX0_give_26 : decode cX0_give 26 = .ok (.iastore, 1) := by decide +kernel
theorem dX0_give_27 : decode cX0_give 27 = .ok (.iconst 1, 1) := by decide +kernel
theorem dX0_give_28 : decode cX0_give 28 = .ok (.ireturn, 1) := by decide +kernel
theorem dX0_firmWays_0 : decode cX0_firmWays 0 = .ok (.aload_n 1, 1) := by decide +kernel
theorem dX0_firmWays_1 : decode cX0_firmWays 1 = .ok (.getfield 15, 3) := by decide +kernel
theorem dX0_firmWays_4 : decode cX0_firmWays 4 = .ok (.iconst 0, 1) := by decide +kernel
theorem dX0_firmWays_5 : decode cX0_firmWays 5 = .ok (.iaload, 1) := by decide +kernel
theorem dX0_firmWays_6 : decode cX0_firmWays 6 = .ok (.aload_n 1, 1) := by decide +kernel
theorem dX0_firmWays_7 : decode cX0_firmWays 7 = .ok (.getfield 15, 3) := by decide +kernel
theorem dX0_firmWays_10 : decode cX0_firmWays 10 = .ok (.iconst 1, 1) := by decide +kernel
theorem dX0_firmWays_11 : decode cX0_firmWays 11 = .ok (.iaload, 1) := by decide +kernel
theorem dX0_firmWays_12 : decode cX0_firmWays 12 = .ok (.if_icmp .gt 7, 3) := by decide +kernel
theorem dX0_firmWays_15 : decode cX0_firmWays 15 = .ok (.iconst 0, 1) := by decide +kernel
theorem dX0_firmWays_16 : decode cX0_firmWays 16 = .ok (.goto 4, 3) := by decide +kernel
theorem dX0_firmWays_19 : decode cX0_firmWays 19 = .ok (.iconst 1, 1) := by decide +kernel
theorem dX0_firmWays_20 : decode cX0_firmWays 20 = .ok (.istore_n 2, 1) := by decide +kernel
theorem dX0_firmWays_21 : decode cX0_firmWays 21 = .ok (.aload_n 1, 1) := by decide +kernel
theorem dX0_firmWays_22 : decode cX0_firmWays 22 = .ok (.getfield 15, 3) := by decide +kernel
theorem dX0_firmWays_25 : decode cX0_firmWays 25 = .ok (.iconst 1, 1) := by decide +kernel
theorem dX0_firmWays_26 : decode cX0_firmWays 26 = .ok (.iload_n 2, 1) := by decide +kernel
theorem dX0_firmWays_27 : decode cX0_firmWays 27 = .ok (.isub, 1) := by decide +kernel
theorem dX0_firmWays_28 : decode cX0_firmWays 28 = .ok (.iaload, 1) := by decide +kernel
theorem dX0_firmWays_29 : decode cX0_firmWays 29 = .ok (.istore_n 3, 1) := by decide +kernel
theorem dX0_firmWays_30 : decode cX0_firmWays 30 = .ok (.iconst 1, 1) := by decide +kernel
theorem dX0_firmWays_31 : decode cX0_firmWays 31 = .ok (.istore 4, 2) := by decide +kernel
theorem dX0_firmWays_33 : decode cX0_firmWays 33 = .ok (.iconst 0, 1) := by decide +kernel
theorem dX0_firmWays_34 : decode cX0_firmWays 34 = .ok (.istore 5, 2) := by decide +kernel
theorem dX0_firmWays_36 : decode cX0_firmWays 36 = .ok (.iload 5, 2) := by decide +kernel
theorem dX0_firmWays_38 : decode cX0_firmWays 38 = .ok (.aload_n 1, 1) := by decide +kernel
theorem dX0_firmWays_39 : decode cX0_firmWays 39 = .ok (.getfield 15, 3) := by decide +kernel
theorem dX0_firmWays_42 : decode cX0_firmWays 42 = .ok (.iload_n 2, 1) := by decide +kernel
theorem dX0_firmWays_43 : decode cX0_firmWays 43 = .ok (.iaload, 1) := by decide +kernel
theorem dX0_firmWays_44 : decode cX0_firmWays 44 = .ok (.if_icmp .ge 15, 3) := by decide +kernel
theorem dX0_firmWays_47 : decode cX0_firmWays 47 = .ok (.iload 4, 2) := by decide +kernel
theorem dX0_firmWays_49 : decode cX0_firmWays 49 = .ok (.iload_n 3, 1) := by decide +kernel
theorem dX0_firmWays_50 : decode cX0_firmWays 50 = .ok (.imul, 1) := by decide +kernel
theorem dX0_firmWays_51 : decode cX0_firmWays 51 = .ok (.istore 4, 2) := by decide +kernel
theorem dX0_firmWays_53 : decode cX0_firmWays 53 = .ok (.iinc 5 1, 3) := by decide +kernel
theorem dX0_firmWays_56 : decode cX0_firmWays 56 = .ok (.goto (-20), 3) := by decide +kernel
theorem dX0_firmWays_59 : decode cX0_firmWays 59 = .ok (.iconst 0, 1) := by decide +kernel
theorem dX0_firmWays_60 : decode cX0_firmWays 60 = .ok (.istore 5, 2) := by decide +kernel
theorem dX0_firmWays_62 : decode cX0_firmWays 62 = .ok (.iconst 0, 1) := by decide +kernel
theorem dX0_firmWays_63 : decode cX0_firmWays 63 = .ok (.istore 6, 2) := by decide +kernel
theorem dX0_firmWays_65 : decode cX0_firmWays 65 = .ok (.iload 6, 2) := by decide +kernel
theorem dX0_firmWays_67 : decode cX0_firmWays 67 = .ok (.iload 4, 2) := by decide +kernel
theorem dX0_firmWays_69 : decode cX0_firmWays 69 = .ok (.if_icmp .ge 33, 3) := by decide +kernel
theorem dX0_firmWays_72 : decode cX0_firmWays 72 = .ok (.aload_n 0, 1) := by decide +kernel
theorem dX0_firmWays_73 : decode cX0_firmWays 73 = .ok (.aload_n 1, 1) := by decide +kernel
theorem dX0_firmWays_74 : decode cX0_firmWays 74 = .ok (.iload_n 2, 1) := by decide +kernel
theorem dX0_firmWays_75 : decode cX0_firmWays 75 = .ok (.iload 6, 2) := by decide +kernel
theorem dX0_firmWays_77 : decode cX0_firmWays 77 = .ok (.invokevirtual 20, 3) := by decide +kernel
theorem dX0_firmWays_80 : decode cX0_firmWays 80 = .ok (.ifCond .eq 16, 3) := by decide +kernel
theorem dX0_firmWays_83 : decode cX0_firmWays 83 = .ok (.aload_n 0, 1) := by decide +kernel
theorem dX0_firmWays_84 : decode cX0_firmWays 84 = .ok (.aload_n 1, 1) := by decide +kernel
theorem dX0_firmWays_85 : decode cX0_firmWays 85 = .ok (.invokevirtual 24, 3) := by decide +kernel
theorem dX0_firmWays_88 : decode cX0_firmWays 88 = .ok (.bipush (-9), 2) := by decide +kernel
theorem dX0_firmWays_90 : decode cX0_firmWays 90 = .ok (.if_icmp .ne 6, 3) := by decide +kernel
theorem dX0_firmWays_93 : decode cX0_firmWays 93 = .ok (.iinc 5 1, 3) := by decide +kernel
theorem dX0_firmWays_96 : decode cX0_firmWays 96 = .ok (.iinc 6 1, 3) := by decide +kernel
theorem dX0_firmWays_99 : decode cX0_firmWays 99 = .ok (.goto (-34), 3) := by decide +kernel
theorem dX0_firmWays_102 : decode cX0_firmWays 102 = .ok (.iload 5, 2) := by decide +kernel
theorem dX0_firmWays_104 : decode cX0_firmWays 104 = .ok (.ireturn, 1) := by decide +kernel
theorem dX0_giveByCode_0 : decode cX0_giveByCode 0 = .ok (.aload_n 0, 1) := by decide +kernel
theorem dX0_giveByCode_1 : decode cX0_giveByCode 1 = .ok (.invokevirtual 28, 3) := by decide +kernel
theorem dX0_giveByCode_4 : decode cX0_giveByCode 4 = .ok (.aload_n 1, 1) := by decide +kernel
theorem dX0_giveByCode_5 : decode cX0_giveByCode 5 = .ok (.getfield 15, 3) := by decide +kernel
theorem dX0_giveByCode_8 : decode cX0_giveByCode 8 = .ok (.iconst 1, 1) := by decide +kernel
theorem dX0_giveByCode_9 : decode cX0_giveByCode 9 = .ok (.iload_n 2, 1) := by decide +kernel
theorem dX0_giveByCode_10 : decode cX0_giveByCode 10 = .ok (.isub, 1) := by decide +kernel
theorem dX0_giveByCode_11 : decode cX0_giveByCode 11 = .ok (.iaload, 1) := by decide +kernel
theorem dX0_giveByCode_12 : decode cX0_giveByCode 12 = .ok (.istore 4, 2) := by decide +kernel
theorem dX0_giveByCode_14 : decode cX0_giveByCode 14 = .ok (.iload_n 3, 1) := by decide +kernel
theorem dX0_giveByCode_15 : decode cX0_giveByCode 15 = .ok (.istore 5, 2) := by decide +kernel
theorem dX0_giveByCode_17 : decode cX0_giveByCode 17 = .ok (.iconst 0, 1) := by decide +kernel
theorem dX0_giveByCode_18 : decode cX0_giveByCode 18 = .ok (.istore 6, 2) := by decide +kernel
theorem dX0_giveByCode_20 : decode cX0_giveByCode 20 = .ok (.iload 6, 2) := by decide +kernel
theorem dX0_giveByCode_22 : decode cX0_giveByCode 22 = .ok (.aload_n 1, 1) := by decide +kernel
theorem dX0_giveByCode_23 : decode cX0_giveByCode 23 = .ok (.getfield 15, 3) := by decide +kernel
theorem dX0_giveByCode_26 : decode cX0_giveByCode 26 = .ok (.iload_n 2, 1) := by decide +kernel
theorem dX0_giveByCode_27 : decode cX0_giveByCode 27 = .ok (.iaload, 1) := by decide +kernel
theorem dX0_giveByCode_28 : decode cX0_giveByCode 28 = .ok (.if_icmp .ge 54, 3) := by decide +kernel
theorem dX0_giveByCode_31 : decode cX0_giveByCode 31 = .ok (.iload 4, 2) := by decide +kernel
theorem dX0_giveByCode_33 : decode cX0_giveByCode 33 = .ok (.iconst 1, 1) := by decide +kernel
theorem dX0_giveByCode_34 : decode cX0_giveByCode 34 = .ok (.if_icmp .ge 5, 3) := by decide +kernel
theorem dX0_giveByCode_37 : decode cX0_giveByCode 37 = .ok (.iconst 0, 1) := by decide +kernel
theorem dX0_giveByCode_38 : decode cX0_giveByCode 38 = .ok (.ireturn, 1) := by decide +kernel
theorem dX0_giveByCode_39 : decode cX0_giveByCode 39 = .ok (.iload_n 2, 1) := by decide +kernel
theorem dX0_giveByCode_40 : decode cX0_giveByCode 40 = .ok (.iconst 5, 1) := by decide +kernel
theorem dX0_giveByCode_41 : decode cX0_giveByCode 41 = .ok (.imul, 1) := by decide +kernel
theorem dX0_giveByCode_42 : decode cX0_giveByCode 42 = .ok (.iload 6, 2) := by decide +kernel
theorem dX0_giveByCode_44 : decode cX0_giveByCode 44 = .ok (.iadd, 1) := by decide +kernel
theorem dX0_giveByCode_45 : decode cX0_giveByCode 45 = .ok (.istore 7, 2) := by decide +kernel
theorem dX0_giveByCode_47 : decode cX0_giveByCode 47 = .ok (.aload_n 0, 1) := by decide +kernel
theorem dX0_giveByCode_48 : decode cX0_giveByCode 48 = .ok (.iload 7, 2) := by decide +kernel
theorem dX0_giveByCode_50 : decode cX0_giveByCode 50 = .ok (.iload 7, 2) := by decide +kernel
theorem dX0_giveByCode_52 : decode cX0_giveByCode 52 = .ok (.invokestatic 31, 3) := by decide +kernel
theorem dX0_giveByCode_55 : decode cX0_giveByCode 55 = .ok (.iload 5, 2) := by decide +kernel
theorem dX0_giveByCode_57 : decode cX0_giveByCode 57 = .ok (.iload 4, 2) := by decide +kernel
theorem dX0_giveByCode_59 : decode cX0_giveByCode 59 = .ok (.irem, 1) := by decide +kernel
theorem dX0_giveByCode_60 : decode cX0_giveByCode 60 = .ok (.iadd, 1) := by decide +kernel
theorem dX0_giveByCode_61 : decode cX0_giveByCode 61 = .ok (.invokevirtual 35, 3) := by decide +kernel
theorem dX0_giveByCode_64 : decode cX0_giveByCode 64 = .ok (.ifCond .ne 5, 3) := by decide +kernel
theorem dX0_giveByCode_67 : decode cX0_giveByCode 67 = .ok (.iconst 0, 1) := by decide +kernel
theorem dX0_giveByCode_68 : decode cX0_giveByCode 68 = .ok (.ireturn, 1) := by decide +kernel
theorem dX0_giveByCode_69 : decode cX0_giveByCode 69 = .ok (.iload 5, 2) := by decide +kernel
theorem dX0_giveByCode_71 : decode cX0_giveByCode 71 = .ok (.iload 4, 2) := by decide +kernel
theorem dX0_giveByCode_73 : decode cX0_giveByCode 73 = .ok (.idiv, 1) := by decide +kernel
theorem dX0_giveByCode_74 : decode cX0_giveByCode 74 = .ok (.istore 5, 2) := by decide +kernel
theorem dX0_giveByCode_76 : decode cX0_giveByCode 76 = .ok (.iinc 6 1, 3) := by decide +kernel
theorem dX0_giveByCode_79 : decode cX0_giveByCode 79 = .ok (.goto (-59), 3) := by decide +kernel
theorem dX0_giveByCode_82 : decode cX0_giveByCode 82 = .ok (.iconst 1, 1) := by decide +kernel
theorem dX0_giveByCode_83 : decode cX0_giveByCode 83 = .ok (.ireturn, 1) := by decide +kernel
theorem dX0_firstWhoWouldRather_0 : decode cX0_firstWhoWouldRather 0 = .ok (.iconst 0, 1) := by decide +kernel
theorem dX0_firstWhoWouldRather_1 : decode cX0_firstWhoWouldRather 1 = .ok (.istore_n 2, 1) := by decide +kernel
theorem dX0_firstWhoWouldRather_2 : decode cX0_firstWhoWouldRather 2 = .ok (.iload_n 2, 1) := by decide +kernel
theorem dX0_firstWhoWouldRather_3 : decode cX0_firstWhoWouldRather 3 = .ok (.aload_n 1, 1) := by decide +kernel
theorem dX0_firstWhoWouldRather_4 : decode cX0_firstWhoWouldRather 4 = .ok (.getfield 15, 3) := by decide +kernel
theorem dX0_firstWhoWouldRather_7 : decode cX0_firstWhoWouldRather 7 = .ok (.iconst 0, 1) := by decide +kernel
theorem dX0_firstWhoWouldRather_8 : decode cX0_firstWhoWouldRather 8 = .ok (.iaload, 1) := by decide +kernel
theorem dX0_firstWhoWouldRather_9 : decode cX0_firstWhoWouldRather 9 = .ok (.if_icmp .ge 61, 3) := by decide +kernel
theorem dX0_firstWhoWouldRather_12 : decode cX0_firstWhoWouldRather 12 = .ok (.iconst 0, 1) := by decide +kernel
theorem dX0_firstWhoWouldRather_13 : decode cX0_firstWhoWouldRather 13 = .ok (.istore_n 3, 1) := by decide +kernel
theorem dX0_firstWhoWouldRather_14 : decode cX0_firstWhoWouldRather 14 = .ok (.iload_n 3, 1) := by decide +kernel
theorem dX0_firstWhoWouldRather_15 : decode cX0_firstWhoWouldRather 15 = .ok (.aload_n 1, 1) := by decide +kernel
theorem dX0_firstWhoWouldRather_16 : decode cX0_firstWhoWouldRather 16 = .ok (.getfield 15, 3) := by decide +kernel
theorem dX0_firstWhoWouldRather_19 : decode cX0_firstWhoWouldRather 19 = .ok (.iconst 1, 1) := by decide +kernel
theorem dX0_firstWhoWouldRather_20 : decode cX0_firstWhoWouldRather 20 = .ok (.iaload, 1) := by decide +kernel
theorem dX0_firstWhoWouldRather_21 : decode cX0_firstWhoWouldRather 21 = .ok (.if_icmp .ge 43, 3) := by decide +kernel
theorem dX0_firstWhoWouldRather_24 : decode cX0_firstWhoWouldRather 24 = .ok (.iconst 5, 1) := by decide +kernel
theorem dX0_firstWhoWouldRather_25 : decode cX0_firstWhoWouldRather 25 = .ok (.iload_n 3, 1) := by decide +kernel
theorem dX0_firstWhoWouldRather_26 : decode cX0_firstWhoWouldRather 26 = .ok (.iadd, 1) := by decide +kernel
theorem dX0_firstWhoWouldRather_27 : decode cX0_firstWhoWouldRather 27 = .ok (.istore 4, 2) := by decide +kernel
theorem dX0_firstWhoWouldRather_29 : decode cX0_firstWhoWouldRather 29 = .ok (.aload_n 0, 1) := by decide +kernel
theorem dX0_firstWhoWouldRather_30 : decode cX0_firstWhoWouldRather 30 = .ok (.aload_n 1, 1) := by decide +kernel
theorem dX0_firstWhoWouldRather_31 : decode cX0_firstWhoWouldRather 31 = .ok (.iload_n 2, 1) := by decide +kernel
theorem dX0_firstWhoWouldRather_32 : decode cX0_firstWhoWouldRather 32 = .ok (.iload 4, 2) := by decide +kernel
theorem dX0_firstWhoWouldRather_34 : decode cX0_firstWhoWouldRather 34 = .ok (.invokevirtual 39, 3) := by decide +kernel
theorem dX0_firstWhoWouldRather_37 : decode cX0_firstWhoWouldRather 37 = .ok (.ifCond .eq 21, 3) := by decide +kernel
theorem dX0_firstWhoWouldRather_40 : decode cX0_firstWhoWouldRather 40 = .ok (.aload_n 0, 1) := by decide +kernel
theorem dX0_firstWhoWouldRather_41 : decode cX0_firstWhoWouldRather 41 = .ok (.aload_n 1, 1) := by decide +kernel
theorem dX0_firstWhoWouldRather_42 : decode cX0_firstWhoWouldRather 42 = .ok (.iload 4, 2) := by decide +kernel
theorem dX0_firstWhoWouldRather_44 : decode cX0_firstWhoWouldRather 44 = .ok (.iload_n 2, 1) := by decide +kernel
theorem dX0_firstWhoWouldRather_45 : decode cX0_firstWhoWouldRather 45 = .ok (.invokevirtual 39, 3) := by decide +kernel
theorem dX0_firstWhoWouldRather_48 : decode cX0_firstWhoWouldRather 48 = .ok (.ifCond .eq 10, 3) := by decide +kernel
theorem dX0_firstWhoWouldRather_51 : decode cX0_firstWhoWouldRather 51 = .ok (.bipush 10, 2) := by decide +kernel
theorem dX0_firstWhoWouldRather_53 : decode cX0_firstWhoWouldRather 53 = .ok (.iload_n 2, 1) := by decide +kernel
theorem dX0_firstWhoWouldRather_54 : decode cX0_firstWhoWouldRather 54 = .ok (.imul, 1) := by decide +kernel
theorem dX0_firstWhoWouldRather_55 : decode cX0_firstWhoWouldRather 55 = .ok (.iload_n 3, 1) := by decide +kernel
theorem dX0_firstWhoWouldRather_56 : decode cX0_firstWhoWouldRather 56 = .ok (.iadd, 1) := by decide +kernel
theorem dX0_firstWhoWouldRather_57 : decode cX0_firstWhoWouldRather 57 = .ok (.ireturn, 1) := by decide +kernel
theorem dX0_firstWhoWouldRather_58 : decode cX0_firstWhoWouldRather 58 = .ok (.iinc 3 1, 3) := by decide +kernel
theorem dX0_firstWhoWouldRather_61 : decode cX0_firstWhoWouldRather 61 = .ok (.goto (-47), 3) := by decide +kernel
theorem dX0_firstWhoWouldRather_64 : decode cX0_firstWhoWouldRather 64 = .ok (.iinc 2 1, 3) := by decide +kernel
theorem dX0_firstWhoWouldRather_67 : decode cX0_firstWhoWouldRather 67 = .ok (.goto (-65), 3) := by decide +kernel
theorem dX0_firstWhoWouldRather_70 : decode cX0_firstWhoWouldRather 70 = .ok (.bipush (-9), 2) := by decide +kernel
theorem dX0_firstWhoWouldRather_72 : decode cX0_firstWhoWouldRather 72 = .ok (.ireturn, 1) := by decide +kernel
theorem dX0_wouldRather_0 : decode cX0_wouldRather 0 = .ok (.aload_n 0, 1) := by decide +kernel
theorem dX0_wouldRather_1 : decode cX0_wouldRather 1 = .ok (.getfield 9, 3) := by decide +kernel
theorem dX0_wouldRather_4 : decode cX0_wouldRather 4 = .ok (.iload_n 2, 1) := by decide +kernel
theorem dX0_wouldRather_5 : decode cX0_wouldRather 5 = .ok (.iaload, 1) := by decide +kernel
theorem dX0_wouldRather_6 : decode cX0_wouldRather 6 = .ok (.bipush (-9), 2) := by decide +kernel
theorem dX0_wouldRather_8 : decode cX0_wouldRather 8 = .ok (.if_icmp .eq 23, 3) := by decide +kernel
theorem dX0_wouldRather_11 : decode cX0_wouldRather 11 = .ok (.aload_n 1, 1) := by decide +kernel
theorem dX0_wouldRather_12 : decode cX0_wouldRather 12 = .ok (.iload_n 2, 1) := by decide +kernel
theorem dX0_wouldRather_13 : decode cX0_wouldRather 13 = .ok (.iload_n 3, 1) := by decide +kernel
theorem dX0_wouldRather_14 : decode cX0_wouldRather 14 = .ok (.invokevirtual 42, 3) := by decide +kernel
theorem dX0_wouldRather_17 : decode cX0_wouldRather 17 = .ok (.aload_n 1, 1) := by decide +kernel
theorem dX0_wouldRather_18 : decode cX0_wouldRather 18 = .ok (.iload_n 2, 1) := by decide +kernel
theorem dX0_wouldRather_19 : decode cX0_wouldRather 19 = .ok (.aload_n 0, 1) := by decide +kernel
theorem dX0_wouldRather_20 : decode cX0_wouldRather 20 = .ok (.getfield 9, 3) := by decide +kernel
theorem dX0_wouldRather_23 : decode cX0_wouldRather 23 = .ok (.iload_n 2, 1) := by decide +kernel
theorem dX0_wouldRather_24 : decode cX0_wouldRather 24 = .ok (.iaload, 1) := by decide +kernel
theorem dX0_wouldRather_25 : decode cX0_wouldRather 25 = .ok (.invokevirtual 42, 3) := by decide +kernel
theorem dX0_wouldRather_28 : decode cX0_wouldRather 28 = .ok (.if_icmp .le 7, 3) := by decide +kernel
theorem dX0_wouldRather_31 : decode cX0_wouldRather 31 = .ok (.iconst 1, 1) := by decide +kernel
theorem dX0_wouldRather_32 : decode cX0_wouldRather 32 = .ok (.goto 4, 3) := by decide +kernel
theorem dX0_wouldRather_35 : decode cX0_wouldRather 35 = .ok (.iconst 0, 1) := by decide +kernel
theorem dX0_wouldRather_36 : decode cX0_wouldRather 36 = .ok (.ireturn, 1) := by decide +kernel
theorem dX1_init_0 : decode cX1_init 0 = .ok (.aload_n 0, 1) := by decide +kernel
theorem dX1_init_1 : decode cX1_init 1 = .ok (.invokespecial 3, 3) := by decide +kernel
theorem dX1_init_4 : decode cX1_init 4 = .ok (.aload_n 0, 1) := by decide +kernel
theorem dX1_init_5 : decode cX1_init 5 = .ok (.bipush 10, 2) := by decide +kernel
theorem dX1_init_7 : decode cX1_init 7 = .ok (.newarray .int, 2) := by decide +kernel
theorem dX1_init_9 : decode cX1_init 9 = .ok (.putfield 9, 3) := by decide +kernel
theorem dX1_init_12 : decode cX1_init 12 = .ok (.aload_n 0, 1) := by decide +kernel
theorem dX1_init_13 : decode cX1_init 13 = .ok (.bipush 10, 2) := by decide +kernel
theorem dX1_init_15 : decode cX1_init 15 = .ok (.newarray .int, 2) := by decide +kernel
theorem dX1_init_17 : decode cX1_init 17 = .ok (.putfield 15, 3) := by decide +kernel
theorem dX1_init_20 : decode cX1_init 20 = .ok (.aload_n 0, 1) := by decide +kernel
theorem dX1_init_21 : decode cX1_init 21 = .ok (.bipush 10, 2) := by decide +kernel
theorem dX1_init_23 : decode cX1_init 23 = .ok (.newarray .int, 2) := by decide +kernel
theorem dX1_init_25 : decode cX1_init 25 = .ok (.putfield 18, 3) := by decide +kernel
theorem dX1_init_28 : decode cX1_init 28 = .ok (.aload_n 0, 1) := by decide +kernel
theorem dX1_init_29 : decode cX1_init 29 = .ok (.bipush 10, 2) := by decide +kernel
theorem dX1_init_31 : decode cX1_init 31 = .ok (.newarray .int, 2) := by decide +kernel
theorem dX1_init_33 : decode cX1_init 33 = .ok (.putfield 21, 3) := by decide +kernel
theorem dX1_init_36 : decode cX1_init 36 = .ok (.return_, 1) := by decide +kernel
theorem dX1_settle_0 : decode cX1_settle 0 = .ok (.iload_n 3, 1) := by decide +kernel
theorem dX1_settle_1 : decode cX1_settle 1 = .ok (.iconst 3, 1) := by decide +kernel
theorem dX1_settle_2 : decode cX1_settle 2 = .ok (.if_icmp .ne 9, 3) := by decide +kernel
theorem dX1_settle_5 : decode cX1_settle 5 = .ok (.aload_n 0, 1) := by decide +kernel
theorem dX1_settle_6 : decode cX1_settle 6 = .ok (.aload_n 1, 1) := by decide +kernel
theorem dX1_settle_7 : decode cX1_settle 7 = .ok (.iconst 0, 1) := by decide +kernel
theorem dX1_settle_8 : decode cX1_settle 8 = .ok (.invokevirtual 24, 3) := by decide +kernel
theorem dX1_settle_11 : decode cX1_settle 11 = .ok (.iconst 0, 1) := by decide +kernel
theorem dX1_settle_12 : decode cX1_settle 12 = .ok (.istore 4, 2) := by decide +kernel
theorem dX1_settle_14 : decode cX1_settle 14 = .ok (.iload 4, 2) := by decide +kernel
theorem dX1_settle_16 : decode cX1_settle 16 = .ok (.bipush 10, 2) := by decide +kernel
theorem dX1_settle_18 : decode cX1_settle 18 = .ok (.if_icmp .ge 39, 3) := by decide +kernel
theorem dX1_settle_21 : decode cX1_settle 21 = .ok (.aload_n 0, 1) := by decide +kernel
theorem dX1_settle_22 : decode cX1_settle 22 = .ok (.getfield 9, 3) := by decide +kernel
theorem dX1_settle_25 : decode cX1_settle 25 = .ok (.iload 4, 2) := by decide +kernel
theorem dX1_settle_27 : decode cX1_settle 27 = .ok (.iconst 0, 1) := by decide +kernel
theorem dX1_settle_28 : decode cX1_settle 28 = .ok (.iastore, 1) := by decide +kernel
theorem dX1_settle_29 : decode cX1_settle 29 = .ok (.aload_n 0, 1) := by decide +kernel
theorem dX1_settle_30 : decode cX1_settle 30 = .ok (.getfield 18, 3) := by decide +kernel
theorem dX1_settle_33 : decode cX1_settle 33 = .ok (.iload 4, 2) := by decide +kernel
theorem dX1_settle_35 : decode cX1_settle 35 = .ok (.aload_n 0, 1) := by decide +kernel
theorem dX1_settle_36 : decode cX1_settle 36 = .ok (.aload_n 1, 1) := by decide +kernel
theorem dX1_settle_37 : decode cX1_settle 37 = .ok (.iload 4, 2) := by decide +kernel
theorem dX1_settle_39 : decode cX1_settle 39 = .ok (.aload_n 2, 1) := by decide +kernel
theorem dX1_settle_40 : decode cX1_settle 40 = .ok (.getfield 28, 3) := by decide +kernel
theorem dX1_settle_43 : decode cX1_settle 43 = .ok (.iload 4, 2) := by decide +kernel
theorem dX1_settle_45 : decode cX1_settle 45 = .ok (.iaload, 1) := by decide +kernel
theorem dX1_settle_46 : decode cX1_settle 46 = .ok (.iload_n 3, 1) := by decide +kernel
theorem dX1_settle_47 : decode cX1_settle 47 = .ok (.invokevirtual 33, 3) := by decide +kernel
theorem dX1_settle_50 : decode cX1_settle 50 = .ok (.iastore, 1) := by decide +kernel
theorem dX1_settle_51 : decode cX1_settle 51 = .ok (.iinc 4 1, 3) := by decide +kernel
theorem dX1_settle_54 : decode cX1_settle 54 = .ok (.goto (-40), 3) := by decide +kernel
theorem dX1_settle_57 : decode cX1_settle 57 = .ok (.iconst 0, 1) := by decide +kernel
theorem dX1_settle_58 : decode cX1_settle 58 = .ok (.istore 4, 2) := by decide +kernel
theorem dX1_settle_60 : decode cX1_settle 60 = .ok (.iload 4, 2) := by decide +kernel
theorem dX1_settle_62 : decode cX1_settle 62 = .ok (.iconst 5, 1) := by decide +kernel
theorem dX1_settle_63 : decode cX1_settle 63 = .ok (.if_icmp .ge 92, 3) := by decide +kernel
theorem dX1_settle_66 : decode cX1_settle 66 = .ok (.iconst 0, 1) := by decide +kernel
theorem dX1_settle_67 : decode cX1_settle 67 = .ok (.istore 5, 2) := by decide +kernel
theorem dX1_settle_69 : decode cX1_settle 69 = .ok (.iload 5, 2) := by decide +kernel
theorem dX1_settle_71 : decode cX1_settle 71 = .ok (.iconst 5, 1) := by decide +kernel
theorem dX1_settle_72 : decode cX1_settle 72 = .ok (.if_icmp .ge 77, 3) := by decide +kernel
theorem dX1_settle_75 : decode cX1_settle 75 = .ok (.iconst 5, 1) := by decide +kernel
theorem dX1_settle_76 : decode cX1_settle 76 = .ok (.iload 5, 2) := by decide +kernel
theorem dX1_settle_78 : decode cX1_settle 78 = .ok (.iadd, 1) := by decide +kernel
theorem dX1_settle_79 : decode cX1_settle 79 = .ok (.istore 6, 2) := by decide +kernel
theorem dX1_settle_81 : decode cX1_settle 81 = .ok (.aload_n 0, 1) := by decide +kernel
theorem dX1_settle_82 : decode cX1_settle 82 = .ok (.getfield 18, 3) := by decide +kernel
theorem dX1_settle_85 : decode cX1_settle 85 = .ok (.iload 4, 2) := by decide +kernel
theorem dX1_settle_87 : decode cX1_settle 87 = .ok (.iaload, 1) := by decide +kernel
theorem dX1_settle_88 : decode cX1_settle 88 = .ok (.iload 6, 2) := by decide +kernel
theorem dX1_settle_90 : decode cX1_settle 90 = .ok (.invokestatic 37, 3) := by decide +kernel
theorem dX1_settle_93 : decode cX1_settle 93 = .ok (.iand, 1) := by decide +kernel
theorem dX1_settle_94 : decode cX1_settle 94 = .ok (.ifCond .eq 49, 3) := by decide +kernel
theorem dX1_settle_97 : decode cX1_settle 97 = .ok (.aload_n 0, 1) := by decide +kernel
theorem dX1_settle_98 : decode cX1_settle 98 = .ok (.getfield 18, 3) := by decide +kernel
theorem dX1_settle_101 : decode cX1_settle 101 = .ok (.iload 6, 2) := by decide +kernel
theorem dX1_settle_103 : decode cX1_settle 103 = .ok (.iaload, 1) := by decide +kernel
theorem dX1_settle_104 : decode cX1_settle 104 = .ok (.iload 4, 2) := by decide +kernel
theorem dX1_settle_106 : decode cX1_settle 106 = .ok (.invokestatic 37, 3) := by decide +kernel
theorem dX1_settle_109 : decode cX1_settle 109 = .ok (.iand, 1) := by decide +kernel
theorem dX1_settle_110 : decode cX1_settle 110 = .ok (.ifCond .eq 33, 3) := by decide +kernel
theorem dX1_settle_113 : decode cX1_settle 113 = .ok (.aload_n 0, 1) := by decide +kernel
theorem dX1_settle_114 : decode cX1_settle 114 = .ok (.getfield 9, 3) := by decide +kernel
theorem dX1_settle_117 : decode cX1_settle 117 = .ok (.iload 4, 2) := by decide +kernel
theorem dX1_settle_119 : decode cX1_settle 119 = .ok (.dup2, 1) := by decide +kernel
theorem dX1_settle_120 : decode cX1_settle 120 = .ok (.iaload, 1) := by decide +kernel
theorem dX1_settle_121 : decode cX1_settle 121 = .ok (.iload 6, 2) := by decide +kernel
theorem dX1_settle_123 : decode cX1_settle 123 = .ok (.invokestatic 37, 3) := by decide +kernel
theorem dX1_settle_126 : decode cX1_settle 126 = .ok (.ior, 1) := by decide +kernel
theorem dX1_settle_127 : decode cX1_settle 127 = .ok (.iastore, 1) := by decide +kernel
theorem dX1_settle_128 : decode cX1_settle 128 = .ok (.aload_n 0, 1) := by decide +kernel
theorem dX1_settle_129 : decode cX1_settle 129 = .ok (.getfield 9, 3) := by decide +kernel
theorem dX1_settle_132 : decode cX1_settle 132 = .ok (.iload 6, 2) := by decide +kernel
theorem dX1_settle_134 : decode cX1_settle 134 = .ok (.dup2, 1) := by decide +kernel
theorem dX1_settle_135 : decode cX1_settle 135 = .ok (.iaload, 1) := by decide +kernel
theorem dX1_settle_136 : decode cX1_settle 136 = .ok (.iload 4, 2) := by decide +kernel
theorem dX1_settle_138 : decode cX1_settle 138 = .ok (.invokestatic 37, 3) := by decide +kernel
theorem dX1_settle_141 : decode cX1_settle 141 = .ok (.ior, 1) := by decide +kernel
theorem dX1_settle_142 : decode cX1_settle 142 = .ok (.iastore, 1) := by decide +kernel
theorem dX1_settle_143 : decode cX1_settle 143 = .ok (.iinc 5 1, 3) := by decide +kernel
theorem dX1_settle_146 : decode cX1_settle 146 = .ok (.goto (-77), 3) := by decide +kernel
theorem dX1_settle_149 : decode cX1_settle 149 = .ok (.iinc 4 1, 3) := by decide +kernel
theorem dX1_settle_152 : decode cX1_settle 152 = .ok (.goto (-92), 3) := by decide +kernel
theorem dX1_settle_155 : decode cX1_settle 155 = .ok (.return_, 1) := by decide +kernel
theorem dX1_validYeses_0 : decode cX1_validYeses 0 = .ok (.iload 4, 2) := by decide +kernel
theorem dX1_validYeses_2 : decode cX1_validYeses 2 = .ok (.tableswitch 69 1 3 #[26, 34, 42], 26) := by decide +kernel
theorem dX1_validYeses_28 : decode cX1_validYeses 28 = .ok (.aload_n 1, 1) := by decide +kernel
theorem dX1_validYeses_29 : decode cX1_validYeses 29 = .ok (.iload_n 2, 1) := by decide +kernel
theorem dX1_validYeses_30 : decode cX1_validYeses 30 = .ok (.iload_n 3, 1) := by decide +kernel
theorem dX1_validYeses_31 : decode cX1_validYeses 31 = .ok (.iconst 3, 1) := by decide +kernel
theorem dX1_validYeses_32 : decode cX1_validYeses 32 = .ok (.invokestatic 41, 3) := by decide +kernel
theorem dX1_validYeses_35 : decode cX1_validYeses 35 = .ok (.ireturn, 1) := by decide +kernel
theorem dX1_validYeses_36 : decode cX1_validYeses 36 = .ok (.aload_n 1, 1) := by decide +kernel
theorem dX1_validYeses_37 : decode cX1_validYeses 37 = .ok (.iload_n 2, 1) := by decide +kernel
theorem dX1_validYeses_38 : decode cX1_validYeses 38 = .ok (.iload_n 3, 1) := by decide +kernel
theorem dX1_validYeses_39 : decode cX1_validYeses 39 = .ok (.iconst 1, 1) := by decide +kernel
theorem dX1_validYeses_40 : decode cX1_validYeses 40 = .ok (.invokestatic 41, 3) := by decide +kernel
theorem dX1_validYeses_43 : decode cX1_validYeses 43 = .ok (.ireturn, 1) := by decide +kernel
theorem dX1_validYeses_44 : decode cX1_validYeses 44 = .ok (.aload_n 0, 1) := by decide +kernel
theorem dX1_validYeses_45 : decode cX1_validYeses 45 = .ok (.getfield 15, 3) := by decide +kernel
theorem dX1_validYeses_48 : decode cX1_validYeses 48 = .ok (.iload_n 2, 1) := by decide +kernel
theorem dX1_validYeses_49 : decode cX1_validYeses 49 = .ok (.iaload, 1) := by decide +kernel
theorem dX1_validYeses_50 : decode cX1_validYeses 50 = .ok (.bipush (-9), 2) := by decide +kernel
theorem dX1_validYeses_52 : decode cX1_validYeses 52 = .ok (.if_icmp .ne 7, 3) := by decide +kernel
theorem dX1_validYeses_55 : decode cX1_validYeses 55 = .ok (.iconst 0, 1) := by decide +kernel
theorem dX1_validYeses_56 : decode cX1_validYeses 56 = .ok (.goto 14, 3) := by decide +kernel
theorem dX1_validYeses_59 : decode cX1_validYeses 59 = .ok (.iload_n 3, 1) := by decide +kernel
theorem dX1_validYeses_60 : decode cX1_validYeses 60 = .ok (.aload_n 0, 1) := by decide +kernel
theorem dX1_validYeses_61 : decode cX1_validYeses 61 = .ok (.getfield 15, 3) := by decide +kernel
theorem dX1_validYeses_64 : decode cX1_validYeses 64 = .ok (.iload_n 2, 1) := by decide +kernel
theorem dX1_validYeses_65 : decode cX1_validYeses 65 = .ok (.iaload, 1) := by decide +kernel
theorem dX1_validYeses_66 : decode cX1_validYeses 66 = .ok (.invokestatic 37, 3) := by decide +kernel
theorem dX1_validYeses_69 : decode cX1_validYeses 69 = .ok (.iand, 1) := by decide +kernel
theorem dX1_validYeses_70 : decode cX1_validYeses 70 = .ok (.ireturn, 1) := by decide +kernel
theorem dX1_validYeses_71 : decode cX1_validYeses 71 = .ok (.iload_n 3, 1) := by decide +kernel
theorem dX1_validYeses_72 : decode cX1_validYeses 72 = .ok (.ireturn, 1) := by decide +kernel
theorem dX1_howMany_0 : decode cX1_howMany 0 = .ok (.iconst 0, 1) := by decide +kernel
theorem dX1_howMany_1 : decode cX1_howMany 1 = .ok (.istore_n 1, 1) := by decide +kernel
theorem dX1_howMany_2 : decode cX1_howMany 2 = .ok (.iconst 0, 1) := by decide +kernel
theorem dX1_howMany_3 : decode cX1_howMany 3 = .ok (.istore_n 2, 1) := by decide +kernel
theorem dX1_howMany_4 : decode cX1_howMany 4 = .ok (.iload_n 2, 1) := by decide +kernel
theorem dX1_howMany_5 : decode cX1_howMany 5 = .ok (.iconst 5, 1) := by decide +kernel
theorem dX1_howMany_6 : decode cX1_howMany 6 = .ok (.if_icmp .ge 21, 3) := by decide +kernel
theorem dX1_howMany_9 : decode cX1_howMany 9 = .ok (.iload_n 1, 1) := by decide +kernel
theorem dX1_howMany_10 : decode cX1_howMany 10 = .ok (.aload_n 0, 1) := by decide +kernel
theorem dX1_howMany_11 : decode cX1_howMany 11 = .ok (.getfield 9, 3) := by decide +kernel
theorem dX1_howMany_14 : decode cX1_howMany 14 = .ok (.iload_n 2, 1) := by decide +kernel
theorem dX1_howMany_15 : decode cX1_howMany 15 = .ok (.iaload, 1) := by decide +kernel
theorem dX1_howMany_16 : decode cX1_howMany 16 = .ok (.invokestatic 44, 3) := by decide +kernel
theorem dX1_howMany_19 : decode cX1_howMany 19 = .ok (.iadd, 1) := by decide +kernel
theorem dX1_howMany_20 : decode cX1_howMany 20 = .ok (.istore_n 1, 1) := by decide +kernel
theorem dX1_howMany_21 : decode cX1_howMany 21 = .ok (.iinc 2 1, 3) := by decide +kernel
theorem dX1_howMany_24 : decode cX1_howMany 24 = .ok (.goto (-20), 3) := by decide +kernel
theorem dX1_howMany_27 : decode cX1_howMany 27 = .ok (.iload_n 1, 1) := by decide +kernel
theorem dX1_howMany_28 : decode cX1_howMany 28 = .ok (.ireturn, 1) := by decide +kernel
theorem dX1_gladness_0 : decode cX1_gladness 0 = .ok (.iconst 0, 1) := by decide +kernel
theorem dX1_gladness_1 : decode cX1_gladness 1 = .ok (.istore_n 2, 1) := by decide +kernel
theorem dX1_gladness_2 : decode cX1_gladness 2 = .ok (.iconst 0, 1) := by decide +kernel
theorem dX1_gladness_3 : decode cX1_gladness 3 = .ok (.istore_n 3, 1) := by decide +kernel
theorem dX1_gladness_4 : decode cX1_gladness 4 = .ok (.iload_n 3, 1) := by decide +kernel
theorem dX1_gladness_5 : decode cX1_gladness 5 = .ok (.iconst 5, 1) := by decide +kernel
theorem dX1_gladness_6 : decode cX1_gladness 6 = .ok (.if_icmp .ge 58, 3) := by decide +kernel
theorem dX1_gladness_9 : decode cX1_gladness 9 = .ok (.iconst 5, 1) := by decide +kernel
theorem dX1_gladness_10 : decode cX1_gladness 10 = .ok (.istore 4, 2) := by decide +kernel
theorem dX1_gladness_12 : decode cX1_gladness 12 = .ok (.iload 4, 2) := by decide +kernel
theorem dX1_gladness_14 : decode cX1_gladness 14 = .ok (.bipush 10, 2) := by decide +kernel
theorem dX1_gladness_16 : decode cX1_gladness 16 = .ok (.if_icmp .ge 42, 3) := by decide +kernel
theorem dX1_gladness_19 : decode cX1_gladness 19 = .ok (.aload_n 0, 1) := by decide +kernel
theorem dX1_gladness_20 : decode cX1_gladness 20 = .ok (.getfield 9, 3) := by decide +kernel
theorem dX1_gladness_23 : decode cX1_gladness 23 = .ok (.iload_n 3, 1) := by decide +kernel
theorem dX1_gladness_24 : decode cX1_gladness 24 = .ok (.iaload, 1) := by decide +kernel
theorem dX1_gladness_25 : decode cX1_gladness 25 = .ok (.iload 4, 2) := by decide +kernel
theorem dX1_gladness_27 : decode cX1_gladness 27 = .ok (.invokestatic 37, 3) := by decide +kernel
theorem dX1_gladness_30 : decode cX1_gladness 30 = .ok (.iand, 1) := by decide +kernel
theorem dX1_gladness_31 : decode cX1_gladness 31 = .ok (.ifCond .eq 21, 3) := by decide +kernel
theorem dX1_gladness_34 : decode cX1_gladness 34 = .ok (.iload_n 2, 1) := by decide +kernel
theorem dX1_gladness_35 : decode cX1_gladness 35 = .ok (.aload_n 1, 1) := by decide +kernel
theorem dX1_gladness_36 : decode cX1_gladness 36 = .ok (.iload_n 3, 1) := by decide +kernel
theorem dX1_gladness_37 : decode cX1_gladness 37 = .ok (.iload 4, 2) := by decide +kernel
theorem dX1_gladness_39 : decode cX1_gladness 39 = .ok (.invokevirtual 49, 3) := by decide +kernel
theorem dX1_gladness_42 : decode cX1_gladness 42 = .ok (.aload_n 1, 1) := by decide +kernel
theorem dX1_gladness_43 : decode cX1_gladness 43 = .ok (.iload 4, 2) := by decide +kernel
theorem dX1_gladness_45 : decode cX1_gladness 45 = .ok (.iload_n 3, 1) := by decide +kernel
theorem dX1_gladness_46 : decode cX1_gladness 46 = .ok (.invokevirtual 49, 3) := by decide +kernel
theorem dX1_gladness_49 : decode cX1_gladness 49 = .ok (.iadd, 1) := by decide +kernel
theorem dX1_gladness_50 : decode cX1_gladness 50 = .ok (.iadd, 1) := by decide +kernel
theorem dX1_gladness_51 : decode cX1_gladness 51 = .ok (.istore_n 2, 1) := by decide +kernel
theorem dX1_gladness_52 : decode cX1_gladness 52 = .ok (.iinc 4 1, 3) := by decide +kernel
theorem dX1_gladness_55 : decode cX1_gladness 55 = .ok (.goto (-43), 3) := by decide +kernel
theorem dX1_gladness_58 : decode cX1_gladness 58 = .ok (.iinc 3 1, 3) := by decide +kernel
theorem dX1_gladness_61 : decode cX1_gladness 61 = .ok (.goto (-57), 3) := by decide +kernel
theorem dX1_gladness_64 : decode cX1_gladness 64 = .ok (.iload_n 2, 1) := by decide +kernel
theorem dX1_gladness_65 : decode cX1_gladness 65 = .ok (.ireturn, 1) := by decide +kernel
theorem dX1_likedMost_0 : decode cX1_likedMost 0 = .ok (.iconst 0, 1) := by decide +kernel
theorem dX1_likedMost_1 : decode cX1_likedMost 1 = .ok (.istore 4, 2) := by decide +kernel
theorem dX1_likedMost_3 : decode cX1_likedMost 3 = .ok (.iconst 0, 1) := by decide +kernel
theorem dX1_likedMost_4 : decode cX1_likedMost 4 = .ok (.istore 5, 2) := by decide +kernel
theorem dX1_likedMost_6 : decode cX1_likedMost 6 = .ok (.iload 5, 2) := by decide +kernel
theorem dX1_likedMost_8 : decode cX1_likedMost 8 = .ok (.iload_n 3, 1) := by decide +kernel
theorem dX1_likedMost_9 : decode cX1_likedMost 9 = .ok (.if_icmp .ge 39, 3) := by decide +kernel
theorem dX1_likedMost_12 : decode cX1_likedMost 12 = .ok (.aload_n 0, 1) := by decide +kernel
theorem dX1_likedMost_13 : decode cX1_likedMost 13 = .ok (.iload_n 1, 1) := by decide +kernel
theorem dX1_likedMost_14 : decode cX1_likedMost 14 = .ok (.iload_n 2, 1) := by decide +kernel
theorem dX1_likedMost_15 : decode cX1_likedMost 15 = .ok (.iload 4, 2) := by decide +kernel
theorem dX1_likedMost_17 : decode cX1_likedMost 17 = .ok (.iconst (-1), 1) := by decide +kernel
theorem dX1_likedMost_18 : decode cX1_likedMost 18 = .ok (.ixor, 1) := by decide +kernel
theorem dX1_likedMost_19 : decode cX1_likedMost 19 = .ok (.iand, 1) := by decide +kernel
theorem dX1_likedMost_20 : decode cX1_likedMost 20 = .ok (.invokestatic 55, 3) := by decide +kernel
theorem dX1_likedMost_23 : decode cX1_likedMost 23 = .ok (.istore 6, 2) := by decide +kernel
theorem dX1_likedMost_25 : decode cX1_likedMost 25 = .ok (.iload 6, 2) := by decide +kernel
theorem dX1_likedMost_27 : decode cX1_likedMost 27 = .ok (.bipush (-9), 2) := by decide +kernel
theorem dX1_likedMost_29 : decode cX1_likedMost 29 = .ok (.if_icmp .eq 13, 3) := by decide +kernel
theorem dX1_likedMost_32 : decode cX1_likedMost 32 = .ok (.iload 4, 2) := by decide +kernel
theorem dX1_likedMost_34 : decode cX1_likedMost 34 = .ok (.iload 6, 2) := by decide +kernel
theorem dX1_likedMost_36 : decode cX1_likedMost 36 = .ok (.invokestatic 37, 3) := by decide +kernel
theorem dX1_likedMost_39 : decode cX1_likedMost 39 = .ok (.ior, 1) := by decide +kernel
theorem dX1_likedMost_40 : decode cX1_likedMost 40 = .ok (.istore 4, 2) := by decide +kernel
theorem dX1_likedMost_42 : decode cX1_likedMost 42 = .ok (.iinc 5 1, 3) := by decide +kernel
theorem dX1_likedMost_45 : decode cX1_likedMost 45 = .ok (.goto (-39), 3) := by decide +kernel
theorem dX1_likedMost_48 : decode cX1_likedMost 48 = .ok (.iload 4, 2) := by decide +kernel
theorem dX1_likedMost_50 : decode cX1_likedMost 50 = .ok (.ireturn, 1) := by decide +kernel
theorem dX1_favourite_0 : decode cX1_favourite 0 = .ok (.bipush (-9), 2) := by decide +kernel
theorem dX1_favourite_2 : decode cX1_favourite 2 = .ok (.istore_n 3, 1) := by decide +kernel
theorem dX1_favourite_3 : decode cX1_favourite 3 = .ok (.iconst 0, 1) := by decide +kernel
theorem dX1_favourite_4 : decode cX1_favourite 4 = .ok (.istore 4, 2) := by decide +kernel
theorem dX1_favourite_6 : decode cX1_favourite 6 = .ok (.iload 4, 2) := by decide +kernel
theorem dX1_favourite_8 : decode cX1_favourite 8 = .ok (.iconst 5, 1) := by decide +kernel
theorem dX1_favourite_9 : decode cX1_favourite 9 = .ok (.if_icmp .ge 65, 3) := by decide +kernel
theorem dX1_favourite_12 : decode cX1_favourite 12 = .ok (.iload_n 1, 1) := by decide +kernel
theorem dX1_favourite_13 : decode cX1_favourite 13 = .ok (.invokestatic 59, 3) := by decide +kernel
theorem dX1_favourite_16 : decode cX1_favourite 16 = .ok (.iload 4, 2) := by decide +kernel
theorem dX1_favourite_18 : decode cX1_favourite 18 = .ok (.iadd, 1) := by decide +kernel
theorem dX1_favourite_19 : decode cX1_favourite 19 = .ok (.istore 5, 2) := by decide +kernel
theorem dX1_favourite_21 : decode cX1_favourite 21 = .ok (.iload_n 2, 1) := by decide +kernel
theorem dX1_favourite_22 : decode cX1_favourite 22 = .ok (.iload 5, 2) := by decide +kernel
theorem dX1_favourite_24 : decode cX1_favourite 24 = .ok (.invokestatic 37, 3) := by decide +kernel
theorem dX1_favourite_27 : decode cX1_favourite 27 = .ok (.iand, 1) := by decide +kernel
theorem dX1_favourite_28 : decode cX1_favourite 28 = .ok (.ifCond .eq 7, 3) := by decide +kernel
theorem dX1_favourite_31 : decode cX1_favourite 31 = .ok (.iconst 1, 1) := by decide +kernel
theorem dX1_favourite_32 : decode cX1_favourite 32 = .ok (.goto 4, 3) := by decide +kernel
theorem dX1_favourite_35 : decode cX1_favourite 35 = .ok (.iconst 0, 1) := by decide +kernel
theorem dX1_favourite_36 : decode cX1_favourite 36 = .ok (.istore 6, 2) := by decide +kernel
theorem dX1_favourite_38 : decode cX1_favourite 38 = .ok (.iload 6, 2) := by decide +kernel
theorem dX1_favourite_40 : decode cX1_favourite 40 = .ok (.ifCond .eq 28, 3) := by decide +kernel
theorem dX1_favourite_43 : decode cX1_favourite 43 = .ok (.iload_n 3, 1) := by decide +kernel
theorem dX1_favourite_44 : decode cX1_favourite 44 = .ok (.bipush (-9), 2) := by decide +kernel
theorem dX1_favourite_46 : decode cX1_favourite 46 = .ok (.if_icmp .eq 19, 3) := by decide +kernel
theorem dX1_favourite_49 : decode cX1_favourite 49 = .ok (.aload_n 0, 1) := by decide +kernel
theorem dX1_favourite_50 : decode cX1_favourite 50 = .ok (.iload_n 1, 1) := by decide +kernel
theorem dX1_favourite_51 : decode cX1_favourite 51 = .ok (.iload 5, 2) := by decide +kernel
theorem dX1_favourite_53 : decode cX1_favourite 53 = .ok (.invokevirtual 49, 3) := by decide +kernel
theorem dX1_favourite_56 : decode cX1_favourite 56 = .ok (.aload_n 0, 1) := by decide +kernel
theorem dX1_favourite_57 : decode cX1_favourite 57 = .ok (.iload_n 1, 1) := by decide +kernel
theorem dX1_favourite_58 : decode cX1_favourite 58 = .ok (.iload_n 3, 1) := by decide +kernel
theorem dX1_favourite_59 : decode cX1_favourite 59 = .ok (.invokevirtual 49, 3) := by decide +kernel
theorem dX1_favourite_62 : decode cX1_favourite 62 = .ok (.if_icmp .le 6, 3) := by decide +kernel
theorem dX1_favourite_65 : decode cX1_favourite 65 = .ok (.iload 5, 2) := by decide +kernel
theorem dX1_favourite_67 : decode cX1_favourite 67 = .ok (.istore_n 3, 1) := by decide +kernel
theorem dX1_favourite_68 : decode cX1_favourite 68 = .ok (.iinc 4 1, 3) := by decide +kernel
theorem dX1_favourite_71 : decode cX1_favourite 71 = .ok (.goto (-65), 3) := by decide +kernel
theorem dX1_favourite_74 : decode cX1_favourite 74 = .ok (.iload_n 3, 1) := by decide +kernel
theorem dX1_favourite_75 : decode cX1_favourite 75 = .ok (.ireturn, 1) := by decide +kernel
theorem dX1_askInTurn_0 : decode cX1_askInTurn 0 = .ok (.iconst 0, 1) := by decide +kernel
theorem dX1_askInTurn_1 : decode cX1_askInTurn 1 = .ok (.istore_n 3, 1) := by decide +kernel
theorem dX1_askInTurn_2 : decode cX1_askInTurn 2 = .ok (.iload_n 3, 1) := by decide +kernel
theorem dX1_askInTurn_3 : decode cX1_askInTurn 3 = .ok (.bipush 10, 2) := by decide +kernel
theorem dX1_askInTurn_5 : decode cX1_askInTurn 5 = .ok (.if_icmp .ge 64, 3) := by decide +kernel
theorem dX1_askInTurn_8 : decode cX1_askInTurn 8 = .ok (.aload_n 0, 1) := by decide +kernel
theorem dX1_askInTurn_9 : decode cX1_askInTurn 9 = .ok (.getfield 15, 3) := by decide +kernel
theorem dX1_askInTurn_12 : decode cX1_askInTurn 12 = .ok (.iload_n 3, 1) := by decide +kernel
theorem dX1_askInTurn_13 : decode cX1_askInTurn 13 = .ok (.bipush (-9), 2) := by decide +kernel
theorem dX1_askInTurn_15 : decode cX1_askInTurn 15 = .ok (.iastore, 1) := by decide +kernel
theorem dX1_askInTurn_16 : decode cX1_askInTurn 16 = .ok (.aload_n 1, 1) := by decide +kernel
theorem dX1_askInTurn_17 : decode cX1_askInTurn 17 = .ok (.iload_n 3, 1) := by decide +kernel
theorem dX1_askInTurn_18 : decode cX1_askInTurn 18 = .ok (.invokevirtual 62, 3) := by decide +kernel
theorem dX1_askInTurn_21 : decode cX1_askInTurn 21 = .ok (.ifCond .eq 15, 3) := by decide +kernel
theorem dX1_askInTurn_24 : decode cX1_askInTurn 24 = .ok (.iload_n 3, 1) := by decide +kernel
theorem dX1_askInTurn_25 : decode cX1_askInTurn 25 = .ok (.invokestatic 66, 3) := by decide +kernel
theorem dX1_askInTurn_28 : decode cX1_askInTurn 28 = .ok (.iload_n 2, 1) := by decide +kernel
theorem dX1_askInTurn_29 : decode cX1_askInTurn 29 = .ok (.if_icmp .ne 7, 3) := by decide +kernel
theorem dX1_askInTurn_32 : decode cX1_askInTurn 32 = .ok (.iconst 1, 1) := by decide +kernel
theorem dX1_askInTurn_33 : decode cX1_askInTurn 33 = .ok (.goto 4, 3) := by decide +kernel
theorem dX1_askInTurn_36 : decode cX1_askInTurn 36 = .ok (.iconst 0, 1) := by decide +kernel
theorem dX1_askInTurn_37 : decode cX1_askInTurn 37 = .ok (.istore 4, 2) := by decide +kernel
theorem dX1_askInTurn_39 : decode cX1_askInTurn 39 = .ok (.aload_n 0, 1) := by decide +kernel
theorem dX1_askInTurn_40 : decode cX1_askInTurn 40 = .ok (.getfield 21, 3) := by decide +kernel
theorem dX1_askInTurn_43 : decode cX1_askInTurn 43 = .ok (.iload_n 3, 1) := by decide +kernel
theorem dX1_askInTurn_44 : decode cX1_askInTurn 44 = .ok (.iload 4, 2) := by decide +kernel
theorem dX1_askInTurn_46 : decode cX1_askInTurn 46 = .ok (.ifCond .eq 15, 3) := by decide +kernel
theorem dX1_askInTurn_49 : decode cX1_askInTurn 49 = .ok (.iconst 1, 1) := by decide +kernel
theorem dX1_askInTurn_50 : decode cX1_askInTurn 50 = .ok (.aload_n 1, 1) := by decide +kernel
theorem dX1_askInTurn_51 : decode cX1_askInTurn 51 = .ok (.iload_n 3, 1) := by decide +kernel
theorem dX1_askInTurn_52 : decode cX1_askInTurn 52 = .ok (.invokevirtual 69, 3) := by decide +kernel
theorem dX1_askInTurn_55 : decode cX1_askInTurn 55 = .ok (.ishl, 1) := by decide +kernel
theorem dX1_askInTurn_56 : decode cX1_askInTurn 56 = .ok (.iconst 1, 1) := by decide +kernel
theorem dX1_askInTurn_57 : decode cX1_askInTurn 57 = .ok (.isub, 1) := by decide +kernel
theorem dX1_askInTurn_58 : decode cX1_askInTurn 58 = .ok (.goto 4, 3) := by decide +kernel
theorem dX1_askInTurn_61 : decode cX1_askInTurn 61 = .ok (.iconst 0, 1) := by decide +kernel
theorem dX1_askInTurn_62 : decode cX1_askInTurn 62 = .ok (.iastore, 1) := by decide +kernel
theorem dX1_askInTurn_63 : decode cX1_askInTurn 63 = .ok (.iinc 3 1, 3) := by decide +kernel
theorem dX1_askInTurn_66 : decode cX1_askInTurn 66 = .ok (.goto (-64), 3) := by decide +kernel
theorem dX1_askInTurn_69 : decode cX1_askInTurn 69 = .ok (.bipush 25, 2) := by decide +kernel
theorem dX1_askInTurn_71 : decode cX1_askInTurn 71 = .ok (.istore_n 3, 1) := by decide +kernel
theorem dX1_askInTurn_72 : decode cX1_askInTurn 72 = .ok (.iconst 0, 1) := by decide +kernel
theorem dX1_askInTurn_73 : decode cX1_askInTurn 73 = .ok (.istore 4, 2) := by decide +kernel
theorem dX1_askInTurn_75 : decode cX1_askInTurn 75 = .ok (.iload 4, 2) := by decide +kernel
theorem dX1_askInTurn_77 : decode cX1_askInTurn 77 = .ok (.iload_n 3, 1) := by decide +kernel
theorem dX1_askInTurn_78 : decode cX1_askInTurn 78 = .ok (.if_icmp .ge 30, 3) := by decide +kernel
theorem dX1_askInTurn_81 : decode cX1_askInTurn 81 = .ok (.aload_n 0, 1) := by decide +kernel
theorem dX1_askInTurn_82 : decode cX1_askInTurn 82 = .ok (.invokevirtual 72, 3) := by decide +kernel
theorem dX1_askInTurn_85 : decode cX1_askInTurn 85 = .ok (.istore 5, 2) := by decide +kernel
theorem dX1_askInTurn_87 : decode cX1_askInTurn 87 = .ok (.iload 5, 2) := by decide +kernel
theorem dX1_askInTurn_89 : decode cX1_askInTurn 89 = .ok (.bipush (-9), 2) := by decide +kernel
theorem dX1_askInTurn_91 : decode cX1_askInTurn 91 = .ok (.if_icmp .ne 4, 3) := by decide +kernel
theorem dX1_askInTurn_94 : decode cX1_askInTurn 94 = .ok (.return_, 1) := by decide +kernel
theorem dX1_askInTurn_95 : decode cX1_askInTurn 95 = .ok (.aload_n 0, 1) := by decide +kernel
theorem dX1_askInTurn_96 : decode cX1_askInTurn 96 = .ok (.aload_n 1, 1) := by decide +kernel
theorem dX1_askInTurn_97 : decode cX1_askInTurn 97 = .ok (.iload 5, 2) := by decide +kernel
theorem dX1_askInTurn_99 : decode cX1_askInTurn 99 = .ok (.invokevirtual 76, 3) := by decide +kernel
theorem dX1_askInTurn_102 : decode cX1_askInTurn 102 = .ok (.iinc 4 1, 3) := by decide +kernel
theorem dX1_askInTurn_105 : decode cX1_askInTurn 105 = .ok (.goto (-30), 3) := by decide +kernel
theorem dX1_askInTurn_108 : decode cX1_askInTurn 108 = .ok (.return_, 1) := by decide +kernel
theorem dX1_firstWhoWillAsk_0 : decode cX1_firstWhoWillAsk 0 = .ok (.iconst 0, 1) := by decide +kernel
theorem dX1_firstWhoWillAsk_1 : decode cX1_firstWhoWillAsk 1 = .ok (.istore_n 1, 1) := by decide +kernel
theorem dX1_firstWhoWillAsk_2 : decode cX1_firstWhoWillAsk 2 = .ok (.iload_n 1, 1) := by decide +kernel
theorem dX1_firstWhoWillAsk_3 : decode cX1_firstWhoWillAsk 3 = .ok (.bipush 10, 2) := by decide +kernel
theorem dX1_firstWhoWillAsk_5 : decode cX1_firstWhoWillAsk 5 = .ok (.if_icmp .ge 31, 3) := by decide +kernel
theorem dX1_firstWhoWillAsk_8 : decode cX1_firstWhoWillAsk 8 = .ok (.aload_n 0, 1) := by decide +kernel
theorem dX1_firstWhoWillAsk_9 : decode cX1_firstWhoWillAsk 9 = .ok (.getfield 15, 3) := by decide +kernel
theorem dX1_firstWhoWillAsk_12 : decode cX1_firstWhoWillAsk 12 = .ok (.iload_n 1, 1) := by decide +kernel
theorem dX1_firstWhoWillAsk_13 : decode cX1_firstWhoWillAsk 13 = .ok (.iaload, 1) := by decide +kernel
theorem dX1_firstWhoWillAsk_14 : decode cX1_firstWhoWillAsk 14 = .ok (.bipush (-9), 2) := by decide +kernel
theorem dX1_firstWhoWillAsk_16 : decode cX1_firstWhoWillAsk 16 = .ok (.if_icmp .ne 14, 3) := by decide +kernel
theorem dX1_firstWhoWillAsk_19 : decode cX1_firstWhoWillAsk 19 = .ok (.aload_n 0, 1) := by decide +kernel
theorem dX1_firstWhoWillAsk_20 : decode cX1_firstWhoWillAsk 20 = .ok (.getfield 21, 3) := by decide +kernel
theorem dX1_firstWhoWillAsk_23 : decode cX1_firstWhoWillAsk 23 = .ok (.iload_n 1, 1) := by decide +kernel
theorem dX1_firstWhoWillAsk_24 : decode cX1_firstWhoWillAsk 24 = .ok (.iaload, 1) := by decide +kernel
theorem dX1_firstWhoWillAsk_25 : decode cX1_firstWhoWillAsk 25 = .ok (.ifCond .eq 5, 3) := by decide +kernel
theorem dX1_firstWhoWillAsk_28 : decode cX1_firstWhoWillAsk 28 = .ok (.iload_n 1, 1) := by decide +kernel
theorem dX1_firstWhoWillAsk_29 : decode cX1_firstWhoWillAsk 29 = .ok (.ireturn, 1) := by decide +kernel
theorem dX1_firstWhoWillAsk_30 : decode cX1_firstWhoWillAsk 30 = .ok (.iinc 1 1, 3) := by decide +kernel
theorem dX1_firstWhoWillAsk_33 : decode cX1_firstWhoWillAsk 33 = .ok (.goto (-31), 3) := by decide +kernel
theorem dX1_firstWhoWillAsk_36 : decode cX1_firstWhoWillAsk 36 = .ok (.bipush (-9), 2) := by decide +kernel
theorem dX1_firstWhoWillAsk_38 : decode cX1_firstWhoWillAsk 38 = .ok (.ireturn, 1) := by decide +kernel
theorem dX1_ask_0 : decode cX1_ask 0 = .ok (.aload_n 1, 1) := by decide +kernel
theorem dX1_ask_1 : decode cX1_ask 1 = .ok (.iload_n 2, 1) := by decide +kernel
theorem dX1_ask_2 : decode cX1_ask 2 = .ok (.aload_n 0, 1) := by decide +kernel
theorem dX1_ask_3 : decode cX1_ask 3 = .ok (.getfield 21, 3) := by decide +kernel
theorem dX1_ask_6 : decode cX1_ask 6 = .ok (.iload_n 2, 1) := by decide +kernel
theorem dX1_ask_7 : decode cX1_ask 7 = .ok (.iaload, 1) := by decide +kernel
theorem dX1_ask_8 : decode cX1_ask 8 = .ok (.invokestatic 55, 3) := by decide +kernel
theorem dX1_ask_11 : decode cX1_ask 11 = .ok (.istore_n 3, 1) := by decide +kernel
theorem dX1_ask_12 : decode cX1_ask 12 = .ok (.iload_n 3, 1) := by decide +kernel
theorem dX1_ask_13 : decode cX1_ask 13 = .ok (.bipush (-9), 2) := by decide +kernel
theorem dX1_ask_15 : decode cX1_ask 15 = .ok (.if_icmp .ne 4, 3) := by decide +kernel
theorem dX1_ask_18 : decode cX1_ask 18 = .ok (.return_, 1) := by decide +kernel
theorem dX1_ask_19 : decode cX1_ask 19 = .ok (.aload_n 0, 1) := by decide +kernel
theorem dX1_ask_20 : decode cX1_ask 20 = .ok (.getfield 21, 3) := by decide +kernel
theorem dX1_ask_23 : decode cX1_ask 23 = .ok (.iload_n 2, 1) := by decide +kernel
theorem dX1_ask_24 : decode cX1_ask 24 = .ok (.dup2, 1) := by decide +kernel
theorem dX1_ask_25 : decode cX1_ask 25 = .ok (.iaload, 1) := by decide +kernel
theorem dX1_ask_26 : decode cX1_ask 26 = .ok (.iload_n 3, 1) := by decide +kernel
theorem dX1_ask_27 : decode cX1_ask 27 = .ok (.invokestatic 37, 3) := by decide +kernel
theorem dX1_ask_30 : decode cX1_ask 30 = .ok (.iconst (-1), 1) := by decide +kernel
theorem dX1_ask_31 : decode cX1_ask 31 = .ok (.ixor, 1) := by decide +kernel
theorem dX1_ask_32 : decode cX1_ask 32 = .ok (.iand, 1) := by decide +kernel
theorem dX1_ask_33 : decode cX1_ask 33 = .ok (.iastore, 1) := by decide +kernel
theorem dX1_ask_34 : decode cX1_ask 34 = .ok (.aload_n 0, 1) := by decide +kernel
theorem dX1_ask_35 : decode cX1_ask 35 = .ok (.getfield 15, 3) := by decide +kernel
theorem dX1_ask_38 : decode cX1_ask 38 = .ok (.iload_n 3, 1) := by decide +kernel
theorem dX1_ask_39 : decode cX1_ask 39 = .ok (.iaload, 1) := by decide +kernel
theorem dX1_ask_40 : decode cX1_ask 40 = .ok (.istore 4, 2) := by decide +kernel
theorem dX1_ask_42 : decode cX1_ask 42 = .ok (.iload 4, 2) := by decide +kernel
theorem dX1_ask_44 : decode cX1_ask 44 = .ok (.bipush (-9), 2) := by decide +kernel
theorem dX1_ask_46 : decode cX1_ask 46 = .ok (.if_icmp .eq 24, 3) := by decide +kernel
theorem dX1_ask_49 : decode cX1_ask 49 = .ok (.aload_n 1, 1) := by decide +kernel
theorem dX1_ask_50 : decode cX1_ask 50 = .ok (.iload_n 3, 1) := by decide +kernel
theorem dX1_ask_51 : decode cX1_ask 51 = .ok (.iload_n 2, 1) := by decide +kernel
theorem dX1_ask_52 : decode cX1_ask 52 = .ok (.iload 4, 2) := by decide +kernel
theorem dX1_ask_54 : decode cX1_ask 54 = .ok (.invokestatic 79, 3) := by decide +kernel
theorem dX1_ask_57 : decode cX1_ask 57 = .ok (.ifCond .ne 4, 3) := by decide +kernel
theorem dX1_ask_60 : decode cX1_ask 60 = .ok (.return_, 1) := by decide +kernel
theorem dX1_ask_61 : decode cX1_ask 61 = .ok (.aload_n 0, 1) := by decide +kernel
theorem dX1_ask_62 : decode cX1_ask 62 = .ok (.getfield 15, 3) := by decide +kernel
theorem dX1_ask_65 : decode cX1_ask 65 = .ok (.iload 4, 2) := by decide +kernel
theorem dX1_ask_67 : decode cX1_ask 67 = .ok (.bipush (-9), 2) := by decide +kernel
theorem dX1_ask_69 : decode cX1_ask 69 = .ok (.iastore, 1) := by decide +kernel
theorem dX1_ask_70 : decode cX1_ask 70 = .ok (.aload_n 0, 1) := by decide +kernel
theorem dX1_ask_71 : decode cX1_ask 71 = .ok (.getfield 15, 3) := by decide +kernel
theorem dX1_ask_74 : decode cX1_ask 74 = .ok (.iload_n 3, 1) := by decide +kernel
theorem dX1_ask_75 : decode cX1_ask 75 = .ok (.iload_n 2, 1) := by decide +kernel
theorem dX1_ask_76 : decode cX1_ask 76 = .ok (.iastore, 1) := by decide +kernel
theorem dX1_ask_77 : decode cX1_ask 77 = .ok (.aload_n 0, 1) := by decide +kernel
theorem dX1_ask_78 : decode cX1_ask 78 = .ok (.getfield 15, 3) := by decide +kernel
theorem dX1_ask_81 : decode cX1_ask 81 = .ok (.iload_n 2, 1) := by decide +kernel
theorem dX1_ask_82 : decode cX1_ask 82 = .ok (.iload_n 3, 1) := by decide +kernel
theorem dX1_ask_83 : decode cX1_ask 83 = .ok (.iastore, 1) := by decide +kernel
theorem dX1_ask_84 : decode cX1_ask 84 = .ok (.return_, 1) := by decide +kernel
theorem dX1_isLikedBefore_0 : decode cX1_isLikedBefore 0 = .ok (.aload_n 0, 1) := by decide +kernel
theorem dX1_isLikedBefore_1 : decode cX1_isLikedBefore 1 = .ok (.iload_n 1, 1) := by decide +kernel
theorem dX1_isLikedBefore_2 : decode cX1_isLikedBefore 2 = .ok (.iload_n 2, 1) := by decide +kernel
theorem dX1_isLikedBefore_3 : decode cX1_isLikedBefore 3 = .ok (.invokevirtual 49, 3) := by decide +kernel
theorem dX1_isLikedBefore_6 : decode cX1_isLikedBefore 6 = .ok (.istore 4, 2) := by decide +kernel
theorem dX1_isLikedBefore_8 : decode cX1_isLikedBefore 8 = .ok (.aload_n 0, 1) := by decide +kernel
theorem dX1_isLikedBefore_9 : decode cX1_isLikedBefore 9 = .ok (.iload_n 1, 1) := by decide +kernel
theorem dX1_isLikedBefore_10 : decode cX1_isLikedBefore 10 = .ok (.iload_n 3, 1) := by decide +kernel
theorem dX1_isLikedBefore_11 : decode cX1_isLikedBefore 11 = .ok (.invokevirtual 49, 3) := by decide +kernel
theorem dX1_isLikedBefore_14 : decode cX1_isLikedBefore 14 = .ok (.istore 5, 2) := by decide +kernel
theorem dX1_isLikedBefore_16 : decode cX1_isLikedBefore 16 = .ok (.iload 4, 2) := by decide +kernel
theorem dX1_isLikedBefore_18 : decode cX1_isLikedBefore 18 = .ok (.iload 5, 2) := by decide +kernel
theorem dX1_isLikedBefore_20 : decode cX1_isLikedBefore 20 = .ok (.if_icmp .gt 15, 3) := by decide +kernel
theorem dX1_isLikedBefore_23 : decode cX1_isLikedBefore 23 = .ok (.iload 4, 2) := by decide +kernel
theorem dX1_isLikedBefore_25 : decode cX1_isLikedBefore 25 = .ok (.iload 5, 2) := by decide +kernel
theorem dX1_isLikedBefore_27 : decode cX1_isLikedBefore 27 = .ok (.if_icmp .ne 12, 3) := by decide +kernel
theorem dX1_isLikedBefore_30 : decode cX1_isLikedBefore 30 = .ok (.iload_n 2, 1) := by decide +kernel
theorem dX1_isLikedBefore_31 : decode cX1_isLikedBefore 31 = .ok (.iload_n 3, 1) := by decide +kernel
theorem dX1_isLikedBefore_32 : decode cX1_isLikedBefore 32 = .ok (.if_icmp .ge 7, 3) := by decide +kernel
theorem dX1_isLikedBefore_35 : decode cX1_isLikedBefore 35 = .ok (.iconst 1, 1) := by decide +kernel
theorem dX1_isLikedBefore_36 : decode cX1_isLikedBefore 36 = .ok (.goto 4, 3) := by decide +kernel
theorem dX1_isLikedBefore_39 : decode cX1_isLikedBefore 39 = .ok (.iconst 0, 1) := by decide +kernel
theorem dX1_isLikedBefore_40 : decode cX1_isLikedBefore 40 = .ok (.ireturn, 1) := by decide +kernel
theorem dX2_init_0 : decode cX2_init 0 = .ok (.aload_n 0, 1) := by decide +kernel
theorem dX2_init_1 : decode cX2_init 1 = .ok (.invokespecial 3, 3) := by decide +kernel
theorem dX2_init_4 : decode cX2_init 4 = .ok (.aload_n 0, 1) := by decide +kernel
theorem dX2_init_5 : decode cX2_init 5 = .ok (.bipush 10, 2) := by decide +kernel
theorem dX2_init_7 : decode cX2_init 7 = .ok (.iconst 5, 1) := by decide +kernel
theorem dX2_init_8 : decode cX2_init 8 = .ok (.multianewarray 9 2, 4) := by decide +kernel
theorem dX2_init_12 : decode cX2_init 12 = .ok (.putfield 11, 3) := by decide +kernel
theorem dX2_init_15 : decode cX2_init 15 = .ok (.aload_n 0, 1) := by decide +kernel
theorem dX2_init_16 : decode cX2_init 16 = .ok (.bipush 10, 2) := by decide +kernel
theorem dX2_init_18 : decode cX2_init 18 = .ok (.iconst 5, 1) := by decide +kernel
theorem dX2_init_19 : decode cX2_init 19 = .ok (.multianewarray 9 2, 4) := by decide +kernel
theorem dX2_init_23 : decode cX2_init 23 = .ok (.putfield 16, 3) := by decide +kernel
theorem dX2_init_26 : decode cX2_init 26 = .ok (.aload_n 0, 1) := by decide +kernel
theorem dX2_init_27 : decode cX2_init 27 = .ok (.bipush 10, 2) := by decide +kernel
theorem dX2_init_29 : decode cX2_init 29 = .ok (.newarray .int, 2) := by decide +kernel
theorem dX2_init_31 : decode cX2_init 31 = .ok (.putfield 19, 3) := by decide +kernel
theorem dX2_init_34 : decode cX2_init 34 = .ok (.aload_n 0, 1) := by decide +kernel
theorem dX2_init_35 : decode cX2_init 35 = .ok (.iconst 0, 1) := by decide +kernel
theorem dX2_init_36 : decode cX2_init 36 = .ok (.putfield 23, 3) := by decide +kernel
theorem dX2_init_39 : decode cX2_init 39 = .ok (.aload_n 0, 1) := by decide +kernel
theorem dX2_init_40 : decode cX2_init 40 = .ok (.iconst 0, 1) := by decide +kernel
theorem dX2_init_41 : decode cX2_init 41 = .ok (.putfield 27, 3) := by decide +kernel
theorem dX2_init_44 : decode cX2_init 44 = .ok (.return_, 1) := by decide +kernel
theorem dX2_hold_0 : decode cX2_hold 0 = .ok (.aload_n 0, 1) := by decide +kernel
theorem dX2_hold_1 : decode cX2_hold 1 = .ok (.aload_n 1, 1) := by decide +kernel
theorem dX2_hold_2 : decode cX2_hold 2 = .ok (.invokevirtual 30, 3) := by decide +kernel
theorem dX2_hold_5 : decode cX2_hold 5 = .ok (.putfield 27, 3) := by decide +kernel
theorem dX2_hold_8 : decode cX2_hold 8 = .ok (.aload_n 0, 1) := by decide +kernel
theorem dX2_hold_9 : decode cX2_hold 9 = .ok (.iconst 0, 1) := by decide +kernel
theorem dX2_hold_10 : decode cX2_hold 10 = .ok (.putfield 23, 3) := by decide +kernel
theorem dX2_hold_13 : decode cX2_hold 13 = .ok (.iconst 0, 1) := by decide +kernel
theorem dX2_hold_14 : decode cX2_hold 14 = .ok (.istore_n 2, 1) := by decide +kernel
theorem dX2_hold_15 : decode cX2_hold 15 = .ok (.iload_n 2, 1) := by decide +kernel
theorem dX2_hold_16 : decode cX2_hold 16 = .ok (.bipush 10, 2) := by decide +kernel
theorem dX2_hold_18 : decode cX2_hold 18 = .ok (.if_icmp .ge 112, 3) := by decide +kernel
theorem dX2_hold_21 : decode cX2_hold 21 = .ok (.aload_n 1, 1) := by decide +kernel
theorem dX2_hold_22 : decode cX2_hold 22 = .ok (.iload_n 2, 1) := by decide +kernel
theorem dX2_hold_23 : decode cX2_hold 23 = .ok (.invokevirtual 36, 3) := by decide +kernel
theorem dX2_hold_26 : decode cX2_hold 26 = .ok (.istore_n 3, 1) := by decide +kernel
theorem dX2_hold_27 : decode cX2_hold 27 = .ok (.iconst 0, 1) := by decide +kernel
theorem dX2_hold_28 : decode cX2_hold 28 = .ok (.istore 4, 2) := by decide +kernel
theorem dX2_hold_30 : decode cX2_hold 30 = .ok (.iload 4, 2) := by decide +kernel
theorem dX2_hold_32 : decode cX2_hold 32 = .ok (.iconst 5, 1) := by decide +kernel
theorem dX2_hold_33 : decode cX2_hold 33 = .ok (.if_icmp .ge 35, 3) := by decide +kernel
theorem dX2_hold_36 : decode cX2_hold 36 = .ok (.aload_n 0, 1) := by decide +kernel
theorem dX2_hold_37 : decode cX2_hold 37 = .ok (.getfield 11, 3) := by decide +kernel
theorem dX2_hold_40 : decode cX2_hold 40 = .ok (.iload_n 2, 1) := by decide +kernel
theorem dX2_hold_41 : decode cX2_hold 41 = .ok (.aaload, 1) := by decide +kernel
theorem dX2_hold_42 : decode cX2_hold 42 = .ok (.iload 4, 2) := by decide +kernel
theorem dX2_hold_44 : decode cX2_hold 44 = .ok (.iload_n 3, 1) := by decide +kernel
theorem dX2_hold_45 : decode cX2_hold 45 = .ok (.ifCond .eq 14, 3) := by decide +kernel
theorem dX2_hold_48 : decode cX2_hold 48 = .ok (.aload_n 0, 1) := by decide +kernel
theorem dX2_hold_49 : decode cX2_hold 49 = .ok (.aload_n 1, 1) := by decide +kernel
theorem dX2_hold_50 : decode cX2_hold 50 = .ok (.iload_n 2, 1) := by decide +kernel
theorem dX2_hold_51 : decode cX2_hold 51 = .ok (.iload 4, 2) := by decide +kernel
theorem dX2_hold_53 : decode cX2_hold 53 = .ok (.invokevirtual 40, 3) := by decide +kernel
theorem dX2_hold_56 : decode cX2_hold 56 = .ok (.goto 5, 3) := by decide +kernel
theorem dX2_hold_59 : decode cX2_hold 59 = .ok (.bipush (-9), 2) := by decide +kernel
theorem dX2_hold_61 : decode cX2_hold 61 = .ok (.iastore, 1) := by decide +kernel
theorem dX2_hold_62 : decode cX2_hold 62 = .ok (.iinc 4 1, 3) := by decide +kernel
theorem dX2_hold_65 : decode cX2_hold 65 = .ok (.goto (-35), 3) := by decide +kernel
theorem dX2_hold_68 : decode cX2_hold 68 = .ok (.aload_n 0, 1) := by decide +kernel
theorem dX2_hold_69 : decode cX2_hold 69 = .ok (.getfield 19, 3) := by decide +kernel
theorem dX2_hold_72 : decode cX2_hold 72 = .ok (.iload_n 2, 1) := by decide +kernel
theorem dX2_hold_73 : decode cX2_hold 73 = .ok (.iconst 0, 1) := by decide +kernel
theorem dX2_hold_74 : decode cX2_hold 74 = .ok (.iastore, 1) := by decide +kernel
theorem dX2_hold_75 : decode cX2_hold 75 = .ok (.iconst 0, 1) := by decide +kernel
theorem dX2_hold_76 : decode cX2_hold 76 = .ok (.istore 4, 2) := by decide +kernel
theorem dX2_hold_78 : decode cX2_hold 78 = .ok (.iload 4, 2) := by decide +kernel
theorem dX2_hold_80 : decode cX2_hold 80 = .ok (.iconst 5, 1) := by decide +kernel
theorem dX2_hold_81 : decode cX2_hold 81 = .ok (.if_icmp .ge 43, 3) := by decide +kernel
theorem dX2_hold_84 : decode cX2_hold 84 = .ok (.aload_n 0, 1) := by decide +kernel
theorem dX2_hold_85 : decode cX2_hold 85 = .ok (.getfield 16, 3) := by decide +kernel
theorem dX2_hold_88 : decode cX2_hold 88 = .ok (.iload_n 2, 1) := by decide +kernel
theorem dX2_hold_89 : decode cX2_hold 89 = .ok (.aaload, 1) := by decide +kernel
theorem dX2_hold_90 : decode cX2_hold 90 = .ok (.iload 4, 2) := by decide +kernel
theorem dX2_hold_92 : decode cX2_hold 92 = .ok (.sipush 999, 3) := by decide +kernel
theorem dX2_hold_95 : decode cX2_hold 95 = .ok (.iastore, 1) := by decide +kernel
theorem dX2_hold_96 : decode cX2_hold 96 = .ok (.aload_n 0, 1) := by decide +kernel
theorem dX2_hold_97 : decode cX2_hold 97 = .ok (.getfield 11, 3) := by decide +kernel
theorem dX2_hold_100 : decode cX2_hold 100 = .ok (.iload_n 2, 1) := by decide +kernel
theorem dX2_hold_101 : decode cX2_hold 101 = .ok (.aaload, 1) := by decide +kernel
theorem dX2_hold_102 : decode cX2_hold 102 = .ok (.iload 4, 2) := by decide +kernel
theorem dX2_hold_104 : decode cX2_hold 104 = .ok (.iaload, 1) := by decide +kernel
theorem dX2_hold_105 : decode cX2_hold 105 = .ok (.bipush (-9), 2) := by decide +kernel
theorem dX2_hold_107 : decode cX2_hold 107 = .ok (.if_icmp .eq 11, 3) := by decide +kernel
theorem dX2_hold_110 : decode cX2_hold 110 = .ok (.aload_n 0, 1) := by decide +kernel
theorem dX2_hold_111 : decode cX2_hold 111 = .ok (.aload_n 1, 1) := by decide +kernel
theorem dX2_hold_112 : decode cX2_hold 112 = .ok (.iload_n 2, 1) := by decide +kernel
theorem dX2_hold_113 : decode cX2_hold 113 = .ok (.iload 4, 2) := by decide +kernel
theorem dX2_hold_115 : decode cX2_hold 115 = .ok (.invokevirtual 44, 3) := by decide +kernel
theorem dX2_hold_118 : decode cX2_hold 118 = .ok (.iinc 4 1, 3) := by decide +kernel
theorem dX2_hold_121 : decode cX2_hold 121 = .ok (.goto (-43), 3) := by decide +kernel
theorem dX2_hold_124 : decode cX2_hold 124 = .ok (.iinc 2 1, 3) := by decide +kernel
theorem dX2_hold_127 : decode cX2_hold 127 = .ok (.goto (-112), 3) := by decide +kernel
theorem dX2_hold_130 : decode cX2_hold 130 = .ok (.return_, 1) := by decide +kernel
theorem dX2_partner_0 : decode cX2_partner 0 = .ok (.aload_n 0, 1) := by decide +kernel
theorem dX2_partner_1 : decode cX2_partner 1 = .ok (.getfield 27, 3) := by decide +kernel
theorem dX2_partner_4 : decode cX2_partner 4 = .ok (.iconst 1, 1) := by decide +kernel
theorem dX2_partner_5 : decode cX2_partner 5 = .ok (.if_icmp .lt 11, 3) := by decide +kernel
theorem dX2_partner_8 : decode cX2_partner 8 = .ok (.iload_n 3, 1) := by decide +kernel
theorem dX2_partner_9 : decode cX2_partner 9 = .ok (.aload_n 0, 1) := by decide +kernel
theorem dX2_partner_10 : decode cX2_partner 10 = .ok (.getfield 27, 3) := by decide +kernel
theorem dX2_partner_13 : decode cX2_partner 13 = .ok (.if_icmp .lt 6, 3) := by decide +kernel
theorem dX2_partner_16 : decode cX2_partner 16 = .ok (.bipush (-9), 2) := by decide +kernel
theorem dX2_partner_18 : decode cX2_partner 18 = .ok (.ireturn, 1) := by decide +kernel
theorem dX2_partner_19 : decode cX2_partner 19 = .ok (.aload_n 1, 1) := by decide +kernel
theorem dX2_partner_20 : decode cX2_partner 20 = .ok (.getfield 48, 3) := by decide +kernel
theorem dX2_partner_23 : decode cX2_partner 23 = .ok (.iload_n 3, 1) := by decide +kernel
theorem dX2_partner_24 : decode cX2_partner 24 = .ok (.aload_n 1, 1) := by decide +kernel
theorem dX2_partner_25 : decode cX2_partner 25 = .ok (.getfield 51, 3) := by decide +kernel
theorem dX2_partner_28 : decode cX2_partner 28 = .ok (.imul, 1) := by decide +kernel
theorem dX2_partner_29 : decode cX2_partner 29 = .ok (.iadd, 1) := by decide +kernel
theorem dX2_partner_30 : decode cX2_partner 30 = .ok (.istore 4, 2) := by decide +kernel
theorem dX2_partner_32 : decode cX2_partner 32 = .ok (.iload_n 2, 1) := by decide +kernel
theorem dX2_partner_33 : decode cX2_partner 33 = .ok (.invokestatic 54, 3) := by decide +kernel
theorem dX2_partner_36 : decode cX2_partner 36 = .ok (.ifCond .ne 10, 3) := by decide +kernel
theorem dX2_partner_39 : decode cX2_partner 39 = .ok (.iload_n 2, 1) := by decide +kernel
theorem dX2_partner_40 : decode cX2_partner 40 = .ok (.iload 4, 2) := by decide +kernel
theorem dX2_partner_42 : decode cX2_partner 42 = .ok (.iadd, 1) := by decide +kernel
theorem dX2_partner_43 : decode cX2_partner 43 = .ok (.goto 9, 3) := by decide +kernel
theorem dX2_partner_46 : decode cX2_partner 46 = .ok (.iload_n 2, 1) := by decide +kernel
theorem dX2_partner_47 : decode cX2_partner 47 = .ok (.iconst 5, 1) := by decide +kernel
theorem dX2_partner_48 : decode cX2_partner 48 = .ok (.isub, 1) := by decide +kernel
theorem dX2_partner_49 : decode cX2_partner 49 = .ok (.iload 4, 2) := by decide +kernel
theorem dX2_partner_51 : decode cX2_partner 51 = .ok (.isub, 1) := by decide +kernel
theorem dX2_partner_52 : decode cX2_partner 52 = .ok (.istore 5, 2) := by decide +kernel
theorem dX2_partner_54 : decode cX2_partner 54 = .ok (.iload_n 2, 1) := by decide +kernel
theorem dX2_partner_55 : decode cX2_partner 55 = .ok (.invokestatic 58, 3) := by decide +kernel
theorem dX2_partner_58 : decode cX2_partner 58 = .ok (.iload 5, 2) := by decide +kernel
theorem dX2_partner_60 : decode cX2_partner 60 = .ok (.aload_n 0, 1) := by decide +kernel
theorem dX2_partner_61 : decode cX2_partner 61 = .ok (.getfield 27, 3) := by decide +kernel
theorem dX2_partner_64 : decode cX2_partner 64 = .ok (.invokestatic 61, 3) := by decide +kernel
theorem dX2_partner_67 : decode cX2_partner 67 = .ok (.iadd, 1) := by decide +kernel
theorem dX2_partner_68 : decode cX2_partner 68 = .ok (.istore 6, 2) := by decide +kernel
theorem dX2_partner_70 : decode cX2_partner 70 = .ok (.aload_n 1, 1) := by decide +kernel
theorem dX2_partner_71 : decode cX2_partner 71 = .ok (.iload 6, 2) := by decide +kernel
theorem dX2_partner_73 : decode cX2_partner 73 = .ok (.invokevirtual 36, 3) := by decide +kernel
theorem dX2_partner_76 : decode cX2_partner 76 = .ok (.ifCond .eq 8, 3) := by decide +kernel
theorem dX2_partner_79 : decode cX2_partner 79 = .ok (.iload 6, 2) := by decide +kernel
theorem dX2_partner_81 : decode cX2_partner 81 = .ok (.goto 5, 3) := by decide +kernel
theorem dX2_partner_84 : decode cX2_partner 84 = .ok (.bipush (-9), 2) := by decide +kernel
theorem dX2_partner_86 : decode cX2_partner 86 = .ok (.ireturn, 1) := by decide +kernel
theorem dX2_feelAndSay_0 : decode cX2_feelAndSay 0 = .ok (.aload_n 0, 1) := by decide +kernel
theorem dX2_feelAndSay_1 : decode cX2_feelAndSay 1 = .ok (.getfield 11, 3) := by decide +kernel
theorem dX2_feelAndSay_4 : decode cX2_feelAndSay 4 = .ok (.iload_n 2, 1) := by decide +kernel
theorem dX2_feelAndSay_5 : decode cX2_feelAndSay 5 = .ok (.aaload, 1) := by decide +kernel
theorem dX2_feelAndSay_6 : decode cX2_feelAndSay 6 = .ok (.iload_n 3, 1) := by decide +kernel
theorem dX2_feelAndSay_7 : decode cX2_feelAndSay 7 = .ok (.iaload, 1) := by decide +kernel
theorem dX2_feelAndSay_8 : decode cX2_feelAndSay 8 = .ok (.istore 4, 2) := by decide +kernel
theorem dX2_feelAndSay_10 : decode cX2_feelAndSay 10 = .ok (.aload_n 0, 1) := by decide +kernel
theorem dX2_feelAndSay_11 : decode cX2_feelAndSay 11 = .ok (.aload_n 1, 1) := by decide +kernel
theorem dX2_feelAndSay_12 : decode cX2_feelAndSay 12 = .ok (.iload_n 2, 1) := by decide +kernel
theorem dX2_feelAndSay_13 : decode cX2_feelAndSay 13 = .ok (.iload 4, 2) := by decide +kernel
theorem dX2_feelAndSay_15 : decode cX2_feelAndSay 15 = .ok (.iload_n 3, 1) := by decide +kernel
theorem dX2_feelAndSay_16 : decode cX2_feelAndSay 16 = .ok (.invokevirtual 67, 3) := by decide +kernel
theorem dX2_feelAndSay_19 : decode cX2_feelAndSay 19 = .ok (.istore 5, 2) := by decide +kernel
theorem dX2_feelAndSay_21 : decode cX2_feelAndSay 21 = .ok (.aload_n 0, 1) := by decide +kernel
theorem dX2_feelAndSay_22 : decode cX2_feelAndSay 22 = .ok (.getfield 16, 3) := by decide +kernel
theorem dX2_feelAndSay_25 : decode cX2_feelAndSay 25 = .ok (.iload_n 2, 1) := by decide +kernel
theorem dX2_feelAndSay_26 : decode cX2_feelAndSay 26 = .ok (.aaload, 1) := by decide +kernel
theorem dX2_feelAndSay_27 : decode cX2_feelAndSay 27 = .ok (.iload_n 3, 1) := by decide +kernel
theorem dX2_feelAndSay_28 : decode cX2_feelAndSay 28 = .ok (.iload 5, 2) := by decide +kernel
theorem dX2_feelAndSay_30 : decode cX2_feelAndSay 30 = .ok (.iastore, 1) := by decide +kernel
theorem dX2_feelAndSay_31 : decode cX2_feelAndSay 31 = .ok (.iload 5, 2) := by decide +kernel
theorem dX2_feelAndSay_33 : decode cX2_feelAndSay 33 = .ok (.aload_n 1, 1) := by decide +kernel
theorem dX2_feelAndSay_34 : decode cX2_feelAndSay 34 = .ok (.getfield 71, 3) := by decide +kernel
theorem dX2_feelAndSay_37 : decode cX2_feelAndSay 37 = .ok (.iload_n 2, 1) := by decide +kernel
theorem dX2_feelAndSay_38 : decode cX2_feelAndSay 38 = .ok (.iaload, 1) := by decide +kernel
theorem dX2_feelAndSay_39 : decode cX2_feelAndSay 39 = .ok (.if_icmp .lt 17, 3) := by decide +kernel
theorem dX2_feelAndSay_42 : decode cX2_feelAndSay 42 = .ok (.aload_n 0, 1) := by decide +kernel
theorem dX2_feelAndSay_43 : decode cX2_feelAndSay 43 = .ok (.getfield 19, 3) := by decide +kernel
theorem dX2_feelAndSay_46 : decode cX2_feelAndSay 46 = .ok (.iload_n 2, 1) := by decide +kernel
theorem dX2_feelAndSay_47 : decode cX2_feelAndSay 47 = .ok (.dup2, 1) := by decide +kernel
theorem dX2_feelAndSay_48 : decode cX2_feelAndSay 48 = .ok (.iaload, 1) := by decide +kernel
theorem dX2_feelAndSay_49 : decode cX2_feelAndSay 49 = .ok (.iload 4, 2) := by decide +kernel
theorem dX2_feelAndSay_51 : decode cX2_feelAndSay 51 = .ok (.invokestatic 74, 3) := by decide +kernel
theorem dX2_feelAndSay_54 : decode cX2_feelAndSay 54 = .ok (.ior, 1) := by decide +kernel
theorem dX2_feelAndSay_55 : decode cX2_feelAndSay 55 = .ok (.iastore, 1) := by decide +kernel
theorem dX2_feelAndSay_56 : decode cX2_feelAndSay 56 = .ok (.iload 5, 2) := by decide +kernel
theorem dX2_feelAndSay_58 : decode cX2_feelAndSay 58 = .ok (.aload_n 1, 1) := by decide +kernel
theorem dX2_feelAndSay_59 : decode cX2_feelAndSay 59 = .ok (.iload_n 2, 1) := by decide +kernel
theorem dX2_feelAndSay_60 : decode cX2_feelAndSay 60 = .ok (.iload 4, 2) := by decide +kernel
theorem dX2_feelAndSay_62 : decode cX2_feelAndSay 62 = .ok (.invokevirtual 77, 3) := by decide +kernel
theorem dX2_feelAndSay_65 : decode cX2_feelAndSay 65 = .ok (.if_icmp .eq 13, 3) := by decide +kernel
theorem dX2_feelAndSay_68 : decode cX2_feelAndSay 68 = .ok (.aload_n 0, 1) := by decide +kernel
theorem dX2_feelAndSay_69 : decode cX2_feelAndSay 69 = .ok (.dup, 1) := by decide +kernel
theorem dX2_feelAndSay_70 : decode cX2_feelAndSay 70 = .ok (.getfield 23, 3) := by decide +kernel
theorem dX2_feelAndSay_73 : decode cX2_feelAndSay 73 = .ok (.iconst 1, 1) := by decide +kernel
theorem dX2_feelAndSay_74 : decode cX2_feelAndSay 74 = .ok (.iadd, 1) := by decide +kernel
theorem dX2_feelAndSay_75 : decode cX2_feelAndSay 75 = .ok (.putfield 23, 3) := by decide +kernel
theorem dX2_feelAndSay_78 : decode cX2_feelAndSay 78 = .ok (.return_, 1) := by decide +kernel
theorem dX2_feeling_0 : decode cX2_feeling 0 = .ok (.aload_n 1, 1) := by decide +kernel
theorem dX2_feeling_1 : decode cX2_feeling 1 = .ok (.iload_n 2, 1) := by decide +kernel
theorem dX2_feeling_2 : decode cX2_feeling 2 = .ok (.iload_n 3, 1) := by decide +kernel
theorem dX2_feeling_3 : decode cX2_feeling 3 = .ok (.invokevirtual 77, 3) := by decide +kernel
theorem dX2_feeling_6 : decode cX2_feeling 6 = .ok (.istore 5, 2) := by decide +kernel
theorem dX2_feeling_8 : decode cX2_feeling 8 = .ok (.aload_n 1, 1) := by decide +kernel
theorem dX2_feeling_9 : decode cX2_feeling 9 = .ok (.getfield 80, 3) := by decide +kernel
theorem dX2_feeling_12 : decode cX2_feeling 12 = .ok (.iload_n 2, 1) := by decide +kernel
theorem dX2_feeling_13 : decode cX2_feeling 13 = .ok (.iaload, 1) := by decide +kernel
theorem dX2_feeling_14 : decode cX2_feeling 14 = .ok (.tableswitch 126 1 5 #[34, 49, 57, 80, 102], 34) := by decide +kernel
theorem dX2_feeling_48 : decode cX2_feeling 48 = .ok (.iload 4, 2) := by decide +kernel
theorem dX2_feeling_50 : decode cX2_feeling 50 = .ok (.ifCond .ne 10, 3) := by decide +kernel
theorem dX2_feeling_53 : decode cX2_feeling 53 = .ok (.iload 5, 2) := by decide +kernel
theorem dX2_feeling_55 : decode cX2_feeling 55 = .ok (.iconst 2, 1) := by decide +kernel
theorem dX2_feeling_56 : decode cX2_feeling 56 = .ok (.isub, 1) := by decide +kernel
theorem dX2_feeling_57 : decode cX2_feeling 57 = .ok (.goto 5, 3) := by decide +kernel
theorem dX2_feeling_60 : decode cX2_feeling 60 = .ok (.iload 5, 2) := by decide +kernel
theorem dX2_feeling_62 : decode cX2_feeling 62 = .ok (.ireturn, 1) := by decide +kernel
theorem dX2_feeling_63 : decode cX2_feeling 63 = .ok (.iload 5, 2) := by decide +kernel
theorem dX2_feeling_65 : decode cX2_feeling 65 = .ok (.iload 4, 2) := by decide +kernel
theorem dX2_feeling_67 : decode cX2_feeling 67 = .ok (.iconst 2, 1) := by decide +kernel
theorem dX2_feeling_68 : decode cX2_feeling 68 = .ok (.idiv, 1) := by decide +kernel
theorem dX2_feeling_69 : decode cX2_feeling 69 = .ok (.isub, 1) := by decide +kernel
theorem dX2_feeling_70 : decode cX2_feeling 70 = .ok (.ireturn, 1) := by decide +kernel
theorem dX2_feeling_71 : decode cX2_feeling 71 = .ok (.aload_n 0, 1) := by decide +kernel
theorem dX2_feeling_72 : decode cX2_feeling 72 = .ok (.aload_n 1, 1) := by decide +kernel
theorem dX2_feeling_73 : decode cX2_feeling 73 = .ok (.iload_n 2, 1) := by decide +kernel
theorem dX2_feeling_74 : decode cX2_feeling 74 = .ok (.iload 5, 2) := by decide +kernel
theorem dX2_feeling_76 : decode cX2_feeling 76 = .ok (.iload 4, 2) := by decide +kernel
theorem dX2_feeling_78 : decode cX2_feeling 78 = .ok (.invokevirtual 83, 3) := by decide +kernel
theorem dX2_feeling_81 : decode cX2_feeling 81 = .ok (.ifCond .eq 10, 3) := by decide +kernel
theorem dX2_feeling_84 : decode cX2_feeling 84 = .ok (.iload 5, 2) := by decide +kernel
theorem dX2_feeling_86 : decode cX2_feeling 86 = .ok (.iconst 3, 1) := by decide +kernel
theorem dX2_feeling_87 : decode cX2_feeling 87 = .ok (.isub, 1) := by decide +kernel
theorem dX2_feeling_88 : decode cX2_feeling 88 = .ok (.goto 5, 3) := by decide +kernel
theorem dX2_feeling_91 : decode cX2_feeling 91 = .ok (.iload 5, 2) := by decide +kernel
theorem dX2_feeling_93 : decode cX2_feeling 93 = .ok (.ireturn, 1) := by decide +kernel
theorem dX2_feeling_94 : decode cX2_feeling 94 = .ok (.aload_n 1, 1) := by decide +kernel
theorem dX2_feeling_95 : decode cX2_feeling 95 = .ok (.iload_n 3, 1) := by decide +kernel
theorem dX2_feeling_96 : decode cX2_feeling 96 = .ok (.iload_n 2, 1) := by decide +kernel
theorem dX2_feeling_97 : decode cX2_feeling 97 = .ok (.invokevirtual 77, 3) := by decide +kernel
theorem dX2_feeling_100 : decode cX2_feeling 100 = .ok (.iconst 5, 1) := by decide +kernel
theorem dX2_feeling_101 : decode cX2_feeling 101 = .ok (.if_icmp .lt 10, 3) := by decide +kernel
theorem dX2_feeling_104 : decode cX2_feeling 104 = .ok (.iload 5, 2) := by decide +kernel
theorem dX2_feeling_106 : decode cX2_feeling 106 = .ok (.iconst 1, 1) := by decide +kernel
theorem dX2_feeling_107 : decode cX2_feeling 107 = .ok (.iadd, 1) := by decide +kernel
theorem dX2_feeling_108 : decode cX2_feeling 108 = .ok (.goto 7, 3) := by decide +kernel
theorem dX2_feeling_111 : decode cX2_feeling 111 = .ok (.iload 5, 2) := by decide +kernel
theorem dX2_feeling_113 : decode cX2_feeling 113 = .ok (.iconst 1, 1) := by decide +kernel
theorem dX2_feeling_114 : decode cX2_feeling 114 = .ok (.isub, 1) := by decide +kernel
theorem dX2_feeling_115 : decode cX2_feeling 115 = .ok (.ireturn, 1) := by decide +kernel
theorem dX2_feeling_116 : decode cX2_feeling 116 = .ok (.iload 5, 2) := by decide +kernel
theorem dX2_feeling_118 : decode cX2_feeling 118 = .ok (.iload 4, 2) := by decide +kernel
theorem dX2_feeling_120 : decode cX2_feeling 120 = .ok (.iconst 2, 1) := by decide +kernel
theorem dX2_feeling_121 : decode cX2_feeling 121 = .ok (.idiv, 1) := by decide +kernel
theorem dX2_feeling_122 : decode cX2_feeling 122 = .ok (.isub, 1) := by decide +kernel
theorem dX2_feeling_123 : decode cX2_feeling 123 = .ok (.aload_n 0, 1) := by decide +kernel
theorem dX2_feeling_124 : decode cX2_feeling 124 = .ok (.iload_n 2, 1) := by decide +kernel
theorem dX2_feeling_125 : decode cX2_feeling 125 = .ok (.iload 4, 2) := by decide +kernel
theorem dX2_feeling_127 : decode cX2_feeling 127 = .ok (.invokevirtual 87, 3) := by decide +kernel
theorem dX2_feeling_130 : decode cX2_feeling 130 = .ok (.ifCond .eq 7, 3) := by decide +kernel
theorem dX2_feeling_133 : decode cX2_feeling 133 = .ok (.iconst 1, 1) := by decide +kernel
theorem dX2_feeling_134 : decode cX2_feeling 134 = .ok (.goto 4, 3) := by decide +kernel
theorem dX2_feeling_137 : decode cX2_feeling 137 = .ok (.iconst 0, 1) := by decide +kernel
theorem dX2_feeling_138 : decode cX2_feeling 138 = .ok (.isub, 1) := by decide +kernel
theorem dX2_feeling_139 : decode cX2_feeling 139 = .ok (.ireturn, 1) := by decide +kernel
theorem dX2_feeling_140 : decode cX2_feeling 140 = .ok (.iload 5, 2) := by decide +kernel
theorem dX2_feeling_142 : decode cX2_feeling 142 = .ok (.ireturn, 1) := by decide +kernel
theorem dX2_isInShade_0 : decode cX2_isInShade 0 = .ok (.iload 4, 2) := by decide +kernel
theorem dX2_isInShade_2 : decode cX2_isInShade 2 = .ok (.iconst 1, 1) := by decide +kernel
theorem dX2_isInShade_3 : decode cX2_isInShade 3 = .ok (.if_icmp .lt 13, 3) := by decide +kernel
theorem dX2_isInShade_6 : decode cX2_isInShade 6 = .ok (.aload_n 0, 1) := by decide +kernel
theorem dX2_isInShade_7 : decode cX2_isInShade 7 = .ok (.iload_n 2, 1) := by decide +kernel
theorem dX2_isInShade_8 : decode cX2_isInShade 8 = .ok (.iload 4, 2) := by decide +kernel
theorem dX2_isInShade_10 : decode cX2_isInShade 10 = .ok (.invokevirtual 87, 3) := by decide +kernel
theorem dX2_isInShade_13 : decode cX2_isInShade 13 = .ok (.ifCond .eq 5, 3) := by decide +kernel
theorem dX2_isInShade_16 : decode cX2_isInShade 16 = .ok (.iconst 0, 1) := by decide +kernel
theorem dX2_isInShade_17 : decode cX2_isInShade 17 = .ok (.ireturn, 1) := by decide +kernel
theorem dX2_isInShade_18 : decode cX2_isInShade 18 = .ok (.aload_n 1, 1) := by decide +kernel
theorem dX2_isInShade_19 : decode cX2_isInShade 19 = .ok (.iload_n 2, 1) := by decide +kernel
theorem dX2_isInShade_20 : decode cX2_isInShade 20 = .ok (.aload_n 0, 1) := by decide +kernel
theorem dX2_isInShade_21 : decode cX2_isInShade 21 = .ok (.getfield 11, 3) := by decide +kernel
theorem dX2_isInShade_24 : decode cX2_isInShade 24 = .ok (.iload_n 2, 1) := by decide +kernel
theorem dX2_isInShade_25 : decode cX2_isInShade 25 = .ok (.aaload, 1) := by decide +kernel
theorem dX2_isInShade_26 : decode cX2_isInShade 26 = .ok (.iload 4, 2) := by decide +kernel
theorem dX2_isInShade_28 : decode cX2_isInShade 28 = .ok (.iconst 1, 1) := by decide +kernel
theorem dX2_isInShade_29 : decode cX2_isInShade 29 = .ok (.isub, 1) := by decide +kernel
theorem dX2_isInShade_30 : decode cX2_isInShade 30 = .ok (.iaload, 1) := by decide +kernel
theorem dX2_isInShade_31 : decode cX2_isInShade 31 = .ok (.invokevirtual 77, 3) := by decide +kernel
theorem dX2_isInShade_34 : decode cX2_isInShade 34 = .ok (.iload_n 3, 1) := by decide +kernel
theorem dX2_isInShade_35 : decode cX2_isInShade 35 = .ok (.if_icmp .le 7, 3) := by decide +kernel
theorem dX2_isInShade_38 : decode cX2_isInShade 38 = .ok (.iconst 1, 1) := by decide +kernel
theorem dX2_isInShade_39 : decode cX2_isInShade 39 = .ok (.goto 4, 3) := by decide +kernel
theorem dX2_isInShade_42 : decode cX2_isInShade 42 = .ok (.iconst 0, 1) := by decide +kernel
theorem dX2_isInShade_43 : decode cX2_isInShade 43 = .ok (.ireturn, 1) := by decide +kernel
theorem dX2_wasAlone_0 : decode cX2_wasAlone 0 = .ok (.iload_n 2, 1) := by decide +kernel
theorem dX2_wasAlone_1 : decode cX2_wasAlone 1 = .ok (.ifCond .le 22, 3) := by decide +kernel
theorem dX2_wasAlone_4 : decode cX2_wasAlone 4 = .ok (.aload_n 0, 1) := by decide +kernel
theorem dX2_wasAlone_5 : decode cX2_wasAlone 5 = .ok (.getfield 11, 3) := by decide +kernel
theorem dX2_wasAlone_8 : decode cX2_wasAlone 8 = .ok (.iload_n 1, 1) := by decide +kernel
theorem dX2_wasAlone_9 : decode cX2_wasAlone 9 = .ok (.aaload, 1) := by decide +kernel
theorem dX2_wasAlone_10 : decode cX2_wasAlone 10 = .ok (.iload_n 2, 1) := by decide +kernel
theorem dX2_wasAlone_11 : decode cX2_wasAlone 11 = .ok (.iconst 1, 1) := by decide +kernel
theorem dX2_wasAlone_12 : decode cX2_wasAlone 12 = .ok (.isub, 1) := by decide +kernel
theorem dX2_wasAlone_13 : decode cX2_wasAlone 13 = .ok (.iaload, 1) := by decide +kernel
theorem dX2_wasAlone_14 : decode cX2_wasAlone 14 = .ok (.bipush (-9), 2) := by decide +kernel
theorem dX2_wasAlone_16 : decode cX2_wasAlone 16 = .ok (.if_icmp .ne 7, 3) := by decide +kernel
theorem dX2_wasAlone_19 : decode cX2_wasAlone 19 = .ok (.iconst 1, 1) := by decide +kernel
theorem dX2_wasAlone_20 : decode cX2_wasAlone 20 = .ok (.goto 4, 3) := by decide +kernel
theorem dX2_wasAlone_23 : decode cX2_wasAlone 23 = .ok (.iconst 0, 1) := by decide +kernel
theorem dX2_wasAlone_24 : decode cX2_wasAlone 24 = .ok (.ireturn, 1) := by decide +kernel
theorem dX2_gaps_0 : decode cX2_gaps 0 = .ok (.iconst 0, 1) := by decide +kernel
theorem dX2_gaps_1 : decode cX2_gaps 1 = .ok (.istore_n 2, 1) := by decide +kernel
theorem dX2_gaps_2 : decode cX2_gaps 2 = .ok (.iconst 0, 1) := by decide +kernel
theorem dX2_gaps_3 : decode cX2_gaps 3 = .ok (.istore_n 3, 1) := by decide +kernel
theorem dX2_gaps_4 : decode cX2_gaps 4 = .ok (.iload_n 3, 1) := by decide +kernel
theorem dX2_gaps_5 : decode cX2_gaps 5 = .ok (.aload_n 0, 1) := by decide +kernel
theorem dX2_gaps_6 : decode cX2_gaps 6 = .ok (.getfield 27, 3) := by decide +kernel
theorem dX2_gaps_9 : decode cX2_gaps 9 = .ok (.if_icmp .ge 25, 3) := by decide +kernel
theorem dX2_gaps_12 : decode cX2_gaps 12 = .ok (.aload_n 0, 1) := by decide +kernel
theorem dX2_gaps_13 : decode cX2_gaps 13 = .ok (.getfield 11, 3) := by decide +kernel
theorem dX2_gaps_16 : decode cX2_gaps 16 = .ok (.iload_n 1, 1) := by decide +kernel
theorem dX2_gaps_17 : decode cX2_gaps 17 = .ok (.aaload, 1) := by decide +kernel
theorem dX2_gaps_18 : decode cX2_gaps 18 = .ok (.iload_n 3, 1) := by decide +kernel
theorem dX2_gaps_19 : decode cX2_gaps 19 = .ok (.iaload, 1) := by decide +kernel
theorem dX2_gaps_20 : decode cX2_gaps 20 = .ok (.bipush (-9), 2) := by decide +kernel
theorem dX2_gaps_22 : decode cX2_gaps 22 = .ok (.if_icmp .ne 6, 3) := by decide +kernel
theorem dX2_gaps_25 : decode cX2_gaps 25 = .ok (.iinc 2 1, 3) := by decide +kernel
theorem dX2_gaps_28 : decode cX2_gaps 28 = .ok (.iinc 3 1, 3) := by decide +kernel
theorem dX2_gaps_31 : decode cX2_gaps 31 = .ok (.goto (-27), 3) := by decide +kernel
theorem dX2_gaps_34 : decode cX2_gaps 34 = .ok (.iload_n 2, 1) := by decide +kernel
theorem dX2_gaps_35 : decode cX2_gaps 35 = .ok (.ireturn, 1) := by decide +kernel
theorem dX2_allGaps_0 : decode cX2_allGaps 0 = .ok (.iconst 0, 1) := by decide +kernel
theorem dX2_allGaps_1 : decode cX2_allGaps 1 = .ok (.istore_n 2, 1) := by decide +kernel
theorem dX2_allGaps_2 : decode cX2_allGaps 2 = .ok (.iconst 0, 1) := by decide +kernel
theorem dX2_allGaps_3 : decode cX2_allGaps 3 = .ok (.istore_n 3, 1) := by decide +kernel
theorem dX2_allGaps_4 : decode cX2_allGaps 4 = .ok (.iload_n 3, 1) := by decide +kernel
theorem dX2_allGaps_5 : decode cX2_allGaps 5 = .ok (.bipush 10, 2) := by decide +kernel
theorem dX2_allGaps_7 : decode cX2_allGaps 7 = .ok (.if_icmp .ge 25, 3) := by decide +kernel
theorem dX2_allGaps_10 : decode cX2_allGaps 10 = .ok (.aload_n 1, 1) := by decide +kernel
theorem dX2_allGaps_11 : decode cX2_allGaps 11 = .ok (.iload_n 3, 1) := by decide +kernel
theorem dX2_allGaps_12 : decode cX2_allGaps 12 = .ok (.invokevirtual 36, 3) := by decide +kernel
theorem dX2_allGaps_15 : decode cX2_allGaps 15 = .ok (.ifCond .eq 11, 3) := by decide +kernel
theorem dX2_allGaps_18 : decode cX2_allGaps 18 = .ok (.iload_n 2, 1) := by decide +kernel
theorem dX2_allGaps_19 : decode cX2_allGaps 19 = .ok (.aload_n 0, 1) := by decide +kernel
theorem dX2_allGaps_20 : decode cX2_allGaps 20 = .ok (.iload_n 3, 1) := by decide +kernel
theorem dX2_allGaps_21 : decode cX2_allGaps 21 = .ok (.invokevirtual 91, 3) := by decide +kernel
theorem dX2_allGaps_24 : decode cX2_allGaps 24 = .ok (.iadd, 1) := by decide +kernel
theorem dX2_allGaps_25 : decode cX2_allGaps 25 = .ok (.istore_n 2, 1) := by decide +kernel
theorem dX2_allGaps_26 : decode cX2_allGaps 26 = .ok (.iinc 3 1, 3) := by decide +kernel
theorem dX2_allGaps_29 : decode cX2_allGaps 29 = .ok (.goto (-25), 3) := by decide +kernel
theorem dX2_allGaps_32 : decode cX2_allGaps 32 = .ok (.iload_n 2, 1) := by decide +kernel
theorem dX2_allGaps_33 : decode cX2_allGaps 33 = .ok (.ireturn, 1) := by decide +kernel
theorem dX2_saysYes_0 : decode cX2_saysYes 0 = .ok (.aload_n 0, 1) := by decide +kernel
theorem dX2_saysYes_1 : decode cX2_saysYes 1 = .ok (.getfield 19, 3) := by decide +kernel
theorem dX2_saysYes_4 : decode cX2_saysYes 4 = .ok (.iload_n 1, 1) := by decide +kernel
theorem dX2_saysYes_5 : decode cX2_saysYes 5 = .ok (.iaload, 1) := by decide +kernel
theorem dX2_saysYes_6 : decode cX2_saysYes 6 = .ok (.iload_n 2, 1) := by decide +kernel
theorem dX2_saysYes_7 : decode cX2_saysYes 7 = .ok (.invokestatic 74, 3) := by decide +kernel
theorem dX2_saysYes_10 : decode cX2_saysYes 10 = .ok (.iand, 1) := by decide +kernel
theorem dX2_saysYes_11 : decode cX2_saysYes 11 = .ok (.ifCond .eq 7, 3) := by decide +kernel
theorem dX2_saysYes_14 : decode cX2_saysYes 14 = .ok (.iconst 1, 1) := by decide +kernel
theorem dX2_saysYes_15 : decode cX2_saysYes 15 = .ok (.goto 4, 3) := by decide +kernel
theorem dX2_saysYes_18 : decode cX2_saysYes 18 = .ok (.iconst 0, 1) := by decide +kernel
theorem dX2_saysYes_19 : decode cX2_saysYes 19 = .ok (.ireturn, 1) := by decide +kernel
theorem dX2_slipsFor_0 : decode cX2_slipsFor 0 = .ok (.iconst 0, 1) := by decide +kernel
theorem dX2_slipsFor_1 : decode cX2_slipsFor 1 = .ok (.istore_n 2, 1) := by decide +kernel
theorem dX2_slipsFor_2 : decode cX2_slipsFor 2 = .ok (.iconst 0, 1) := by decide +kernel
theorem dX2_slipsFor_3 : decode cX2_slipsFor 3 = .ok (.istore_n 3, 1) := by decide +kernel
theorem dX2_slipsFor_4 : decode cX2_slipsFor 4 = .ok (.iload_n 3, 1) := by decide +kernel
theorem dX2_slipsFor_5 : decode cX2_slipsFor 5 = .ok (.iconst 5, 1) := by decide +kernel
theorem dX2_slipsFor_6 : decode cX2_slipsFor 6 = .ok (.if_icmp .ge 35, 3) := by decide +kernel
theorem dX2_slipsFor_9 : decode cX2_slipsFor 9 = .ok (.iload_n 1, 1) := by decide +kernel
theorem dX2_slipsFor_10 : decode cX2_slipsFor 10 = .ok (.invokestatic 58, 3) := by decide +kernel
theorem dX2_slipsFor_13 : decode cX2_slipsFor 13 = .ok (.iload_n 3, 1) := by decide +kernel
theorem dX2_slipsFor_14 : decode cX2_slipsFor 14 = .ok (.iadd, 1) := by decide +kernel
theorem dX2_slipsFor_15 : decode cX2_slipsFor 15 = .ok (.istore 4, 2) := by decide +kernel
theorem dX2_slipsFor_17 : decode cX2_slipsFor 17 = .ok (.aload_n 0, 1) := by decide +kernel
theorem dX2_slipsFor_18 : decode cX2_slipsFor 18 = .ok (.iload 4, 2) := by decide +kernel
theorem dX2_slipsFor_20 : decode cX2_slipsFor 20 = .ok (.iload_n 1, 1) := by decide +kernel
theorem dX2_slipsFor_21 : decode cX2_slipsFor 21 = .ok (.invokevirtual 94, 3) := by decide +kernel
theorem dX2_slipsFor_24 : decode cX2_slipsFor 24 = .ok (.ifCond .eq 11, 3) := by decide +kernel
theorem dX2_slipsFor_27 : decode cX2_slipsFor 27 = .ok (.iload_n 2, 1) := by decide +kernel
theorem dX2_slipsFor_28 : decode cX2_slipsFor 28 = .ok (.iload 4, 2) := by decide +kernel
theorem dX2_slipsFor_30 : decode cX2_slipsFor 30 = .ok (.invokestatic 74, 3) := by decide +kernel
theorem dX2_slipsFor_33 : decode cX2_slipsFor 33 = .ok (.ior, 1) := by decide +kernel
theorem dX2_slipsFor_34 : decode cX2_slipsFor 34 = .ok (.istore_n 2, 1) := by decide +kernel
theorem dX2_slipsFor_35 : decode cX2_slipsFor 35 = .ok (.iinc 3 1, 3) := by decide +kernel
theorem dX2_slipsFor_38 : decode cX2_slipsFor 38 = .ok (.goto (-34), 3) := by decide +kernel
theorem dX2_slipsFor_41 : decode cX2_slipsFor 41 = .ok (.iload_n 2, 1) := by decide +kernel
theorem dX2_slipsFor_42 : decode cX2_slipsFor 42 = .ok (.ireturn, 1) := by decide +kernel
theorem dX2_letAllMeetAll_0 : decode cX2_letAllMeetAll 0 = .ok (.iconst 1, 1) := by decide +kernel
theorem dX2_letAllMeetAll_1 : decode cX2_letAllMeetAll 1 = .ok (.aload_n 1, 1) := by decide +kernel
theorem dX2_letAllMeetAll_2 : decode cX2_letAllMeetAll 2 = .ok (.getfield 97, 3) := by decide +kernel
theorem dX2_letAllMeetAll_5 : decode cX2_letAllMeetAll 5 = .ok (.iconst 1, 1) := by decide +kernel
theorem dX2_letAllMeetAll_6 : decode cX2_letAllMeetAll 6 = .ok (.iaload, 1) := by decide +kernel
theorem dX2_letAllMeetAll_7 : decode cX2_letAllMeetAll 7 = .ok (.ishl, 1) := by decide +kernel
theorem dX2_letAllMeetAll_8 : decode cX2_letAllMeetAll 8 = .ok (.iconst 1, 1) := by decide +kernel
theorem dX2_letAllMeetAll_9 : decode cX2_letAllMeetAll 9 = .ok (.isub, 1) := by decide +kernel
theorem dX2_letAllMeetAll_10 : decode cX2_letAllMeetAll 10 = .ok (.istore_n 2, 1) := by decide +kernel
theorem dX2_letAllMeetAll_11 : decode cX2_letAllMeetAll 11 = .ok (.iconst 0, 1) := by decide +kernel
theorem dX2_letAllMeetAll_12 : decode cX2_letAllMeetAll 12 = .ok (.istore_n 3, 1) := by decide +kernel
theorem dX2_letAllMeetAll_13 : decode cX2_letAllMeetAll 13 = .ok (.iload_n 3, 1) := by decide +kernel
theorem dX2_letAllMeetAll_14 : decode cX2_letAllMeetAll 14 = .ok (.aload_n 1, 1) := by decide +kernel
theorem dX2_letAllMeetAll_15 : decode cX2_letAllMeetAll 15 = .ok (.getfield 97, 3) := by decide +kernel
theorem dX2_letAllMeetAll_18 : decode cX2_letAllMeetAll 18 = .ok (.iconst 0, 1) := by decide +kernel
theorem dX2_letAllMeetAll_19 : decode cX2_letAllMeetAll 19 = .ok (.iaload, 1) := by decide +kernel
theorem dX2_letAllMeetAll_20 : decode cX2_letAllMeetAll 20 = .ok (.if_icmp .ge 70, 3) := by decide +kernel
theorem dX2_letAllMeetAll_23 : decode cX2_letAllMeetAll 23 = .ok (.iconst 0, 1) := by decide +kernel
theorem dX2_letAllMeetAll_24 : decode cX2_letAllMeetAll 24 = .ok (.istore 4, 2) := by decide +kernel
theorem dX2_letAllMeetAll_26 : decode cX2_letAllMeetAll 26 = .ok (.iconst 0, 1) := by decide +kernel
theorem dX2_letAllMeetAll_27 : decode cX2_letAllMeetAll 27 = .ok (.istore 5, 2) := by decide +kernel
theorem dX2_letAllMeetAll_29 : decode cX2_letAllMeetAll 29 = .ok (.iload 5, 2) := by decide +kernel
theorem dX2_letAllMeetAll_31 : decode cX2_letAllMeetAll 31 = .ok (.aload_n 0, 1) := by decide +kernel
theorem dX2_letAllMeetAll_32 : decode cX2_letAllMeetAll 32 = .ok (.getfield 27, 3) := by decide +kernel
theorem dX2_letAllMeetAll_35 : decode cX2_letAllMeetAll 35 = .ok (.if_icmp .ge 41, 3) := by decide +kernel
theorem dX2_letAllMeetAll_38 : decode cX2_letAllMeetAll 38 = .ok (.aload_n 0, 1) := by decide +kernel
theorem dX2_letAllMeetAll_39 : decode cX2_letAllMeetAll 39 = .ok (.getfield 11, 3) := by decide +kernel
theorem dX2_letAllMeetAll_42 : decode cX2_letAllMeetAll 42 = .ok (.iload_n 3, 1) := by decide +kernel
theorem dX2_letAllMeetAll_43 : decode cX2_letAllMeetAll 43 = .ok (.aaload, 1) := by decide +kernel
theorem dX2_letAllMeetAll_44 : decode cX2_letAllMeetAll 44 = .ok (.iload 5, 2) := by decide +kernel
theorem dX2_letAllMeetAll_46 : decode cX2_letAllMeetAll 46 = .ok (.iaload, 1) := by decide +kernel
theorem dX2_letAllMeetAll_47 : decode cX2_letAllMeetAll 47 = .ok (.istore 6, 2) := by decide +kernel
theorem dX2_letAllMeetAll_49 : decode cX2_letAllMeetAll 49 = .ok (.iload 4, 2) := by decide +kernel
theorem dX2_letAllMeetAll_51 : decode cX2_letAllMeetAll 51 = .ok (.iload 6, 2) := by decide +kernel
theorem dX2_letAllMeetAll_53 : decode cX2_letAllMeetAll 53 = .ok (.bipush (-9), 2) := by decide +kernel
theorem dX2_letAllMeetAll_55 : decode cX2_letAllMeetAll 55 = .ok (.if_icmp .ne 7, 3) := by decide +kernel
theorem dX2_letAllMeetAll_58 : decode cX2_letAllMeetAll 58 = .ok (.iconst 0, 1) := by decide +kernel
theorem dX2_letAllMeetAll_59 : decode cX2_letAllMeetAll 59 = .ok (.goto 8, 3) := by decide +kernel
theorem dX2_letAllMeetAll_62 : decode cX2_letAllMeetAll 62 = .ok (.iload 6, 2) := by decide +kernel
theorem dX2_letAllMeetAll_64 : decode cX2_letAllMeetAll 64 = .ok (.invokestatic 74, 3) := by decide +kernel
theorem dX2_letAllMeetAll_67 : decode cX2_letAllMeetAll 67 = .ok (.ior, 1) := by decide +kernel
theorem dX2_letAllMeetAll_68 : decode cX2_letAllMeetAll 68 = .ok (.istore 4, 2) := by decide +kernel
theorem dX2_letAllMeetAll_70 : decode cX2_letAllMeetAll 70 = .ok (.iinc 5 1, 3) := by decide +kernel
theorem dX2_letAllMeetAll_73 : decode cX2_letAllMeetAll 73 = .ok (.goto (-44), 3) := by decide +kernel
theorem dX2_letAllMeetAll_76 : decode cX2_letAllMeetAll 76 = .ok (.iload 4, 2) := by decide +kernel
theorem dX2_letAllMeetAll_78 : decode cX2_letAllMeetAll 78 = .ok (.iload_n 2, 1) := by decide +kernel
theorem dX2_letAllMeetAll_79 : decode cX2_letAllMeetAll 79 = .ok (.if_icmp .eq 5, 3) := by decide +kernel
theorem dX2_letAllMeetAll_82 : decode cX2_letAllMeetAll 82 = .ok (.iconst 0, 1) := by decide +kernel
theorem dX2_letAllMeetAll_83 : decode cX2_letAllMeetAll 83 = .ok (.ireturn, 1) := by decide +kernel
theorem dX2_letAllMeetAll_84 : decode cX2_letAllMeetAll 84 = .ok (.iinc 3 1, 3) := by decide +kernel
theorem dX2_letAllMeetAll_87 : decode cX2_letAllMeetAll 87 = .ok (.goto (-74), 3) := by decide +kernel
theorem dX2_letAllMeetAll_90 : decode cX2_letAllMeetAll 90 = .ok (.iconst 1, 1) := by decide +kernel
theorem dX2_letAllMeetAll_91 : decode cX2_letAllMeetAll 91 = .ok (.ireturn, 1) := by decide +kernel
theorem dX3_init_0 : decode cX3_init 0 = .ok (.aload_n 0, 1) := by decide +kernel
theorem dX3_init_1 : decode cX3_init 1 = .ok (.invokespecial 3, 3) := by decide +kernel
theorem dX3_init_4 : decode cX3_init 4 = .ok (.aload_n 0, 1) := by decide +kernel
theorem dX3_init_5 : decode cX3_init 5 = .ok (.bipush 96, 2) := by decide +kernel
theorem dX3_init_7 : decode cX3_init 7 = .ok (.newarray .int, 2) := by decide +kernel
theorem dX3_init_9 : decode cX3_init 9 = .ok (.putfield 11, 3) := by decide +kernel
theorem dX3_init_12 : decode cX3_init 12 = .ok (.aload_n 0, 1) := by decide +kernel
theorem dX3_init_13 : decode cX3_init 13 = .ok (.iconst 0, 1) := by decide +kernel
theorem dX3_init_14 : decode cX3_init 14 = .ok (.putfield 15, 3) := by decide +kernel
theorem dX3_init_17 : decode cX3_init 17 = .ok (.return_, 1) := by decide +kernel
theorem dX3_isFull_0 : decode cX3_isFull 0 = .ok (.aload_n 0, 1) := by decide +kernel
theorem dX3_isFull_1 : decode cX3_isFull 1 = .ok (.getfield 15, 3) := by decide +kernel
theorem dX3_isFull_4 : decode cX3_isFull 4 = .ok (.bipush 96, 2) := by decide +kernel
theorem dX3_isFull_6 : decode cX3_isFull 6 = .ok (.if_icmp .lt 7, 3) := by decide +kernel
theorem dX3_isFull_9 : decode cX3_isFull 9 = .ok (.iconst 1, 1) := by decide +kernel
theorem dX3_isFull_10 : decode cX3_isFull 10 = .ok (.goto 4, 3) := by decide +kernel
theorem dX3_isFull_13 : decode cX3_isFull 13 = .ok (.iconst 0, 1) := by decide +kernel
theorem dX3_isFull_14 : decode cX3_isFull 14 = .ok (.ireturn, 1) := by decide +kernel
theorem dX3_add_0 : decode cX3_add 0 = .ok (.aload_n 0, 1) := by decide +kernel
theorem dX3_add_1 : decode cX3_add 1 = .ok (.invokevirtual 19, 3) := by decide +kernel
theorem dX3_add_4 : decode cX3_add 4 = .ok (.ifCond .ne 23, 3) := by decide +kernel
theorem dX3_add_7 : decode cX3_add 7 = .ok (.aload_n 0, 1) := by decide +kernel
theorem dX3_add_8 : decode cX3_add 8 = .ok (.getfield 11, 3) := by decide +kernel
theorem dX3_add_11 : decode cX3_add 11 = .ok (.aload_n 0, 1) := by decide +kernel
theorem dX3_add_12 : decode cX3_add 12 = .ok (.getfield 15, 3) := by decide +kernel
theorem dX3_add_15 : decode cX3_add 15 = .ok (.iload_n 1, 1) := by decide +kernel
theorem dX3_add_16 : decode cX3_add 16 = .ok (.iastore, 1) := by decide +kernel
theorem dX3_add_17 : decode cX3_add 17 = .ok (.aload_n 0, 1) := by decide +kernel
theorem dX3_add_18 : decode cX3_add 18 = .ok (.dup, 1) := by decide +kernel
theorem dX3_add_19 : decode cX3_add 19 = .ok (.getfield 15, 3) := by decide +kernel
theorem dX3_add_22 : decode cX3_add 22 = .ok (.iconst 1, 1) := by decide +kernel
theorem dX3_add_23 : decode cX3_add 23 = .ok (.iadd, 1) := by decide +kernel
theorem dX3_add_24 : decode cX3_add 24 = .ok (.putfield 15, 3) := by decide +kernel
theorem dX3_add_27 : decode cX3_add 27 = .ok (.aload_n 0, 1) := by decide +kernel
theorem dX3_add_28 : decode cX3_add 28 = .ok (.getfield 15, 3) := by decide +kernel
theorem dX3_add_31 : decode cX3_add 31 = .ok (.ireturn, 1) := by decide +kernel
theorem dX3_forget_0 : decode cX3_forget 0 = .ok (.aload_n 0, 1) := by decide +kernel
theorem dX3_forget_1 : decode cX3_forget 1 = .ok (.iconst 0, 1) := by decide +kernel
theorem dX3_forget_2 : decode cX3_forget 2 = .ok (.putfield 15, 3) := by decide +kernel
theorem dX3_forget_5 : decode cX3_forget 5 = .ok (.return_, 1) := by decide +kernel
theorem dX3_firstBadLetter_0 : decode cX3_firstBadLetter 0 = .ok (.aload_n 0, 1) := by decide +kernel
theorem dX3_firstBadLetter_1 : decode cX3_firstBadLetter 1 = .ok (.getfield 15, 3) := by decide +kernel
theorem dX3_firstBadLetter_4 : decode cX3_firstBadLetter 4 = .ok (.ifCond .ne 5, 3) := by decide +kernel
theorem dX3_firstBadLetter_7 : decode cX3_firstBadLetter 7 = .ok (.iconst 0, 1) := by decide +kernel
theorem dX3_firstBadLetter_8 : decode cX3_firstBadLetter 8 = .ok (.ireturn, 1) := by decide +kernel
theorem dX3_firstBadLetter_9 : decode cX3_firstBadLetter 9 = .ok (.iconst 0, 1) := by decide +kernel
theorem dX3_firstBadLetter_10 : decode cX3_firstBadLetter 10 = .ok (.istore_n 1, 1) := by decide +kernel
theorem dX3_firstBadLetter_11 : decode cX3_firstBadLetter 11 = .ok (.iload_n 1, 1) := by decide +kernel
theorem dX3_firstBadLetter_12 : decode cX3_firstBadLetter 12 = .ok (.aload_n 0, 1) := by decide +kernel
theorem dX3_firstBadLetter_13 : decode cX3_firstBadLetter 13 = .ok (.getfield 15, 3) := by decide +kernel
theorem dX3_firstBadLetter_16 : decode cX3_firstBadLetter 16 = .ok (.if_icmp .ge 74, 3) := by decide +kernel
theorem dX3_firstBadLetter_19 : decode cX3_firstBadLetter 19 = .ok (.aload_n 0, 1) := by decide +kernel
theorem dX3_firstBadLetter_20 : decode cX3_firstBadLetter 20 = .ok (.getfield 11, 3) := by decide +kernel
theorem dX3_firstBadLetter_23 : decode cX3_firstBadLetter 23 = .ok (.iload_n 1, 1) := by decide +kernel
theorem dX3_firstBadLetter_24 : decode cX3_firstBadLetter 24 = .ok (.iaload, 1) := by decide +kernel
theorem dX3_firstBadLetter_25 : decode cX3_firstBadLetter 25 = .ok (.invokestatic 23, 3) := by decide +kernel
theorem dX3_firstBadLetter_28 : decode cX3_firstBadLetter 28 = .ok (.astore_n 2, 1) := by decide +kernel
theorem dX3_firstBadLetter_29 : decode cX3_firstBadLetter 29 = .ok (.aload_n 2, 1) := by decide +kernel
theorem dX3_firstBadLetter_30 : decode cX3_firstBadLetter 30 = .ok (.invokevirtual 27, 3) := by decide +kernel
theorem dX3_firstBadLetter_33 : decode cX3_firstBadLetter 33 = .ok (.ifCond .eq 5, 3) := by decide +kernel
theorem dX3_firstBadLetter_36 : decode cX3_firstBadLetter 36 = .ok (.iload_n 1, 1) := by decide +kernel
theorem dX3_firstBadLetter_37 : decode cX3_firstBadLetter 37 = .ok (.ireturn, 1) := by decide +kernel
theorem dX3_firstBadLetter_38 : decode cX3_firstBadLetter 38 = .ok (.iinc 1 1, 3) := by decide +kernel
theorem dX3_firstBadLetter_41 : decode cX3_firstBadLetter 41 = .ok (.iconst 0, 1) := by decide +kernel
theorem dX3_firstBadLetter_42 : decode cX3_firstBadLetter 42 = .ok (.istore_n 3, 1) := by decide +kernel
theorem dX3_firstBadLetter_43 : decode cX3_firstBadLetter 43 = .ok (.iload_n 3, 1) := by decide +kernel
theorem dX3_firstBadLetter_44 : decode cX3_firstBadLetter 44 = .ok (.aload_n 2, 1) := by decide +kernel
theorem dX3_firstBadLetter_45 : decode cX3_firstBadLetter 45 = .ok (.invokevirtual 32, 3) := by decide +kernel
theorem dX3_firstBadLetter_48 : decode cX3_firstBadLetter 48 = .ok (.if_icmp .ge 39, 3) := by decide +kernel
theorem dX3_firstBadLetter_51 : decode cX3_firstBadLetter 51 = .ok (.iload_n 1, 1) := by decide +kernel
theorem dX3_firstBadLetter_52 : decode cX3_firstBadLetter 52 = .ok (.aload_n 0, 1) := by decide +kernel
theorem dX3_firstBadLetter_53 : decode cX3_firstBadLetter 53 = .ok (.getfield 15, 3) := by decide +kernel
theorem dX3_firstBadLetter_56 : decode cX3_firstBadLetter 56 = .ok (.if_icmp .ge 20, 3) := by decide +kernel
theorem dX3_firstBadLetter_59 : decode cX3_firstBadLetter 59 = .ok (.aload_n 2, 1) := by decide +kernel
theorem dX3_firstBadLetter_60 : decode cX3_firstBadLetter 60 = .ok (.iload_n 3, 1) := by decide +kernel
theorem dX3_firstBadLetter_61 : decode cX3_firstBadLetter 61 = .ok (.invokevirtual 35, 3) := by decide +kernel
theorem dX3_firstBadLetter_64 : decode cX3_firstBadLetter 64 = .ok (.aload_n 0, 1) := by decide +kernel
theorem dX3_firstBadLetter_65 : decode cX3_firstBadLetter 65 = .ok (.getfield 11, 3) := by decide +kernel
theorem dX3_firstBadLetter_68 : decode cX3_firstBadLetter 68 = .ok (.iload_n 1, 1) := by decide +kernel
theorem dX3_firstBadLetter_69 : decode cX3_firstBadLetter 69 = .ok (.iaload, 1) := by decide +kernel
theorem dX3_firstBadLetter_70 : decode cX3_firstBadLetter 70 = .ok (.invokestatic 39, 3) := by decide +kernel
theorem dX3_firstBadLetter_73 : decode cX3_firstBadLetter 73 = .ok (.ifCond .ne 5, 3) := by decide +kernel
theorem dX3_firstBadLetter_76 : decode cX3_firstBadLetter 76 = .ok (.iload_n 1, 1) := by decide +kernel
theorem dX3_firstBadLetter_77 : decode cX3_firstBadLetter 77 = .ok (.ireturn, 1) := by decide +kernel
theorem dX3_firstBadLetter_78 : decode cX3_firstBadLetter 78 = .ok (.iinc 1 1, 3) := by decide +kernel
theorem dX3_firstBadLetter_81 : decode cX3_firstBadLetter 81 = .ok (.iinc 3 1, 3) := by decide +kernel
theorem dX3_firstBadLetter_84 : decode cX3_firstBadLetter 84 = .ok (.goto (-41), 3) := by decide +kernel
theorem dX3_firstBadLetter_87 : decode cX3_firstBadLetter 87 = .ok (.goto (-76), 3) := by decide +kernel
theorem dX3_firstBadLetter_90 : decode cX3_firstBadLetter 90 = .ok (.bipush (-9), 2) := by decide +kernel
theorem dX3_firstBadLetter_92 : decode cX3_firstBadLetter 92 = .ok (.ireturn, 1) := by decide +kernel
theorem dX3_formBehind_0 : decode cX3_formBehind 0 = .ok (.iload_n 0, 1) := by decide +kernel
theorem dX3_formBehind_1 : decode cX3_formBehind 1 = .ok (.tableswitch 82 107 119 #[73, 67, 82, 82, 76, 82, 82, 70, 82, 82, 82, 82, 79], 67) := by decide +kernel
theorem dX3_formBehind_68 : decode cX3_formBehind 68 = .ok (.ldc 43, 2) := by decide +kernel
theorem dX3_formBehind_70 : decode cX3_formBehind 70 = .ok (.areturn, 1) := by decide +kernel
theorem dX3_formBehind_71 : decode cX3_formBehind 71 = .ok (.ldc 43, 2) := by decide +kernel
theorem dX3_formBehind_73 : decode cX3_formBehind 73 = .ok (.areturn, 1) := by decide +kernel
theorem dX3_formBehind_74 : decode cX3_formBehind 74 = .ok (.ldc 45, 2) := by decide +kernel
theorem dX3_formBehind_76 : decode cX3_formBehind 76 = .ok (.areturn, 1) := by decide +kernel
theorem dX3_formBehind_77 : decode cX3_formBehind 77 = .ok (.ldc 47, 2) := by decide +kernel
theorem dX3_formBehind_79 : decode cX3_formBehind 79 = .ok (.areturn, 1) := by decide +kernel
theorem dX3_formBehind_80 : decode cX3_formBehind 80 = .ok (.ldc 49, 2) := by decide +kernel
theorem dX3_formBehind_82 : decode cX3_formBehind 82 = .ok (.areturn, 1) := by decide +kernel
theorem dX3_formBehind_83 : decode cX3_formBehind 83 = .ok (.ldc 51, 2) := by decide +kernel
theorem dX3_formBehind_85 : decode cX3_formBehind 85 = .ok (.areturn, 1) := by decide +kernel
theorem dX3_fits_0 : decode cX3_fits 0 = .ok (.iload_n 0, 1) := by decide +kernel
theorem dX3_fits_1 : decode cX3_fits 1 = .ok (.lookupswitch 61 #[(68, 43), (75, 27)], 27) := by decide +kernel
theorem dX3_fits_28 : decode cX3_fits 28 = .ok (.ldc 53, 2) := by decide +kernel
theorem dX3_fits_30 : decode cX3_fits 30 = .ok (.iload_n 1, 1) := by decide +kernel
theorem dX3_fits_31 : decode cX3_fits 31 = .ok (.i2c, 1) := by decide +kernel
theorem dX3_fits_32 : decode cX3_fits 32 = .ok (.invokevirtual 55, 3) := by decide +kernel
theorem dX3_fits_35 : decode cX3_fits 35 = .ok (.ifCond .lt 7, 3) := by decide +kernel
theorem dX3_fits_38 : decode cX3_fits 38 = .ok (.iconst 1, 1) := by decide +kernel
theorem dX3_fits_39 : decode cX3_fits 39 = .ok (.goto 4, 3) := by decide +kernel
theorem dX3_fits_42 : decode cX3_fits 42 = .ok (.iconst 0, 1) := by decide +kernel
theorem dX3_fits_43 : decode cX3_fits 43 = .ok (.ireturn, 1) := by decide +kernel
theorem dX3_fits_44 : decode cX3_fits 44 = .ok (.iload_n 1, 1) := by decide +kernel
theorem dX3_fits_45 : decode cX3_fits 45 = .ok (.bipush 48, 2) := by decide +kernel
theorem dX3_fits_47 : decode cX3_fits 47 = .ok (.if_icmp .lt 13, 3) := by decide +kernel
theorem dX3_fits_50 : decode cX3_fits 50 = .ok (.iload_n 1, 1) := by decide +kernel
theorem dX3_fits_51 : decode cX3_fits 51 = .ok (.bipush 57, 2) := by decide +kernel
theorem dX3_fits_53 : decode cX3_fits 53 = .ok (.if_icmp .gt 7, 3) := by decide +kernel
theorem dX3_fits_56 : decode cX3_fits 56 = .ok (.iconst 1, 1) := by decide +kernel
theorem dX3_fits_57 : decode cX3_fits 57 = .ok (.goto 4, 3) := by decide +kernel
theorem dX3_fits_60 : decode cX3_fits 60 = .ok (.iconst 0, 1) := by decide +kernel
theorem dX3_fits_61 : decode cX3_fits 61 = .ok (.ireturn, 1) := by decide +kernel
theorem dX3_fits_62 : decode cX3_fits 62 = .ok (.iload_n 1, 1) := by decide +kernel
theorem dX3_fits_63 : decode cX3_fits 63 = .ok (.iload_n 0, 1) := by decide +kernel
theorem dX3_fits_64 : decode cX3_fits 64 = .ok (.if_icmp .ne 7, 3) := by decide +kernel
theorem dX3_fits_67 : decode cX3_fits 67 = .ok (.iconst 1, 1) := by decide +kernel
theorem dX3_fits_68 : decode cX3_fits 68 = .ok (.goto 4, 3) := by decide +kernel
theorem dX3_fits_71 : decode cX3_fits 71 = .ok (.iconst 0, 1) := by decide +kernel
theorem dX3_fits_72 : decode cX3_fits 72 = .ok (.ireturn, 1) := by decide +kernel
theorem dX3_statements_0 : decode cX3_statements 0 = .ok (.iconst 0, 1) := by decide +kernel
theorem dX3_statements_1 : decode cX3_statements 1 = .ok (.istore_n 1, 1) := by decide +kernel
theorem dX3_statements_2 : decode cX3_statements 2 = .ok (.iconst 0, 1) := by decide +kernel
theorem dX3_statements_3 : decode cX3_statements 3 = .ok (.istore_n 2, 1) := by decide +kernel
theorem dX3_statements_4 : decode cX3_statements 4 = .ok (.iload_n 2, 1) := by decide +kernel
theorem dX3_statements_5 : decode cX3_statements 5 = .ok (.aload_n 0, 1) := by decide +kernel
theorem dX3_statements_6 : decode cX3_statements 6 = .ok (.getfield 15, 3) := by decide +kernel
theorem dX3_statements_9 : decode cX3_statements 9 = .ok (.if_icmp .ge 23, 3) := by decide +kernel
theorem dX3_statements_12 : decode cX3_statements 12 = .ok (.aload_n 0, 1) := by decide +kernel
theorem dX3_statements_13 : decode cX3_statements 13 = .ok (.getfield 11, 3) := by decide +kernel
theorem dX3_statements_16 : decode cX3_statements 16 = .ok (.iload_n 2, 1) := by decide +kernel
theorem dX3_statements_17 : decode cX3_statements 17 = .ok (.iaload, 1) := by decide +kernel
theorem dX3_statements_18 : decode cX3_statements 18 = .ok (.bipush 59, 2) := by decide +kernel
theorem dX3_statements_20 : decode cX3_statements 20 = .ok (.if_icmp .ne 6, 3) := by decide +kernel
theorem dX3_statements_23 : decode cX3_statements 23 = .ok (.iinc 1 1, 3) := by decide +kernel
theorem dX3_statements_26 : decode cX3_statements 26 = .ok (.iinc 2 1, 3) := by decide +kernel
theorem dX3_statements_29 : decode cX3_statements 29 = .ok (.goto (-25), 3) := by decide +kernel
theorem dX3_statements_32 : decode cX3_statements 32 = .ok (.iload_n 1, 1) := by decide +kernel
theorem dX3_statements_33 : decode cX3_statements 33 = .ok (.ireturn, 1) := by decide +kernel
theorem dX3_carryOut_0 : decode cX3_carryOut 0 = .ok (.iconst 0, 1) := by decide +kernel
theorem dX3_carryOut_1 : decode cX3_carryOut 1 = .ok (.istore_n 2, 1) := by decide +kernel
theorem dX3_carryOut_2 : decode cX3_carryOut 2 = .ok (.iload_n 2, 1) := by decide +kernel
theorem dX3_carryOut_3 : decode cX3_carryOut 3 = .ok (.aload_n 0, 1) := by decide +kernel
theorem dX3_carryOut_4 : decode cX3_carryOut 4 = .ok (.getfield 15, 3) := by decide +kernel
theorem dX3_carryOut_7 : decode cX3_carryOut 7 = .ok (.if_icmp .ge 34, 3) := by decide +kernel
end
section
theorem dX3_carryOut_10 : decode cX3_carryOut 10 = .ok (.aload_n 0, 1) := by decide +kernel
theorem dX3_carryOut_11 : decode cX3_carryOut 11 = .ok (.aload_n 1, 1) := by decide +kernel
theorem dX3_carryOut_12 : decode cX3_carryOut 12 = .ok (.iload_n 2, 1) := by decide +kernel
theorem dX3_carryOut_13 : decode cX3_carryOut 13 = .ok (.invokevirtual 59, 3) := by decide +kernel
theorem dX3_carryOut_16 : decode cX3_carryOut 16 = .ok (.ifCond .ne 5, 3) := by decide +kernel
theorem dX3_carryOut_19 : decode cX3_carryOut 19 = .ok (.iload_n 2, 1) := by decide +kernel
theorem dX3_carryOut_20 : decode cX3_carryOut 20 = .ok (.ireturn, 1) := by decide +kernel
theorem dX3_carryOut_21 : decode cX3_carryOut 21 = .ok (.iload_n 2, 1) := by decide +kernel
theorem dX3_carryOut_22 : decode cX3_carryOut 22 = .ok (.iconst 1, 1) := by decide +kernel
theorem dX3_carryOut_23 : decode cX3_carryOut 23 = .ok (.aload_n 0, 1) := by decide +kernel
theorem dX3_carryOut_24 : decode cX3_carryOut 24 = .ok (.getfield 11, 3) := by decide +kernel
theorem dX3_carryOut_27 : decode cX3_carryOut 27 = .ok (.iload_n 2, 1) := by decide +kernel
theorem dX3_carryOut_28 : decode cX3_carryOut 28 = .ok (.iaload, 1) := by decide +kernel
theorem dX3_carryOut_29 : decode cX3_carryOut 29 = .ok (.invokestatic 23, 3) := by decide +kernel
theorem dX3_carryOut_32 : decode cX3_carryOut 32 = .ok (.invokevirtual 32, 3) := by decide +kernel
theorem dX3_carryOut_35 : decode cX3_carryOut 35 = .ok (.iadd, 1) := by decide +kernel
theorem dX3_carryOut_36 : decode cX3_carryOut 36 = .ok (.iadd, 1) := by decide +kernel
theorem dX3_carryOut_37 : decode cX3_carryOut 37 = .ok (.istore_n 2, 1) := by decide +kernel
theorem dX3_carryOut_38 : decode cX3_carryOut 38 = .ok (.goto (-36), 3) := by decide +kernel
theorem dX3_carryOut_41 : decode cX3_carryOut 41 = .ok (.bipush (-9), 2) := by decide +kernel
theorem dX3_carryOut_43 : decode cX3_carryOut 43 = .ok (.ireturn, 1) := by decide +kernel
theorem dX3_carryOutOne_0 : decode cX3_carryOutOne 0 = .ok (.aload_n 0, 1) := by decide +kernel
theorem dX3_carryOutOne_1 : decode cX3_carryOutOne 1 = .ok (.getfield 11, 3) := by decide +kernel
theorem dX3_carryOutOne_4 : decode cX3_carryOutOne 4 = .ok (.iload_n 2, 1) := by decide +kernel
theorem dX3_carryOutOne_5 : decode cX3_carryOutOne 5 = .ok (.iaload, 1) := by decide +kernel
theorem dX3_carryOutOne_6 : decode cX3_carryOutOne 6 = .ok (.tableswitch 127 107 119 #[106, 66, 127, 127, 113, 127, 127, 86, 127, 127, 127, 127, 120], 66) := by decide +kernel
theorem dX3_carryOutOne_72 : decode cX3_carryOutOne 72 = .ok (.aload_n 1, 1) := by decide +kernel
theorem dX3_carryOutOne_73 : decode cX3_carryOutOne 73 = .ok (.iconst 0, 1) := by decide +kernel
theorem dX3_carryOutOne_74 : decode cX3_carryOutOne 74 = .ok (.aload_n 0, 1) := by decide +kernel
theorem dX3_carryOutOne_75 : decode cX3_carryOutOne 75 = .ok (.iload_n 2, 1) := by decide +kernel
theorem dX3_carryOutOne_76 : decode cX3_carryOutOne 76 = .ok (.iconst 1, 1) := by decide +kernel
theorem dX3_carryOutOne_77 : decode cX3_carryOutOne 77 = .ok (.iadd, 1) := by decide +kernel
theorem dX3_carryOutOne_78 : decode cX3_carryOutOne 78 = .ok (.invokevirtual 63, 3) := by decide +kernel
theorem dX3_carryOutOne_81 : decode cX3_carryOutOne 81 = .ok (.aload_n 0, 1) := by decide +kernel
theorem dX3_carryOutOne_82 : decode cX3_carryOutOne 82 = .ok (.iload_n 2, 1) := by decide +kernel
theorem dX3_carryOutOne_83 : decode cX3_carryOutOne 83 = .ok (.iconst 2, 1) := by decide +kernel
theorem dX3_carryOutOne_84 : decode cX3_carryOutOne 84 = .ok (.iadd, 1) := by decide +kernel
theorem dX3_carryOutOne_85 : decode cX3_carryOutOne 85 = .ok (.invokevirtual 66, 3) := by decide +kernel
theorem dX3_carryOutOne_88 : decode cX3_carryOutOne 88 = .ok (.invokevirtual 69, 3) := by decide +kernel
theorem dX3_carryOutOne_91 : decode cX3_carryOutOne 91 = .ok (.ireturn, 1) := by decide +kernel
theorem dX3_carryOutOne_92 : decode cX3_carryOutOne 92 = .ok (.aload_n 1, 1) := by decide +kernel
theorem dX3_carryOutOne_93 : decode cX3_carryOutOne 93 = .ok (.iconst 1, 1) := by decide +kernel
theorem dX3_carryOutOne_94 : decode cX3_carryOutOne 94 = .ok (.aload_n 0, 1) := by decide +kernel
theorem dX3_carryOutOne_95 : decode cX3_carryOutOne 95 = .ok (.iload_n 2, 1) := by decide +kernel
theorem dX3_carryOutOne_96 : decode cX3_carryOutOne 96 = .ok (.iconst 1, 1) := by decide +kernel
theorem dX3_carryOutOne_97 : decode cX3_carryOutOne 97 = .ok (.iadd, 1) := by decide +kernel
theorem dX3_carryOutOne_98 : decode cX3_carryOutOne 98 = .ok (.invokevirtual 63, 3) := by decide +kernel
theorem dX3_carryOutOne_101 : decode cX3_carryOutOne 101 = .ok (.aload_n 0, 1) := by decide +kernel
theorem dX3_carryOutOne_102 : decode cX3_carryOutOne 102 = .ok (.iload_n 2, 1) := by decide +kernel
theorem dX3_carryOutOne_103 : decode cX3_carryOutOne 103 = .ok (.iconst 2, 1) := by decide +kernel
theorem dX3_carryOutOne_104 : decode cX3_carryOutOne 104 = .ok (.iadd, 1) := by decide +kernel
theorem dX3_carryOutOne_105 : decode cX3_carryOutOne 105 = .ok (.invokevirtual 66, 3) := by decide +kernel
theorem dX3_carryOutOne_108 : decode cX3_carryOutOne 108 = .ok (.invokevirtual 69, 3) := by decide +kernel
theorem dX3_carryOutOne_111 : decode cX3_carryOutOne 111 = .ok (.ireturn, 1) := by decide +kernel
theorem dX3_carryOutOne_112 : decode cX3_carryOutOne 112 = .ok (.aload_n 0, 1) := by decide +kernel
theorem dX3_carryOutOne_113 : decode cX3_carryOutOne 113 = .ok (.aload_n 1, 1) := by decide +kernel
theorem dX3_carryOutOne_114 : decode cX3_carryOutOne 114 = .ok (.iload_n 2, 1) := by decide +kernel
theorem dX3_carryOutOne_115 : decode cX3_carryOutOne 115 = .ok (.invokevirtual 75, 3) := by decide +kernel
theorem dX3_carryOutOne_118 : decode cX3_carryOutOne 118 = .ok (.ireturn, 1) := by decide +kernel
theorem dX3_carryOutOne_119 : decode cX3_carryOutOne 119 = .ok (.aload_n 0, 1) := by decide +kernel
theorem dX3_carryOutOne_120 : decode cX3_carryOutOne 120 = .ok (.aload_n 1, 1) := by decide +kernel
theorem dX3_carryOutOne_121 : decode cX3_carryOutOne 121 = .ok (.iload_n 2, 1) := by decide +kernel
theorem dX3_carryOutOne_122 : decode cX3_carryOutOne 122 = .ok (.invokevirtual 78, 3) := by decide +kernel
theorem dX3_carryOutOne_125 : decode cX3_carryOutOne 125 = .ok (.ireturn, 1) := by decide +kernel
theorem dX3_carryOutOne_126 : decode cX3_carryOutOne 126 = .ok (.aload_n 0, 1) := by decide +kernel
theorem dX3_carryOutOne_127 : decode cX3_carryOutOne 127 = .ok (.aload_n 1, 1) := by decide +kernel
theorem dX3_carryOutOne_128 : decode cX3_carryOutOne 128 = .ok (.iload_n 2, 1) := by decide +kernel
theorem dX3_carryOutOne_129 : decode cX3_carryOutOne 129 = .ok (.invokevirtual 81, 3) := by decide +kernel
theorem dX3_carryOutOne_132 : decode cX3_carryOutOne 132 = .ok (.ireturn, 1) := by decide +kernel
theorem dX3_carryOutOne_133 : decode cX3_carryOutOne 133 = .ok (.iconst 0, 1) := by decide +kernel
theorem dX3_carryOutOne_134 : decode cX3_carryOutOne 134 = .ok (.ireturn, 1) := by decide +kernel
theorem dX3_setLiking_0 : decode cX3_setLiking 0 = .ok (.aload_n 0, 1) := by decide +kernel
theorem dX3_setLiking_1 : decode cX3_setLiking 1 = .ok (.iload_n 2, 1) := by decide +kernel
theorem dX3_setLiking_2 : decode cX3_setLiking 2 = .ok (.iconst 1, 1) := by decide +kernel
theorem dX3_setLiking_3 : decode cX3_setLiking 3 = .ok (.iadd, 1) := by decide +kernel
theorem dX3_setLiking_4 : decode cX3_setLiking 4 = .ok (.invokevirtual 66, 3) := by decide +kernel
theorem dX3_setLiking_7 : decode cX3_setLiking 7 = .ok (.istore_n 3, 1) := by decide +kernel
theorem dX3_setLiking_8 : decode cX3_setLiking 8 = .ok (.aload_n 0, 1) := by decide +kernel
theorem dX3_setLiking_9 : decode cX3_setLiking 9 = .ok (.iload_n 2, 1) := by decide +kernel
theorem dX3_setLiking_10 : decode cX3_setLiking 10 = .ok (.iconst 2, 1) := by decide +kernel
theorem dX3_setLiking_11 : decode cX3_setLiking 11 = .ok (.iadd, 1) := by decide +kernel
theorem dX3_setLiking_12 : decode cX3_setLiking 12 = .ok (.invokevirtual 66, 3) := by decide +kernel
theorem dX3_setLiking_15 : decode cX3_setLiking 15 = .ok (.istore 4, 2) := by decide +kernel
theorem dX3_setLiking_17 : decode cX3_setLiking 17 = .ok (.aload_n 1, 1) := by decide +kernel
theorem dX3_setLiking_18 : decode cX3_setLiking 18 = .ok (.iload_n 3, 1) := by decide +kernel
theorem dX3_setLiking_19 : decode cX3_setLiking 19 = .ok (.iload 4, 2) := by decide +kernel
theorem dX3_setLiking_21 : decode cX3_setLiking 21 = .ok (.invokevirtual 84, 3) := by decide +kernel
theorem dX3_setLiking_24 : decode cX3_setLiking 24 = .ok (.ifCond .ne 5, 3) := by decide +kernel
theorem dX3_setLiking_27 : decode cX3_setLiking 27 = .ok (.iconst 0, 1) := by decide +kernel
theorem dX3_setLiking_28 : decode cX3_setLiking 28 = .ok (.ireturn, 1) := by decide +kernel
theorem dX3_setLiking_29 : decode cX3_setLiking 29 = .ok (.aload_n 1, 1) := by decide +kernel
theorem dX3_setLiking_30 : decode cX3_setLiking 30 = .ok (.iload_n 3, 1) := by decide +kernel
theorem dX3_setLiking_31 : decode cX3_setLiking 31 = .ok (.iload 4, 2) := by decide +kernel
theorem dX3_setLiking_33 : decode cX3_setLiking 33 = .ok (.aload_n 0, 1) := by decide +kernel
theorem dX3_setLiking_34 : decode cX3_setLiking 34 = .ok (.iload_n 2, 1) := by decide +kernel
theorem dX3_setLiking_35 : decode cX3_setLiking 35 = .ok (.iconst 3, 1) := by decide +kernel
theorem dX3_setLiking_36 : decode cX3_setLiking 36 = .ok (.iadd, 1) := by decide +kernel
theorem dX3_setLiking_37 : decode cX3_setLiking 37 = .ok (.invokevirtual 66, 3) := by decide +kernel
theorem dX3_setLiking_40 : decode cX3_setLiking 40 = .ok (.invokevirtual 88, 3) := by decide +kernel
theorem dX3_setLiking_43 : decode cX3_setLiking 43 = .ok (.iconst 1, 1) := by decide +kernel
theorem dX3_setLiking_44 : decode cX3_setLiking 44 = .ok (.ireturn, 1) := by decide +kernel
theorem dX3_setOrder_0 : decode cX3_setOrder 0 = .ok (.aload_n 0, 1) := by decide +kernel
theorem dX3_setOrder_1 : decode cX3_setOrder 1 = .ok (.iload_n 2, 1) := by decide +kernel
theorem dX3_setOrder_2 : decode cX3_setOrder 2 = .ok (.iconst 1, 1) := by decide +kernel
theorem dX3_setOrder_3 : decode cX3_setOrder 3 = .ok (.iadd, 1) := by decide +kernel
theorem dX3_setOrder_4 : decode cX3_setOrder 4 = .ok (.invokevirtual 66, 3) := by decide +kernel
theorem dX3_setOrder_7 : decode cX3_setOrder 7 = .ok (.istore_n 3, 1) := by decide +kernel
theorem dX3_setOrder_8 : decode cX3_setOrder 8 = .ok (.aload_n 0, 1) := by decide +kernel
theorem dX3_setOrder_9 : decode cX3_setOrder 9 = .ok (.iload_n 2, 1) := by decide +kernel
theorem dX3_setOrder_10 : decode cX3_setOrder 10 = .ok (.iconst 2, 1) := by decide +kernel
theorem dX3_setOrder_11 : decode cX3_setOrder 11 = .ok (.iadd, 1) := by decide +kernel
theorem dX3_setOrder_12 : decode cX3_setOrder 12 = .ok (.invokevirtual 66, 3) := by decide +kernel
theorem dX3_setOrder_15 : decode cX3_setOrder 15 = .ok (.istore 4, 2) := by decide +kernel
theorem dX3_setOrder_17 : decode cX3_setOrder 17 = .ok (.iload_n 3, 1) := by decide +kernel
theorem dX3_setOrder_18 : decode cX3_setOrder 18 = .ok (.iconst 1, 1) := by decide +kernel
theorem dX3_setOrder_19 : decode cX3_setOrder 19 = .ok (.if_icmp .lt 14, 3) := by decide +kernel
theorem dX3_setOrder_22 : decode cX3_setOrder 22 = .ok (.iload_n 3, 1) := by decide +kernel
theorem dX3_setOrder_23 : decode cX3_setOrder 23 = .ok (.iconst 4, 1) := by decide +kernel
theorem dX3_setOrder_24 : decode cX3_setOrder 24 = .ok (.if_icmp .gt 9, 3) := by decide +kernel
theorem dX3_setOrder_27 : decode cX3_setOrder 27 = .ok (.iload 4, 2) := by decide +kernel
theorem dX3_setOrder_29 : decode cX3_setOrder 29 = .ok (.iconst 4, 1) := by decide +kernel
theorem dX3_setOrder_30 : decode cX3_setOrder 30 = .ok (.if_icmp .le 5, 3) := by decide +kernel
theorem dX3_setOrder_33 : decode cX3_setOrder 33 = .ok (.iconst 0, 1) := by decide +kernel
theorem dX3_setOrder_34 : decode cX3_setOrder 34 = .ok (.ireturn, 1) := by decide +kernel
theorem dX3_setOrder_35 : decode cX3_setOrder 35 = .ok (.aload_n 1, 1) := by decide +kernel
theorem dX3_setOrder_36 : decode cX3_setOrder 36 = .ok (.iload_n 3, 1) := by decide +kernel
theorem dX3_setOrder_37 : decode cX3_setOrder 37 = .ok (.putfield 91, 3) := by decide +kernel
theorem dX3_setOrder_40 : decode cX3_setOrder 40 = .ok (.aload_n 1, 1) := by decide +kernel
theorem dX3_setOrder_41 : decode cX3_setOrder 41 = .ok (.iload 4, 2) := by decide +kernel
theorem dX3_setOrder_43 : decode cX3_setOrder 43 = .ok (.putfield 94, 3) := by decide +kernel
theorem dX3_setOrder_46 : decode cX3_setOrder 46 = .ok (.iconst 1, 1) := by decide +kernel
theorem dX3_setOrder_47 : decode cX3_setOrder 47 = .ok (.ireturn, 1) := by decide +kernel
theorem dX3_setLaw_0 : decode cX3_setLaw 0 = .ok (.aload_n 0, 1) := by decide +kernel
theorem dX3_setLaw_1 : decode cX3_setLaw 1 = .ok (.iload_n 2, 1) := by decide +kernel
theorem dX3_setLaw_2 : decode cX3_setLaw 2 = .ok (.iconst 1, 1) := by decide +kernel
theorem dX3_setLaw_3 : decode cX3_setLaw 3 = .ok (.iadd, 1) := by decide +kernel
theorem dX3_setLaw_4 : decode cX3_setLaw 4 = .ok (.invokevirtual 66, 3) := by decide +kernel
theorem dX3_setLaw_7 : decode cX3_setLaw 7 = .ok (.istore_n 3, 1) := by decide +kernel
theorem dX3_setLaw_8 : decode cX3_setLaw 8 = .ok (.iload_n 3, 1) := by decide +kernel
theorem dX3_setLaw_9 : decode cX3_setLaw 9 = .ok (.invokestatic 97, 3) := by decide +kernel
theorem dX3_setLaw_12 : decode cX3_setLaw 12 = .ok (.ifCond .ne 5, 3) := by decide +kernel
theorem dX3_setLaw_15 : decode cX3_setLaw 15 = .ok (.iconst 0, 1) := by decide +kernel
theorem dX3_setLaw_16 : decode cX3_setLaw 16 = .ok (.ireturn, 1) := by decide +kernel
theorem dX3_setLaw_17 : decode cX3_setLaw 17 = .ok (.aload_n 1, 1) := by decide +kernel
theorem dX3_setLaw_18 : decode cX3_setLaw 18 = .ok (.iload_n 3, 1) := by decide +kernel
theorem dX3_setLaw_19 : decode cX3_setLaw 19 = .ok (.putfield 101, 3) := by decide +kernel
theorem dX3_setLaw_22 : decode cX3_setLaw 22 = .ok (.iconst 1, 1) := by decide +kernel
theorem dX3_setLaw_23 : decode cX3_setLaw 23 = .ok (.ireturn, 1) := by decide +kernel
theorem dX3_kindAt_0 : decode cX3_kindAt 0 = .ok (.iload_n 1, 1) := by decide +kernel
theorem dX3_kindAt_1 : decode cX3_kindAt 1 = .ok (.aload_n 0, 1) := by decide +kernel
theorem dX3_kindAt_2 : decode cX3_kindAt 2 = .ok (.getfield 15, 3) := by decide +kernel
theorem dX3_kindAt_5 : decode cX3_kindAt 5 = .ok (.if_icmp .ge 18, 3) := by decide +kernel
theorem dX3_kindAt_8 : decode cX3_kindAt 8 = .ok (.ldc 53, 2) := by decide +kernel
theorem dX3_kindAt_10 : decode cX3_kindAt 10 = .ok (.aload_n 0, 1) := by decide +kernel
theorem dX3_kindAt_11 : decode cX3_kindAt 11 = .ok (.getfield 11, 3) := by decide +kernel
theorem dX3_kindAt_14 : decode cX3_kindAt 14 = .ok (.iload_n 1, 1) := by decide +kernel
theorem dX3_kindAt_15 : decode cX3_kindAt 15 = .ok (.iaload, 1) := by decide +kernel
theorem dX3_kindAt_16 : decode cX3_kindAt 16 = .ok (.i2c, 1) := by decide +kernel
theorem dX3_kindAt_17 : decode cX3_kindAt 17 = .ok (.invokevirtual 55, 3) := by decide +kernel
theorem dX3_kindAt_20 : decode cX3_kindAt 20 = .ok (.goto 5, 3) := by decide +kernel
theorem dX3_kindAt_23 : decode cX3_kindAt 23 = .ok (.bipush (-9), 2) := by decide +kernel
theorem dX3_kindAt_25 : decode cX3_kindAt 25 = .ok (.ireturn, 1) := by decide +kernel
theorem dX3_digitAt_0 : decode cX3_digitAt 0 = .ok (.iload_n 1, 1) := by decide +kernel
theorem dX3_digitAt_1 : decode cX3_digitAt 1 = .ok (.aload_n 0, 1) := by decide +kernel
theorem dX3_digitAt_2 : decode cX3_digitAt 2 = .ok (.getfield 15, 3) := by decide +kernel
theorem dX3_digitAt_5 : decode cX3_digitAt 5 = .ok (.if_icmp .ge 15, 3) := by decide +kernel
theorem dX3_digitAt_8 : decode cX3_digitAt 8 = .ok (.aload_n 0, 1) := by decide +kernel
theorem dX3_digitAt_9 : decode cX3_digitAt 9 = .ok (.getfield 11, 3) := by decide +kernel
theorem dX3_digitAt_12 : decode cX3_digitAt 12 = .ok (.iload_n 1, 1) := by decide +kernel
theorem dX3_digitAt_13 : decode cX3_digitAt 13 = .ok (.iaload, 1) := by decide +kernel
theorem dX3_digitAt_14 : decode cX3_digitAt 14 = .ok (.bipush 48, 2) := by decide +kernel
theorem dX3_digitAt_16 : decode cX3_digitAt 16 = .ok (.isub, 1) := by decide +kernel
theorem dX3_digitAt_17 : decode cX3_digitAt 17 = .ok (.goto 5, 3) := by decide +kernel
theorem dX3_digitAt_20 : decode cX3_digitAt 20 = .ok (.bipush (-9), 2) := by decide +kernel
theorem dX3_digitAt_22 : decode cX3_digitAt 22 = .ok (.ireturn, 1) := by decide +kernel
theorem dX4_init_0 : decode cX4_init 0 = .ok (.aload_n 0, 1) := by decide +kernel
theorem dX4_init_1 : decode cX4_init 1 = .ok (.invokespecial 3, 3) := by decide +kernel
theorem dX4_init_4 : decode cX4_init 4 = .ok (.aload_n 0, 1) := by decide +kernel
theorem dX4_init_5 : decode cX4_init 5 = .ok (.iconst 2, 1) := by decide +kernel
theorem dX4_init_6 : decode cX4_init 6 = .ok (.newarray .int, 2) := by decide +kernel
theorem dX4_init_8 : decode cX4_init 8 = .ok (.putfield 9, 3) := by decide +kernel
theorem dX4_init_11 : decode cX4_init 11 = .ok (.aload_n 0, 1) := by decide +kernel
theorem dX4_init_12 : decode cX4_init 12 = .ok (.bipush 10, 2) := by decide +kernel
theorem dX4_init_14 : decode cX4_init 14 = .ok (.newarray .int, 2) := by decide +kernel
theorem dX4_init_16 : decode cX4_init 16 = .ok (.putfield 15, 3) := by decide +kernel
theorem dX4_init_19 : decode cX4_init 19 = .ok (.aload_n 0, 1) := by decide +kernel
theorem dX4_init_20 : decode cX4_init 20 = .ok (.bipush 10, 2) := by decide +kernel
theorem dX4_init_22 : decode cX4_init 22 = .ok (.newarray .int, 2) := by decide +kernel
theorem dX4_init_24 : decode cX4_init 24 = .ok (.putfield 18, 3) := by decide +kernel
theorem dX4_init_27 : decode cX4_init 27 = .ok (.aload_n 0, 1) := by decide +kernel
theorem dX4_init_28 : decode cX4_init 28 = .ok (.bipush 100, 2) := by decide +kernel
theorem dX4_init_30 : decode cX4_init 30 = .ok (.newarray .int, 2) := by decide +kernel
theorem dX4_init_32 : decode cX4_init 32 = .ok (.putfield 21, 3) := by decide +kernel
theorem dX4_init_35 : decode cX4_init 35 = .ok (.aload_n 0, 1) := by decide +kernel
theorem dX4_init_36 : decode cX4_init 36 = .ok (.iconst 1, 1) := by decide +kernel
theorem dX4_init_37 : decode cX4_init 37 = .ok (.putfield 24, 3) := by decide +kernel
theorem dX4_init_40 : decode cX4_init 40 = .ok (.aload_n 0, 1) := by decide +kernel
theorem dX4_init_41 : decode cX4_init 41 = .ok (.iconst 0, 1) := by decide +kernel
theorem dX4_init_42 : decode cX4_init 42 = .ok (.putfield 28, 3) := by decide +kernel
theorem dX4_init_45 : decode cX4_init 45 = .ok (.aload_n 0, 1) := by decide +kernel
theorem dX4_init_46 : decode cX4_init 46 = .ok (.iconst 0, 1) := by decide +kernel
theorem dX4_init_47 : decode cX4_init 47 = .ok (.putfield 31, 3) := by decide +kernel
theorem dX4_init_50 : decode cX4_init 50 = .ok (.return_, 1) := by decide +kernel
theorem dX4_become_0 : decode cX4_become 0 = .ok (.aload_n 1, 1) := by decide +kernel
theorem dX4_become_1 : decode cX4_become 1 = .ok (.getfield 9, 3) := by decide +kernel
theorem dX4_become_4 : decode cX4_become 4 = .ok (.iconst 0, 1) := by decide +kernel
theorem dX4_become_5 : decode cX4_become 5 = .ok (.aload_n 0, 1) := by decide +kernel
theorem dX4_become_6 : decode cX4_become 6 = .ok (.getfield 9, 3) := by decide +kernel
theorem dX4_become_9 : decode cX4_become 9 = .ok (.iconst 0, 1) := by decide +kernel
theorem dX4_become_10 : decode cX4_become 10 = .ok (.aload_n 0, 1) := by decide +kernel
theorem dX4_become_11 : decode cX4_become 11 = .ok (.getfield 9, 3) := by decide +kernel
theorem dX4_become_14 : decode cX4_become 14 = .ok (.arraylength, 1) := by decide +kernel
theorem dX4_become_15 : decode cX4_become 15 = .ok (.invokestatic 34, 3) := by decide +kernel
theorem dX4_become_18 : decode cX4_become 18 = .ok (.aload_n 1, 1) := by decide +kernel
theorem dX4_become_19 : decode cX4_become 19 = .ok (.getfield 15, 3) := by decide +kernel
theorem dX4_become_22 : decode cX4_become 22 = .ok (.iconst 0, 1) := by decide +kernel
theorem dX4_become_23 : decode cX4_become 23 = .ok (.aload_n 0, 1) := by decide +kernel
theorem dX4_become_24 : decode cX4_become 24 = .ok (.getfield 15, 3) := by decide +kernel
theorem dX4_become_27 : decode cX4_become 27 = .ok (.iconst 0, 1) := by decide +kernel
theorem dX4_become_28 : decode cX4_become 28 = .ok (.aload_n 0, 1) := by decide +kernel
theorem dX4_become_29 : decode cX4_become 29 = .ok (.getfield 15, 3) := by decide +kernel
theorem dX4_become_32 : decode cX4_become 32 = .ok (.arraylength, 1) := by decide +kernel
theorem dX4_become_33 : decode cX4_become 33 = .ok (.invokestatic 34, 3) := by decide +kernel
theorem dX4_become_36 : decode cX4_become 36 = .ok (.aload_n 1, 1) := by decide +kernel
theorem dX4_become_37 : decode cX4_become 37 = .ok (.getfield 18, 3) := by decide +kernel
theorem dX4_become_40 : decode cX4_become 40 = .ok (.iconst 0, 1) := by decide +kernel
theorem dX4_become_41 : decode cX4_become 41 = .ok (.aload_n 0, 1) := by decide +kernel
theorem dX4_become_42 : decode cX4_become 42 = .ok (.getfield 18, 3) := by decide +kernel
theorem dX4_become_45 : decode cX4_become 45 = .ok (.iconst 0, 1) := by decide +kernel
theorem dX4_become_46 : decode cX4_become 46 = .ok (.aload_n 0, 1) := by decide +kernel
theorem dX4_become_47 : decode cX4_become 47 = .ok (.getfield 18, 3) := by decide +kernel
theorem dX4_become_50 : decode cX4_become 50 = .ok (.arraylength, 1) := by decide +kernel
theorem dX4_become_51 : decode cX4_become 51 = .ok (.invokestatic 34, 3) := by decide +kernel
theorem dX4_become_54 : decode cX4_become 54 = .ok (.aload_n 1, 1) := by decide +kernel
theorem dX4_become_55 : decode cX4_become 55 = .ok (.getfield 21, 3) := by decide +kernel
theorem dX4_become_58 : decode cX4_become 58 = .ok (.iconst 0, 1) := by decide +kernel
theorem dX4_become_59 : decode cX4_become 59 = .ok (.aload_n 0, 1) := by decide +kernel
theorem dX4_become_60 : decode cX4_become 60 = .ok (.getfield 21, 3) := by decide +kernel
theorem dX4_become_63 : decode cX4_become 63 = .ok (.iconst 0, 1) := by decide +kernel
theorem dX4_become_64 : decode cX4_become 64 = .ok (.aload_n 0, 1) := by decide +kernel
theorem dX4_become_65 : decode cX4_become 65 = .ok (.getfield 21, 3) := by decide +kernel
theorem dX4_become_68 : decode cX4_become 68 = .ok (.arraylength, 1) := by decide +kernel
theorem dX4_become_69 : decode cX4_become 69 = .ok (.invokestatic 34, 3) := by decide +kernel
theorem dX4_become_72 : decode cX4_become 72 = .ok (.aload_n 0, 1) := by decide +kernel
theorem dX4_become_73 : decode cX4_become 73 = .ok (.aload_n 1, 1) := by decide +kernel
theorem dX4_become_74 : decode cX4_become 74 = .ok (.getfield 24, 3) := by decide +kernel
theorem dX4_become_77 : decode cX4_become 77 = .ok (.putfield 24, 3) := by decide +kernel
theorem dX4_become_80 : decode cX4_become 80 = .ok (.aload_n 0, 1) := by decide +kernel
theorem dX4_become_81 : decode cX4_become 81 = .ok (.aload_n 1, 1) := by decide +kernel
theorem dX4_become_82 : decode cX4_become 82 = .ok (.getfield 28, 3) := by decide +kernel
theorem dX4_become_85 : decode cX4_become 85 = .ok (.putfield 28, 3) := by decide +kernel
theorem dX4_become_88 : decode cX4_become 88 = .ok (.aload_n 0, 1) := by decide +kernel
theorem dX4_become_89 : decode cX4_become 89 = .ok (.aload_n 1, 1) := by decide +kernel
theorem dX4_become_90 : decode cX4_become 90 = .ok (.getfield 31, 3) := by decide +kernel
theorem dX4_become_93 : decode cX4_become 93 = .ok (.putfield 31, 3) := by decide +kernel
theorem dX4_become_96 : decode cX4_become 96 = .ok (.return_, 1) := by decide +kernel
theorem dX4_isThere_0 : decode cX4_isThere 0 = .ok (.iload_n 1, 1) := by decide +kernel
theorem dX4_isThere_1 : decode cX4_isThere 1 = .ok (.ifCond .lt 28, 3) := by decide +kernel
theorem dX4_isThere_4 : decode cX4_isThere 4 = .ok (.iload_n 1, 1) := by decide +kernel
theorem dX4_isThere_5 : decode cX4_isThere 5 = .ok (.bipush 10, 2) := by decide +kernel
theorem dX4_isThere_7 : decode cX4_isThere 7 = .ok (.if_icmp .ge 22, 3) := by decide +kernel
theorem dX4_isThere_10 : decode cX4_isThere 10 = .ok (.iload_n 1, 1) := by decide +kernel
theorem dX4_isThere_11 : decode cX4_isThere 11 = .ok (.iconst 5, 1) := by decide +kernel
theorem dX4_isThere_12 : decode cX4_isThere 12 = .ok (.irem, 1) := by decide +kernel
theorem dX4_isThere_13 : decode cX4_isThere 13 = .ok (.aload_n 0, 1) := by decide +kernel
theorem dX4_isThere_14 : decode cX4_isThere 14 = .ok (.getfield 9, 3) := by decide +kernel
theorem dX4_isThere_17 : decode cX4_isThere 17 = .ok (.iload_n 1, 1) := by decide +kernel
theorem dX4_isThere_18 : decode cX4_isThere 18 = .ok (.invokestatic 40, 3) := by decide +kernel
theorem dX4_isThere_21 : decode cX4_isThere 21 = .ok (.iaload, 1) := by decide +kernel
theorem dX4_isThere_22 : decode cX4_isThere 22 = .ok (.if_icmp .ge 7, 3) := by decide +kernel
theorem dX4_isThere_25 : decode cX4_isThere 25 = .ok (.iconst 1, 1) := by decide +kernel
theorem dX4_isThere_26 : decode cX4_isThere 26 = .ok (.goto 4, 3) := by decide +kernel
theorem dX4_isThere_29 : decode cX4_isThere 29 = .ok (.iconst 0, 1) := by decide +kernel
theorem dX4_isThere_30 : decode cX4_isThere 30 = .ok (.ireturn, 1) := by decide +kernel
theorem dX4_areUnlike_0 : decode cX4_areUnlike 0 = .ok (.aload_n 0, 1) := by decide +kernel
theorem dX4_areUnlike_1 : decode cX4_areUnlike 1 = .ok (.iload_n 1, 1) := by decide +kernel
theorem dX4_areUnlike_2 : decode cX4_areUnlike 2 = .ok (.invokevirtual 44, 3) := by decide +kernel
theorem dX4_areUnlike_5 : decode cX4_areUnlike 5 = .ok (.ifCond .eq 26, 3) := by decide +kernel
theorem dX4_areUnlike_8 : decode cX4_areUnlike 8 = .ok (.aload_n 0, 1) := by decide +kernel
theorem dX4_areUnlike_9 : decode cX4_areUnlike 9 = .ok (.iload_n 2, 1) := by decide +kernel
theorem dX4_areUnlike_10 : decode cX4_areUnlike 10 = .ok (.invokevirtual 44, 3) := by decide +kernel
theorem dX4_areUnlike_13 : decode cX4_areUnlike 13 = .ok (.ifCond .eq 18, 3) := by decide +kernel
theorem dX4_areUnlike_16 : decode cX4_areUnlike 16 = .ok (.iload_n 1, 1) := by decide +kernel
theorem dX4_areUnlike_17 : decode cX4_areUnlike 17 = .ok (.invokestatic 40, 3) := by decide +kernel
theorem dX4_areUnlike_20 : decode cX4_areUnlike 20 = .ok (.iload_n 2, 1) := by decide +kernel
theorem dX4_areUnlike_21 : decode cX4_areUnlike 21 = .ok (.invokestatic 40, 3) := by decide +kernel
theorem dX4_areUnlike_24 : decode cX4_areUnlike 24 = .ok (.if_icmp .eq 7, 3) := by decide +kernel
theorem dX4_areUnlike_27 : decode cX4_areUnlike 27 = .ok (.iconst 1, 1) := by decide +kernel
theorem dX4_areUnlike_28 : decode cX4_areUnlike 28 = .ok (.goto 4, 3) := by decide +kernel
theorem dX4_areUnlike_31 : decode cX4_areUnlike 31 = .ok (.iconst 0, 1) := by decide +kernel
theorem dX4_areUnlike_32 : decode cX4_areUnlike 32 = .ok (.ireturn, 1) := by decide +kernel
theorem dX4_howManyPeople_0 : decode cX4_howManyPeople 0 = .ok (.aload_n 0, 1) := by decide +kernel
theorem dX4_howManyPeople_1 : decode cX4_howManyPeople 1 = .ok (.getfield 9, 3) := by decide +kernel
theorem dX4_howManyPeople_4 : decode cX4_howManyPeople 4 = .ok (.iconst 0, 1) := by decide +kernel
theorem dX4_howManyPeople_5 : decode cX4_howManyPeople 5 = .ok (.iaload, 1) := by decide +kernel
theorem dX4_howManyPeople_6 : decode cX4_howManyPeople 6 = .ok (.aload_n 0, 1) := by decide +kernel
theorem dX4_howManyPeople_7 : decode cX4_howManyPeople 7 = .ok (.getfield 9, 3) := by decide +kernel
theorem dX4_howManyPeople_10 : decode cX4_howManyPeople 10 = .ok (.iconst 1, 1) := by decide +kernel
theorem dX4_howManyPeople_11 : decode cX4_howManyPeople 11 = .ok (.iaload, 1) := by decide +kernel
theorem dX4_howManyPeople_12 : decode cX4_howManyPeople 12 = .ok (.iadd, 1) := by decide +kernel
theorem dX4_howManyPeople_13 : decode cX4_howManyPeople 13 = .ok (.ireturn, 1) := by decide +kernel
theorem dX4_howManyFacing_0 : decode cX4_howManyFacing 0 = .ok (.aload_n 0, 1) := by decide +kernel
theorem dX4_howManyFacing_1 : decode cX4_howManyFacing 1 = .ok (.getfield 9, 3) := by decide +kernel
theorem dX4_howManyFacing_4 : decode cX4_howManyFacing 4 = .ok (.iconst 1, 1) := by decide +kernel
theorem dX4_howManyFacing_5 : decode cX4_howManyFacing 5 = .ok (.iload_n 1, 1) := by decide +kernel
theorem dX4_howManyFacing_6 : decode cX4_howManyFacing 6 = .ok (.invokestatic 40, 3) := by decide +kernel
theorem dX4_howManyFacing_9 : decode cX4_howManyFacing 9 = .ok (.isub, 1) := by decide +kernel
theorem dX4_howManyFacing_10 : decode cX4_howManyFacing 10 = .ok (.iaload, 1) := by decide +kernel
theorem dX4_howManyFacing_11 : decode cX4_howManyFacing 11 = .ok (.ireturn, 1) := by decide +kernel
theorem dX4_rounds_0 : decode cX4_rounds 0 = .ok (.aload_n 0, 1) := by decide +kernel
theorem dX4_rounds_1 : decode cX4_rounds 1 = .ok (.getfield 9, 3) := by decide +kernel
theorem dX4_rounds_4 : decode cX4_rounds 4 = .ok (.iconst 0, 1) := by decide +kernel
theorem dX4_rounds_5 : decode cX4_rounds 5 = .ok (.iaload, 1) := by decide +kernel
theorem dX4_rounds_6 : decode cX4_rounds 6 = .ok (.aload_n 0, 1) := by decide +kernel
theorem dX4_rounds_7 : decode cX4_rounds 7 = .ok (.getfield 9, 3) := by decide +kernel
theorem dX4_rounds_10 : decode cX4_rounds 10 = .ok (.iconst 1, 1) := by decide +kernel
theorem dX4_rounds_11 : decode cX4_rounds 11 = .ok (.iaload, 1) := by decide +kernel
theorem dX4_rounds_12 : decode cX4_rounds 12 = .ok (.invokestatic 48, 3) := by decide +kernel
theorem dX4_rounds_15 : decode cX4_rounds 15 = .ok (.ireturn, 1) := by decide +kernel
theorem dX4_isRound_0 : decode cX4_isRound 0 = .ok (.iload_n 1, 1) := by decide +kernel
theorem dX4_isRound_1 : decode cX4_isRound 1 = .ok (.ifCond .lt 15, 3) := by decide +kernel
theorem dX4_isRound_4 : decode cX4_isRound 4 = .ok (.iload_n 1, 1) := by decide +kernel
theorem dX4_isRound_5 : decode cX4_isRound 5 = .ok (.aload_n 0, 1) := by decide +kernel
theorem dX4_isRound_6 : decode cX4_isRound 6 = .ok (.invokevirtual 54, 3) := by decide +kernel
theorem dX4_isRound_9 : decode cX4_isRound 9 = .ok (.if_icmp .ge 7, 3) := by decide +kernel
theorem dX4_isRound_12 : decode cX4_isRound 12 = .ok (.iconst 1, 1) := by decide +kernel
theorem dX4_isRound_13 : decode cX4_isRound 13 = .ok (.goto 4, 3) := by decide +kernel
theorem dX4_isRound_16 : decode cX4_isRound 16 = .ok (.iconst 0, 1) := by decide +kernel
theorem dX4_isRound_17 : decode cX4_isRound 17 = .ok (.ireturn, 1) := by decide +kernel
theorem dX4_likes_0 : decode cX4_likes 0 = .ok (.aload_n 0, 1) := by decide +kernel
theorem dX4_likes_1 : decode cX4_likes 1 = .ok (.getfield 21, 3) := by decide +kernel
theorem dX4_likes_4 : decode cX4_likes 4 = .ok (.iload_n 1, 1) := by decide +kernel
theorem dX4_likes_5 : decode cX4_likes 5 = .ok (.bipush 10, 2) := by decide +kernel
theorem dX4_likes_7 : decode cX4_likes 7 = .ok (.imul, 1) := by decide +kernel
theorem dX4_likes_8 : decode cX4_likes 8 = .ok (.iload_n 2, 1) := by decide +kernel
theorem dX4_likes_9 : decode cX4_likes 9 = .ok (.iadd, 1) := by decide +kernel
theorem dX4_likes_10 : decode cX4_likes 10 = .ok (.iaload, 1) := by decide +kernel
theorem dX4_likes_11 : decode cX4_likes 11 = .ok (.ireturn, 1) := by decide +kernel
theorem dX4_setLiking_0 : decode cX4_setLiking 0 = .ok (.aload_n 0, 1) := by decide +kernel
theorem dX4_setLiking_1 : decode cX4_setLiking 1 = .ok (.getfield 21, 3) := by decide +kernel
theorem dX4_setLiking_4 : decode cX4_setLiking 4 = .ok (.iload_n 1, 1) := by decide +kernel
theorem dX4_setLiking_5 : decode cX4_setLiking 5 = .ok (.bipush 10, 2) := by decide +kernel
theorem dX4_setLiking_7 : decode cX4_setLiking 7 = .ok (.imul, 1) := by decide +kernel
theorem dX4_setLiking_8 : decode cX4_setLiking 8 = .ok (.iload_n 2, 1) := by decide +kernel
theorem dX4_setLiking_9 : decode cX4_setLiking 9 = .ok (.iadd, 1) := by decide +kernel
theorem dX4_setLiking_10 : decode cX4_setLiking 10 = .ok (.iload_n 3, 1) := by decide +kernel
theorem dX4_setLiking_11 : decode cX4_setLiking 11 = .ok (.iastore, 1) := by decide +kernel
theorem dX4_setLiking_12 : decode cX4_setLiking 12 = .ok (.return_, 1) := by decide +kernel
theorem dX4_addPerson_0 : decode cX4_addPerson 0 = .ok (.aload_n 0, 1) := by decide +kernel
theorem dX4_addPerson_1 : decode cX4_addPerson 1 = .ok (.getfield 9, 3) := by decide +kernel
theorem dX4_addPerson_4 : decode cX4_addPerson 4 = .ok (.iload_n 1, 1) := by decide +kernel
theorem dX4_addPerson_5 : decode cX4_addPerson 5 = .ok (.iaload, 1) := by decide +kernel
theorem dX4_addPerson_6 : decode cX4_addPerson 6 = .ok (.iconst 5, 1) := by decide +kernel
theorem dX4_addPerson_7 : decode cX4_addPerson 7 = .ok (.if_icmp .lt 5, 3) := by decide +kernel
theorem dX4_addPerson_10 : decode cX4_addPerson 10 = .ok (.iconst 0, 1) := by decide +kernel
theorem dX4_addPerson_11 : decode cX4_addPerson 11 = .ok (.ireturn, 1) := by decide +kernel
theorem dX4_addPerson_12 : decode cX4_addPerson 12 = .ok (.iload_n 1, 1) := by decide +kernel
theorem dX4_addPerson_13 : decode cX4_addPerson 13 = .ok (.iconst 5, 1) := by decide +kernel
theorem dX4_addPerson_14 : decode cX4_addPerson 14 = .ok (.imul, 1) := by decide +kernel
theorem dX4_addPerson_15 : decode cX4_addPerson 15 = .ok (.aload_n 0, 1) := by decide +kernel
theorem dX4_addPerson_16 : decode cX4_addPerson 16 = .ok (.getfield 9, 3) := by decide +kernel
theorem dX4_addPerson_19 : decode cX4_addPerson 19 = .ok (.iload_n 1, 1) := by decide +kernel
theorem dX4_addPerson_20 : decode cX4_addPerson 20 = .ok (.iaload, 1) := by decide +kernel
theorem dX4_addPerson_21 : decode cX4_addPerson 21 = .ok (.iadd, 1) := by decide +kernel
theorem dX4_addPerson_22 : decode cX4_addPerson 22 = .ok (.istore 4, 2) := by decide +kernel
theorem dX4_addPerson_24 : decode cX4_addPerson 24 = .ok (.aload_n 0, 1) := by decide +kernel
theorem dX4_addPerson_25 : decode cX4_addPerson 25 = .ok (.getfield 9, 3) := by decide +kernel
theorem dX4_addPerson_28 : decode cX4_addPerson 28 = .ok (.iload_n 1, 1) := by decide +kernel
theorem dX4_addPerson_29 : decode cX4_addPerson 29 = .ok (.dup2, 1) := by decide +kernel
theorem dX4_addPerson_30 : decode cX4_addPerson 30 = .ok (.iaload, 1) := by decide +kernel
theorem dX4_addPerson_31 : decode cX4_addPerson 31 = .ok (.iconst 1, 1) := by decide +kernel
theorem dX4_addPerson_32 : decode cX4_addPerson 32 = .ok (.iadd, 1) := by decide +kernel
theorem dX4_addPerson_33 : decode cX4_addPerson 33 = .ok (.iastore, 1) := by decide +kernel
theorem dX4_addPerson_34 : decode cX4_addPerson 34 = .ok (.aload_n 0, 1) := by decide +kernel
theorem dX4_addPerson_35 : decode cX4_addPerson 35 = .ok (.getfield 15, 3) := by decide +kernel
theorem dX4_addPerson_38 : decode cX4_addPerson 38 = .ok (.iload 4, 2) := by decide +kernel
theorem dX4_addPerson_40 : decode cX4_addPerson 40 = .ok (.iload_n 2, 1) := by decide +kernel
theorem dX4_addPerson_41 : decode cX4_addPerson 41 = .ok (.iastore, 1) := by decide +kernel
theorem dX4_addPerson_42 : decode cX4_addPerson 42 = .ok (.aload_n 0, 1) := by decide +kernel
theorem dX4_addPerson_43 : decode cX4_addPerson 43 = .ok (.getfield 18, 3) := by decide +kernel
theorem dX4_addPerson_46 : decode cX4_addPerson 46 = .ok (.iload 4, 2) := by decide +kernel
theorem dX4_addPerson_48 : decode cX4_addPerson 48 = .ok (.iload_n 3, 1) := by decide +kernel
theorem dX4_addPerson_49 : decode cX4_addPerson 49 = .ok (.iastore, 1) := by decide +kernel
theorem dX4_addPerson_50 : decode cX4_addPerson 50 = .ok (.iconst 0, 1) := by decide +kernel
theorem dX4_addPerson_51 : decode cX4_addPerson 51 = .ok (.istore 5, 2) := by decide +kernel
theorem dX4_addPerson_53 : decode cX4_addPerson 53 = .ok (.iload 5, 2) := by decide +kernel
theorem dX4_addPerson_55 : decode cX4_addPerson 55 = .ok (.bipush 10, 2) := by decide +kernel
theorem dX4_addPerson_57 : decode cX4_addPerson 57 = .ok (.if_icmp .ge 27, 3) := by decide +kernel
theorem dX4_addPerson_60 : decode cX4_addPerson 60 = .ok (.aload_n 0, 1) := by decide +kernel
theorem dX4_addPerson_61 : decode cX4_addPerson 61 = .ok (.iload 4, 2) := by decide +kernel
theorem dX4_addPerson_63 : decode cX4_addPerson 63 = .ok (.iload 5, 2) := by decide +kernel
theorem dX4_addPerson_65 : decode cX4_addPerson 65 = .ok (.iconst 5, 1) := by decide +kernel
theorem dX4_addPerson_66 : decode cX4_addPerson 66 = .ok (.invokevirtual 58, 3) := by decide +kernel
theorem dX4_addPerson_69 : decode cX4_addPerson 69 = .ok (.aload_n 0, 1) := by decide +kernel
theorem dX4_addPerson_70 : decode cX4_addPerson 70 = .ok (.iload 5, 2) := by decide +kernel
theorem dX4_addPerson_72 : decode cX4_addPerson 72 = .ok (.iload 4, 2) := by decide +kernel
theorem dX4_addPerson_74 : decode cX4_addPerson 74 = .ok (.iconst 5, 1) := by decide +kernel
theorem dX4_addPerson_75 : decode cX4_addPerson 75 = .ok (.invokevirtual 58, 3) := by decide +kernel
theorem dX4_addPerson_78 : decode cX4_addPerson 78 = .ok (.iinc 5 1, 3) := by decide +kernel
theorem dX4_addPerson_81 : decode cX4_addPerson 81 = .ok (.goto (-28), 3) := by decide +kernel
theorem dX4_addPerson_84 : decode cX4_addPerson 84 = .ok (.iconst 1, 1) := by decide +kernel
theorem dX4_addPerson_85 : decode cX4_addPerson 85 = .ok (.ireturn, 1) := by decide +kernel
theorem dX4_drawLikings_0 : decode cX4_drawLikings 0 = .ok (.iload_n 1, 1) := by decide +kernel
theorem dX4_drawLikings_1 : decode cX4_drawLikings 1 = .ok (.istore_n 2, 1) := by decide +kernel
theorem dX4_drawLikings_2 : decode cX4_drawLikings 2 = .ok (.iconst 0, 1) := by decide +kernel
theorem dX4_drawLikings_3 : decode cX4_drawLikings 3 = .ok (.istore_n 3, 1) := by decide +kernel
theorem dX4_drawLikings_4 : decode cX4_drawLikings 4 = .ok (.iload_n 3, 1) := by decide +kernel
theorem dX4_drawLikings_5 : decode cX4_drawLikings 5 = .ok (.bipush 10, 2) := by decide +kernel
theorem dX4_drawLikings_7 : decode cX4_drawLikings 7 = .ok (.if_icmp .ge 70, 3) := by decide +kernel
theorem dX4_drawLikings_10 : decode cX4_drawLikings 10 = .ok (.aload_n 0, 1) := by decide +kernel
theorem dX4_drawLikings_11 : decode cX4_drawLikings 11 = .ok (.iload_n 3, 1) := by decide +kernel
theorem dX4_drawLikings_12 : decode cX4_drawLikings 12 = .ok (.invokevirtual 44, 3) := by decide +kernel
theorem dX4_drawLikings_15 : decode cX4_drawLikings 15 = .ok (.ifCond .ne 6, 3) := by decide +kernel
theorem dX4_drawLikings_18 : decode cX4_drawLikings 18 = .ok (.goto 53, 3) := by decide +kernel
theorem dX4_drawLikings_21 : decode cX4_drawLikings 21 = .ok (.iconst 0, 1) := by decide +kernel
theorem dX4_drawLikings_22 : decode cX4_drawLikings 22 = .ok (.istore 4, 2) := by decide +kernel
theorem dX4_drawLikings_24 : decode cX4_drawLikings 24 = .ok (.iload 4, 2) := by decide +kernel
theorem dX4_drawLikings_26 : decode cX4_drawLikings 26 = .ok (.aload_n 0, 1) := by decide +kernel
theorem dX4_drawLikings_27 : decode cX4_drawLikings 27 = .ok (.iload_n 3, 1) := by decide +kernel
theorem dX4_drawLikings_28 : decode cX4_drawLikings 28 = .ok (.invokevirtual 62, 3) := by decide +kernel
theorem dX4_drawLikings_31 : decode cX4_drawLikings 31 = .ok (.if_icmp .ge 40, 3) := by decide +kernel
theorem dX4_drawLikings_34 : decode cX4_drawLikings 34 = .ok (.iload_n 2, 1) := by decide +kernel
theorem dX4_drawLikings_35 : decode cX4_drawLikings 35 = .ok (.ldc 65, 2) := by decide +kernel
theorem dX4_drawLikings_37 : decode cX4_drawLikings 37 = .ok (.imul, 1) := by decide +kernel
theorem dX4_drawLikings_38 : decode cX4_drawLikings 38 = .ok (.ldc 66, 2) := by decide +kernel
theorem dX4_drawLikings_40 : decode cX4_drawLikings 40 = .ok (.iadd, 1) := by decide +kernel
theorem dX4_drawLikings_41 : decode cX4_drawLikings 41 = .ok (.istore_n 2, 1) := by decide +kernel
theorem dX4_drawLikings_42 : decode cX4_drawLikings 42 = .ok (.aload_n 0, 1) := by decide +kernel
theorem dX4_drawLikings_43 : decode cX4_drawLikings 43 = .ok (.iload_n 3, 1) := by decide +kernel
theorem dX4_drawLikings_44 : decode cX4_drawLikings 44 = .ok (.iload_n 3, 1) := by decide +kernel
theorem dX4_drawLikings_45 : decode cX4_drawLikings 45 = .ok (.invokestatic 67, 3) := by decide +kernel
theorem dX4_drawLikings_48 : decode cX4_drawLikings 48 = .ok (.iload 4, 2) := by decide +kernel
theorem dX4_drawLikings_50 : decode cX4_drawLikings 50 = .ok (.iadd, 1) := by decide +kernel
theorem dX4_drawLikings_51 : decode cX4_drawLikings 51 = .ok (.iload_n 2, 1) := by decide +kernel
theorem dX4_drawLikings_52 : decode cX4_drawLikings 52 = .ok (.ldc 70, 2) := by decide +kernel
theorem dX4_drawLikings_54 : decode cX4_drawLikings 54 = .ok (.iand, 1) := by decide +kernel
theorem dX4_drawLikings_55 : decode cX4_drawLikings 55 = .ok (.sipush 256, 3) := by decide +kernel
theorem dX4_drawLikings_58 : decode cX4_drawLikings 58 = .ok (.idiv, 1) := by decide +kernel
theorem dX4_drawLikings_59 : decode cX4_drawLikings 59 = .ok (.bipush 10, 2) := by decide +kernel
theorem dX4_drawLikings_61 : decode cX4_drawLikings 61 = .ok (.irem, 1) := by decide +kernel
theorem dX4_drawLikings_62 : decode cX4_drawLikings 62 = .ok (.invokevirtual 58, 3) := by decide +kernel
theorem dX4_drawLikings_65 : decode cX4_drawLikings 65 = .ok (.iinc 4 1, 3) := by decide +kernel
theorem dX4_drawLikings_68 : decode cX4_drawLikings 68 = .ok (.goto (-44), 3) := by decide +kernel
theorem dX4_drawLikings_71 : decode cX4_drawLikings 71 = .ok (.iinc 3 1, 3) := by decide +kernel
theorem dX4_drawLikings_74 : decode cX4_drawLikings 74 = .ok (.goto (-70), 3) := by decide +kernel
theorem dX4_drawLikings_77 : decode cX4_drawLikings 77 = .ok (.iload_n 2, 1) := by decide +kernel
theorem dX4_drawLikings_78 : decode cX4_drawLikings 78 = .ok (.ireturn, 1) := by decide +kernel
theorem dX5_init_0 : decode cX5_init 0 = .ok (.aload_n 0, 1) := by decide +kernel
theorem dX5_init_1 : decode cX5_init 1 = .ok (.invokespecial 1, 3) := by decide +kernel
theorem dX5_init_4 : decode cX5_init 4 = .ok (.aload_n 0, 1) := by decide +kernel
theorem dX5_init_5 : decode cX5_init 5 = .ok (.new 7, 3) := by decide +kernel
theorem dX5_init_8 : decode cX5_init 8 = .ok (.dup, 1) := by decide +kernel
theorem dX5_init_9 : decode cX5_init 9 = .ok (.invokespecial 9, 3) := by decide +kernel
theorem dX5_init_12 : decode cX5_init 12 = .ok (.putfield 10, 3) := by decide +kernel
theorem dX5_init_15 : decode cX5_init 15 = .ok (.aload_n 0, 1) := by decide +kernel
theorem dX5_init_16 : decode cX5_init 16 = .ok (.new 7, 3) := by decide +kernel
theorem dX5_init_19 : decode cX5_init 19 = .ok (.dup, 1) := by decide +kernel
theorem dX5_init_20 : decode cX5_init 20 = .ok (.invokespecial 9, 3) := by decide +kernel
theorem dX5_init_23 : decode cX5_init 23 = .ok (.putfield 16, 3) := by decide +kernel
theorem dX5_init_26 : decode cX5_init 26 = .ok (.aload_n 0, 1) := by decide +kernel
theorem dX5_init_27 : decode cX5_init 27 = .ok (.new 7, 3) := by decide +kernel
theorem dX5_init_30 : decode cX5_init 30 = .ok (.dup, 1) := by decide +kernel
theorem dX5_init_31 : decode cX5_init 31 = .ok (.invokespecial 9, 3) := by decide +kernel
theorem dX5_init_34 : decode cX5_init 34 = .ok (.putfield 19, 3) := by decide +kernel
theorem dX5_init_37 : decode cX5_init 37 = .ok (.aload_n 0, 1) := by decide +kernel
theorem dX5_init_38 : decode cX5_init 38 = .ok (.iconst 0, 1) := by decide +kernel
theorem dX5_init_39 : decode cX5_init 39 = .ok (.putfield 22, 3) := by decide +kernel
theorem dX5_init_42 : decode cX5_init 42 = .ok (.aload_n 0, 1) := by decide +kernel
theorem dX5_init_43 : decode cX5_init 43 = .ok (.new 26, 3) := by decide +kernel
theorem dX5_init_46 : decode cX5_init 46 = .ok (.dup, 1) := by decide +kernel
theorem dX5_init_47 : decode cX5_init 47 = .ok (.invokespecial 28, 3) := by decide +kernel
theorem dX5_init_50 : decode cX5_init 50 = .ok (.putfield 29, 3) := by decide +kernel
theorem dX5_init_53 : decode cX5_init 53 = .ok (.aload_n 0, 1) := by decide +kernel
theorem dX5_init_54 : decode cX5_init 54 = .ok (.new 33, 3) := by decide +kernel
theorem dX5_init_57 : decode cX5_init 57 = .ok (.dup, 1) := by decide +kernel
theorem dX5_init_58 : decode cX5_init 58 = .ok (.invokespecial 35, 3) := by decide +kernel
theorem dX5_init_61 : decode cX5_init 61 = .ok (.putfield 36, 3) := by decide +kernel
theorem dX5_init_64 : decode cX5_init 64 = .ok (.aload_n 0, 1) := by decide +kernel
theorem dX5_init_65 : decode cX5_init 65 = .ok (.new 40, 3) := by decide +kernel
theorem dX5_init_68 : decode cX5_init 68 = .ok (.dup, 1) := by decide +kernel
theorem dX5_init_69 : decode cX5_init 69 = .ok (.invokespecial 42, 3) := by decide +kernel
theorem dX5_init_72 : decode cX5_init 72 = .ok (.putfield 43, 3) := by decide +kernel
theorem dX5_init_75 : decode cX5_init 75 = .ok (.aload_n 0, 1) := by decide +kernel
theorem dX5_init_76 : decode cX5_init 76 = .ok (.new 47, 3) := by decide +kernel
theorem dX5_init_79 : decode cX5_init 79 = .ok (.dup, 1) := by decide +kernel
theorem dX5_init_80 : decode cX5_init 80 = .ok (.invokespecial 49, 3) := by decide +kernel
theorem dX5_init_83 : decode cX5_init 83 = .ok (.putfield 50, 3) := by decide +kernel
theorem dX5_init_86 : decode cX5_init 86 = .ok (.aload_n 0, 1) := by decide +kernel
theorem dX5_init_87 : decode cX5_init 87 = .ok (.bipush 10, 2) := by decide +kernel
theorem dX5_init_89 : decode cX5_init 89 = .ok (.newarray .int, 2) := by decide +kernel
theorem dX5_init_91 : decode cX5_init 91 = .ok (.putfield 54, 3) := by decide +kernel
theorem dX5_init_94 : decode cX5_init 94 = .ok (.aload_n 0, 1) := by decide +kernel
theorem dX5_init_95 : decode cX5_init 95 = .ok (.iconst 0, 1) := by decide +kernel
theorem dX5_init_96 : decode cX5_init 96 = .ok (.putfield 58, 3) := by decide +kernel
theorem dX5_init_99 : decode cX5_init 99 = .ok (.aload_n 0, 1) := by decide +kernel
theorem dX5_init_100 : decode cX5_init 100 = .ok (.bipush 7, 2) := by decide +kernel
theorem dX5_init_102 : decode cX5_init 102 = .ok (.newarray .int, 2) := by decide +kernel
theorem dX5_init_104 : decode cX5_init 104 = .ok (.putfield 62, 3) := by decide +kernel
theorem dX5_init_107 : decode cX5_init 107 = .ok (.return_, 1) := by decide +kernel
theorem dX5_letter_0 : decode cX5_letter 0 = .ok (.iload_n 1, 1) := by decide +kernel
theorem dX5_letter_1 : decode cX5_letter 1 = .ok (.ifCond .ge 10, 3) := by decide +kernel
theorem dX5_letter_4 : decode cX5_letter 4 = .ok (.aload_n 0, 1) := by decide +kernel
theorem dX5_letter_5 : decode cX5_letter 5 = .ok (.bipush (-4), 2) := by decide +kernel
theorem dX5_letter_7 : decode cX5_letter 7 = .ok (.invokevirtual 65, 3) := by decide +kernel
theorem dX5_letter_10 : decode cX5_letter 10 = .ok (.ireturn, 1) := by decide +kernel
theorem dX5_letter_11 : decode cX5_letter 11 = .ok (.iload_n 1, 1) := by decide +kernel
theorem dX5_letter_12 : decode cX5_letter 12 = .ok (.sipush 255, 3) := by decide +kernel
theorem dX5_letter_15 : decode cX5_letter 15 = .ok (.if_icmp .gt 13, 3) := by decide +kernel
theorem dX5_letter_18 : decode cX5_letter 18 = .ok (.aload_n 0, 1) := by decide +kernel
theorem dX5_letter_19 : decode cX5_letter 19 = .ok (.getfield 29, 3) := by decide +kernel
theorem dX5_letter_22 : decode cX5_letter 22 = .ok (.invokevirtual 69, 3) := by decide +kernel
theorem dX5_letter_25 : decode cX5_letter 25 = .ok (.ifCond .eq 10, 3) := by decide +kernel
theorem dX5_letter_28 : decode cX5_letter 28 = .ok (.aload_n 0, 1) := by decide +kernel
theorem dX5_letter_29 : decode cX5_letter 29 = .ok (.bipush (-6), 2) := by decide +kernel
theorem dX5_letter_31 : decode cX5_letter 31 = .ok (.invokevirtual 65, 3) := by decide +kernel
theorem dX5_letter_34 : decode cX5_letter 34 = .ok (.ireturn, 1) := by decide +kernel
theorem dX5_letter_35 : decode cX5_letter 35 = .ok (.aload_n 0, 1) := by decide +kernel
theorem dX5_letter_36 : decode cX5_letter 36 = .ok (.getfield 29, 3) := by decide +kernel
theorem dX5_letter_39 : decode cX5_letter 39 = .ok (.iload_n 1, 1) := by decide +kernel
theorem dX5_letter_40 : decode cX5_letter 40 = .ok (.invokevirtual 73, 3) := by decide +kernel
theorem dX5_letter_43 : decode cX5_letter 43 = .ok (.ireturn, 1) := by decide +kernel
theorem dX5_evening_0 : decode cX5_evening 0 = .ok (.aload_n 0, 1) := by decide +kernel
theorem dX5_evening_1 : decode cX5_evening 1 = .ok (.getfield 29, 3) := by decide +kernel
theorem dX5_evening_4 : decode cX5_evening 4 = .ok (.invokevirtual 76, 3) := by decide +kernel
theorem dX5_evening_7 : decode cX5_evening 7 = .ok (.istore_n 1, 1) := by decide +kernel
theorem dX5_evening_8 : decode cX5_evening 8 = .ok (.iload_n 1, 1) := by decide +kernel
theorem dX5_evening_9 : decode cX5_evening 9 = .ok (.bipush (-9), 2) := by decide +kernel
theorem dX5_evening_11 : decode cX5_evening 11 = .ok (.if_icmp .eq 16, 3) := by decide +kernel
theorem dX5_evening_14 : decode cX5_evening 14 = .ok (.aload_n 0, 1) := by decide +kernel
theorem dX5_evening_15 : decode cX5_evening 15 = .ok (.getfield 29, 3) := by decide +kernel
theorem dX5_evening_18 : decode cX5_evening 18 = .ok (.invokevirtual 80, 3) := by decide +kernel
theorem dX5_evening_21 : decode cX5_evening 21 = .ok (.sipush (-1000), 3) := by decide +kernel
theorem dX5_evening_24 : decode cX5_evening 24 = .ok (.iload_n 1, 1) := by decide +kernel
theorem dX5_evening_25 : decode cX5_evening 25 = .ok (.isub, 1) := by decide +kernel
theorem dX5_evening_26 : decode cX5_evening 26 = .ok (.ireturn, 1) := by decide +kernel
theorem dX5_evening_27 : decode cX5_evening 27 = .ok (.aload_n 0, 1) := by decide +kernel
theorem dX5_evening_28 : decode cX5_evening 28 = .ok (.getfield 16, 3) := by decide +kernel
theorem dX5_evening_31 : decode cX5_evening 31 = .ok (.aload_n 0, 1) := by decide +kernel
theorem dX5_evening_32 : decode cX5_evening 32 = .ok (.getfield 10, 3) := by decide +kernel
theorem dX5_evening_35 : decode cX5_evening 35 = .ok (.invokevirtual 83, 3) := by decide +kernel
theorem dX5_evening_38 : decode cX5_evening 38 = .ok (.aload_n 0, 1) := by decide +kernel
theorem dX5_evening_39 : decode cX5_evening 39 = .ok (.getfield 29, 3) := by decide +kernel
theorem dX5_evening_42 : decode cX5_evening 42 = .ok (.aload_n 0, 1) := by decide +kernel
theorem dX5_evening_43 : decode cX5_evening 43 = .ok (.getfield 16, 3) := by decide +kernel
theorem dX5_evening_46 : decode cX5_evening 46 = .ok (.invokevirtual 87, 3) := by decide +kernel
theorem dX5_evening_49 : decode cX5_evening 49 = .ok (.istore_n 2, 1) := by decide +kernel
theorem dX5_evening_50 : decode cX5_evening 50 = .ok (.aload_n 0, 1) := by decide +kernel
theorem dX5_evening_51 : decode cX5_evening 51 = .ok (.getfield 29, 3) := by decide +kernel
theorem dX5_evening_54 : decode cX5_evening 54 = .ok (.invokevirtual 91, 3) := by decide +kernel
theorem dX5_evening_57 : decode cX5_evening 57 = .ok (.istore_n 3, 1) := by decide +kernel
theorem dX5_evening_58 : decode cX5_evening 58 = .ok (.aload_n 0, 1) := by decide +kernel
theorem dX5_evening_59 : decode cX5_evening 59 = .ok (.getfield 29, 3) := by decide +kernel
theorem dX5_evening_62 : decode cX5_evening 62 = .ok (.invokevirtual 80, 3) := by decide +kernel
theorem dX5_evening_65 : decode cX5_evening 65 = .ok (.iload_n 2, 1) := by decide +kernel
theorem dX5_evening_66 : decode cX5_evening 66 = .ok (.bipush (-9), 2) := by decide +kernel
theorem dX5_evening_68 : decode cX5_evening 68 = .ok (.if_icmp .eq 9, 3) := by decide +kernel
theorem dX5_evening_71 : decode cX5_evening 71 = .ok (.sipush (-2000), 3) := by decide +kernel
theorem dX5_evening_74 : decode cX5_evening 74 = .ok (.iload_n 2, 1) := by decide +kernel
theorem dX5_evening_75 : decode cX5_evening 75 = .ok (.isub, 1) := by decide +kernel
theorem dX5_evening_76 : decode cX5_evening 76 = .ok (.ireturn, 1) := by decide +kernel
theorem dX5_evening_77 : decode cX5_evening 77 = .ok (.aload_n 0, 1) := by decide +kernel
theorem dX5_evening_78 : decode cX5_evening 78 = .ok (.getfield 10, 3) := by decide +kernel
theorem dX5_evening_81 : decode cX5_evening 81 = .ok (.aload_n 0, 1) := by decide +kernel
theorem dX5_evening_82 : decode cX5_evening 82 = .ok (.getfield 16, 3) := by decide +kernel
theorem dX5_evening_85 : decode cX5_evening 85 = .ok (.invokevirtual 83, 3) := by decide +kernel
theorem dX5_evening_88 : decode cX5_evening 88 = .ok (.iload_n 3, 1) := by decide +kernel
theorem dX5_evening_89 : decode cX5_evening 89 = .ok (.ireturn, 1) := by decide +kernel
theorem dX5_person_0 : decode cX5_person 0 = .ok (.aload_n 0, 1) := by decide +kernel
theorem dX5_person_1 : decode cX5_person 1 = .ok (.getfield 10, 3) := by decide +kernel
theorem dX5_person_4 : decode cX5_person 4 = .ok (.iload_n 1, 1) := by decide +kernel
theorem dX5_person_5 : decode cX5_person 5 = .ok (.invokevirtual 94, 3) := by decide +kernel
theorem dX5_person_8 : decode cX5_person 8 = .ok (.ifCond .ne 9, 3) := by decide +kernel
theorem dX5_person_11 : decode cX5_person 11 = .ok (.aload_n 0, 1) := by decide +kernel
theorem dX5_person_12 : decode cX5_person 12 = .ok (.iconst (-1), 1) := by decide +kernel
theorem dX5_person_13 : decode cX5_person 13 = .ok (.invokevirtual 65, 3) := by decide +kernel
theorem dX5_person_16 : decode cX5_person 16 = .ok (.ireturn, 1) := by decide +kernel
theorem dX5_person_17 : decode cX5_person 17 = .ok (.iload_n 2, 1) := by decide +kernel
theorem dX5_person_18 : decode cX5_person 18 = .ok (.tableswitch 66 0 2 #[26, 36, 46], 26) := by decide +kernel
theorem dX5_person_44 : decode cX5_person 44 = .ok (.aload_n 0, 1) := by decide +kernel
theorem dX5_person_45 : decode cX5_person 45 = .ok (.getfield 10, 3) := by decide +kernel
theorem dX5_person_48 : decode cX5_person 48 = .ok (.getfield 98, 3) := by decide +kernel
theorem dX5_person_51 : decode cX5_person 51 = .ok (.iload_n 1, 1) := by decide +kernel
theorem dX5_person_52 : decode cX5_person 52 = .ok (.iaload, 1) := by decide +kernel
theorem dX5_person_53 : decode cX5_person 53 = .ok (.ireturn, 1) := by decide +kernel
theorem dX5_person_54 : decode cX5_person 54 = .ok (.aload_n 0, 1) := by decide +kernel
theorem dX5_person_55 : decode cX5_person 55 = .ok (.getfield 10, 3) := by decide +kernel
theorem dX5_person_58 : decode cX5_person 58 = .ok (.getfield 101, 3) := by decide +kernel
theorem dX5_person_61 : decode cX5_person 61 = .ok (.iload_n 1, 1) := by decide +kernel
theorem dX5_person_62 : decode cX5_person 62 = .ok (.iaload, 1) := by decide +kernel
theorem dX5_person_63 : decode cX5_person 63 = .ok (.ireturn, 1) := by decide +kernel
theorem dX5_person_64 : decode cX5_person 64 = .ok (.aload_n 0, 1) := by decide +kernel
theorem dX5_person_65 : decode cX5_person 65 = .ok (.getfield 36, 3) := by decide +kernel
theorem dX5_person_68 : decode cX5_person 68 = .ok (.aload_n 0, 1) := by decide +kernel
theorem dX5_person_69 : decode cX5_person 69 = .ok (.getfield 10, 3) := by decide +kernel
theorem dX5_person_72 : decode cX5_person 72 = .ok (.invokevirtual 104, 3) := by decide +kernel
theorem dX5_person_75 : decode cX5_person 75 = .ok (.aload_n 0, 1) := by decide +kernel
theorem dX5_person_76 : decode cX5_person 76 = .ok (.getfield 36, 3) := by decide +kernel
theorem dX5_person_79 : decode cX5_person 79 = .ok (.iload_n 1, 1) := by decide +kernel
theorem dX5_person_80 : decode cX5_person 80 = .ok (.invokevirtual 107, 3) := by decide +kernel
theorem dX5_person_83 : decode cX5_person 83 = .ok (.ireturn, 1) := by decide +kernel
theorem dX5_person_84 : decode cX5_person 84 = .ok (.aload_n 0, 1) := by decide +kernel
theorem dX5_person_85 : decode cX5_person 85 = .ok (.bipush (-2), 2) := by decide +kernel
theorem dX5_person_87 : decode cX5_person 87 = .ok (.invokevirtual 65, 3) := by decide +kernel
theorem dX5_person_90 : decode cX5_person 90 = .ok (.ireturn, 1) := by decide +kernel
theorem dX5_liking_0 : decode cX5_liking 0 = .ok (.aload_n 0, 1) := by decide +kernel
theorem dX5_liking_1 : decode cX5_liking 1 = .ok (.getfield 10, 3) := by decide +kernel
theorem dX5_liking_4 : decode cX5_liking 4 = .ok (.iload_n 1, 1) := by decide +kernel
theorem dX5_liking_5 : decode cX5_liking 5 = .ok (.iload_n 2, 1) := by decide +kernel
theorem dX5_liking_6 : decode cX5_liking 6 = .ok (.invokevirtual 110, 3) := by decide +kernel
theorem dX5_liking_9 : decode cX5_liking 9 = .ok (.ifCond .ne 9, 3) := by decide +kernel
theorem dX5_liking_12 : decode cX5_liking 12 = .ok (.aload_n 0, 1) := by decide +kernel
theorem dX5_liking_13 : decode cX5_liking 13 = .ok (.iconst (-1), 1) := by decide +kernel
theorem dX5_liking_14 : decode cX5_liking 14 = .ok (.invokevirtual 65, 3) := by decide +kernel
theorem dX5_liking_17 : decode cX5_liking 17 = .ok (.ireturn, 1) := by decide +kernel
theorem dX5_liking_18 : decode cX5_liking 18 = .ok (.aload_n 0, 1) := by decide +kernel
theorem dX5_liking_19 : decode cX5_liking 19 = .ok (.getfield 10, 3) := by decide +kernel
theorem dX5_liking_22 : decode cX5_liking 22 = .ok (.iload_n 1, 1) := by decide +kernel
theorem dX5_liking_23 : decode cX5_liking 23 = .ok (.iload_n 2, 1) := by decide +kernel
theorem dX5_liking_24 : decode cX5_liking 24 = .ok (.invokevirtual 114, 3) := by decide +kernel
theorem dX5_liking_27 : decode cX5_liking 27 = .ok (.ireturn, 1) := by decide +kernel
theorem dX5_like_0 : decode cX5_like 0 = .ok (.aload_n 0, 1) := by decide +kernel
theorem dX5_like_1 : decode cX5_like 1 = .ok (.getfield 10, 3) := by decide +kernel
theorem dX5_like_4 : decode cX5_like 4 = .ok (.iload_n 1, 1) := by decide +kernel
theorem dX5_like_5 : decode cX5_like 5 = .ok (.iload_n 2, 1) := by decide +kernel
theorem dX5_like_6 : decode cX5_like 6 = .ok (.invokevirtual 110, 3) := by decide +kernel
theorem dX5_like_9 : decode cX5_like 9 = .ok (.ifCond .ne 9, 3) := by decide +kernel
theorem dX5_like_12 : decode cX5_like 12 = .ok (.aload_n 0, 1) := by decide +kernel
theorem dX5_like_13 : decode cX5_like 13 = .ok (.iconst (-1), 1) := by decide +kernel
theorem dX5_like_14 : decode cX5_like 14 = .ok (.invokevirtual 65, 3) := by decide +kernel
theorem dX5_like_17 : decode cX5_like 17 = .ok (.ireturn, 1) := by decide +kernel
theorem dX5_like_18 : decode cX5_like 18 = .ok (.iload_n 3, 1) := by decide +kernel
theorem dX5_like_19 : decode cX5_like 19 = .ok (.ifCond .ge 10, 3) := by decide +kernel
theorem dX5_like_22 : decode cX5_like 22 = .ok (.aload_n 0, 1) := by decide +kernel
theorem dX5_like_23 : decode cX5_like 23 = .ok (.bipush (-4), 2) := by decide +kernel
theorem dX5_like_25 : decode cX5_like 25 = .ok (.invokevirtual 65, 3) := by decide +kernel
theorem dX5_like_28 : decode cX5_like 28 = .ok (.ireturn, 1) := by decide +kernel
theorem dX5_like_29 : decode cX5_like 29 = .ok (.iload_n 3, 1) := by decide +kernel
theorem dX5_like_30 : decode cX5_like 30 = .ok (.bipush 9, 2) := by decide +kernel
theorem dX5_like_32 : decode cX5_like 32 = .ok (.if_icmp .le 10, 3) := by decide +kernel
theorem dX5_like_35 : decode cX5_like 35 = .ok (.aload_n 0, 1) := by decide +kernel
theorem dX5_like_36 : decode cX5_like 36 = .ok (.bipush (-6), 2) := by decide +kernel
theorem dX5_like_38 : decode cX5_like 38 = .ok (.invokevirtual 65, 3) := by decide +kernel
theorem dX5_like_41 : decode cX5_like 41 = .ok (.ireturn, 1) := by decide +kernel
theorem dX5_like_42 : decode cX5_like 42 = .ok (.aload_n 0, 1) := by decide +kernel
theorem dX5_like_43 : decode cX5_like 43 = .ok (.getfield 10, 3) := by decide +kernel
theorem dX5_like_46 : decode cX5_like 46 = .ok (.iload_n 1, 1) := by decide +kernel
theorem dX5_like_47 : decode cX5_like 47 = .ok (.iload_n 2, 1) := by decide +kernel
theorem dX5_like_48 : decode cX5_like 48 = .ok (.invokevirtual 114, 3) := by decide +kernel
theorem dX5_like_51 : decode cX5_like 51 = .ok (.istore 4, 2) := by decide +kernel
theorem dX5_like_53 : decode cX5_like 53 = .ok (.aload_n 0, 1) := by decide +kernel
theorem dX5_like_54 : decode cX5_like 54 = .ok (.getfield 10, 3) := by decide +kernel
theorem dX5_like_57 : decode cX5_like 57 = .ok (.iload_n 1, 1) := by decide +kernel
theorem dX5_like_58 : decode cX5_like 58 = .ok (.iload_n 2, 1) := by decide +kernel
theorem dX5_like_59 : decode cX5_like 59 = .ok (.iload_n 3, 1) := by decide +kernel
theorem dX5_like_60 : decode cX5_like 60 = .ok (.invokevirtual 118, 3) := by decide +kernel
theorem dX5_like_63 : decode cX5_like 63 = .ok (.iload 4, 2) := by decide +kernel
theorem dX5_like_65 : decode cX5_like 65 = .ok (.ireturn, 1) := by decide +kernel
theorem dX5_order_0 : decode cX5_order 0 = .ok (.iload_n 1, 1) := by decide +kernel
theorem dX5_order_1 : decode cX5_order 1 = .ok (.iconst 1, 1) := by decide +kernel
theorem dX5_order_2 : decode cX5_order 2 = .ok (.if_icmp .lt 7, 3) := by decide +kernel
theorem dX5_order_5 : decode cX5_order 5 = .ok (.iload_n 2, 1) := by decide +kernel
theorem dX5_order_6 : decode cX5_order 6 = .ok (.ifCond .ge 10, 3) := by decide +kernel
theorem dX5_order_9 : decode cX5_order 9 = .ok (.aload_n 0, 1) := by decide +kernel
theorem dX5_order_10 : decode cX5_order 10 = .ok (.bipush (-4), 2) := by decide +kernel
theorem dX5_order_12 : decode cX5_order 12 = .ok (.invokevirtual 65, 3) := by decide +kernel
theorem dX5_order_15 : decode cX5_order 15 = .ok (.ireturn, 1) := by decide +kernel
theorem dX5_order_16 : decode cX5_order 16 = .ok (.iload_n 1, 1) := by decide +kernel
theorem dX5_order_17 : decode cX5_order 17 = .ok (.iconst 4, 1) := by decide +kernel
theorem dX5_order_18 : decode cX5_order 18 = .ok (.if_icmp .gt 8, 3) := by decide +kernel
theorem dX5_order_21 : decode cX5_order 21 = .ok (.iload_n 2, 1) := by decide +kernel
theorem dX5_order_22 : decode cX5_order 22 = .ok (.iconst 4, 1) := by decide +kernel
theorem dX5_order_23 : decode cX5_order 23 = .ok (.if_icmp .le 10, 3) := by decide +kernel
theorem dX5_order_26 : decode cX5_order 26 = .ok (.aload_n 0, 1) := by decide +kernel
theorem dX5_order_27 : decode cX5_order 27 = .ok (.bipush (-6), 2) := by decide +kernel
theorem dX5_order_29 : decode cX5_order 29 = .ok (.invokevirtual 65, 3) := by decide +kernel
theorem dX5_order_32 : decode cX5_order 32 = .ok (.ireturn, 1) := by decide +kernel
theorem dX5_order_33 : decode cX5_order 33 = .ok (.bipush 10, 2) := by decide +kernel
theorem dX5_order_35 : decode cX5_order 35 = .ok (.aload_n 0, 1) := by decide +kernel
theorem dX5_order_36 : decode cX5_order 36 = .ok (.getfield 10, 3) := by decide +kernel
theorem dX5_order_39 : decode cX5_order 39 = .ok (.getfield 122, 3) := by decide +kernel
theorem dX5_order_42 : decode cX5_order 42 = .ok (.imul, 1) := by decide +kernel
theorem dX5_order_43 : decode cX5_order 43 = .ok (.aload_n 0, 1) := by decide +kernel
theorem dX5_order_44 : decode cX5_order 44 = .ok (.getfield 10, 3) := by decide +kernel
theorem dX5_order_47 : decode cX5_order 47 = .ok (.getfield 125, 3) := by decide +kernel
theorem dX5_order_50 : decode cX5_order 50 = .ok (.iadd, 1) := by decide +kernel
theorem dX5_order_51 : decode cX5_order 51 = .ok (.istore_n 3, 1) := by decide +kernel
theorem dX5_order_52 : decode cX5_order 52 = .ok (.aload_n 0, 1) := by decide +kernel
theorem dX5_order_53 : decode cX5_order 53 = .ok (.getfield 10, 3) := by decide +kernel
theorem dX5_order_56 : decode cX5_order 56 = .ok (.iload_n 1, 1) := by decide +kernel
theorem dX5_order_57 : decode cX5_order 57 = .ok (.putfield 122, 3) := by decide +kernel
theorem dX5_order_60 : decode cX5_order 60 = .ok (.aload_n 0, 1) := by decide +kernel
theorem dX5_order_61 : decode cX5_order 61 = .ok (.getfield 10, 3) := by decide +kernel
theorem dX5_order_64 : decode cX5_order 64 = .ok (.iload_n 2, 1) := by decide +kernel
theorem dX5_order_65 : decode cX5_order 65 = .ok (.putfield 125, 3) := by decide +kernel
theorem dX5_order_68 : decode cX5_order 68 = .ok (.iload_n 3, 1) := by decide +kernel
theorem dX5_order_69 : decode cX5_order 69 = .ok (.ireturn, 1) := by decide +kernel
theorem dX5_law_0 : decode cX5_law 0 = .ok (.iload_n 1, 1) := by decide +kernel
theorem dX5_law_1 : decode cX5_law 1 = .ok (.invokestatic 128, 3) := by decide +kernel
theorem dX5_law_4 : decode cX5_law 4 = .ok (.ifCond .ne 10, 3) := by decide +kernel
theorem dX5_law_7 : decode cX5_law 7 = .ok (.aload_n 0, 1) := by decide +kernel
theorem dX5_law_8 : decode cX5_law 8 = .ok (.bipush (-2), 2) := by decide +kernel
theorem dX5_law_10 : decode cX5_law 10 = .ok (.invokevirtual 65, 3) := by decide +kernel
theorem dX5_law_13 : decode cX5_law 13 = .ok (.ireturn, 1) := by decide +kernel
theorem dX5_law_14 : decode cX5_law 14 = .ok (.aload_n 0, 1) := by decide +kernel
theorem dX5_law_15 : decode cX5_law 15 = .ok (.getfield 10, 3) := by decide +kernel
theorem dX5_law_18 : decode cX5_law 18 = .ok (.getfield 131, 3) := by decide +kernel
theorem dX5_law_21 : decode cX5_law 21 = .ok (.istore_n 2, 1) := by decide +kernel
theorem dX5_law_22 : decode cX5_law 22 = .ok (.aload_n 0, 1) := by decide +kernel
theorem dX5_law_23 : decode cX5_law 23 = .ok (.getfield 10, 3) := by decide +kernel
theorem dX5_law_26 : decode cX5_law 26 = .ok (.iload_n 1, 1) := by decide +kernel
theorem dX5_law_27 : decode cX5_law 27 = .ok (.putfield 131, 3) := by decide +kernel
theorem dX5_law_30 : decode cX5_law 30 = .ok (.iload_n 2, 1) := by decide +kernel
theorem dX5_law_31 : decode cX5_law 31 = .ok (.ireturn, 1) := by decide +kernel
theorem dX5_meets_0 : decode cX5_meets 0 = .ok (.aload_n 0, 1) := by decide +kernel
theorem dX5_meets_1 : decode cX5_meets 1 = .ok (.getfield 10, 3) := by decide +kernel
theorem dX5_meets_4 : decode cX5_meets 4 = .ok (.iload_n 1, 1) := by decide +kernel
theorem dX5_meets_5 : decode cX5_meets 5 = .ok (.invokevirtual 94, 3) := by decide +kernel
theorem dX5_meets_8 : decode cX5_meets 8 = .ok (.ifCond .eq 14, 3) := by decide +kernel
theorem dX5_meets_11 : decode cX5_meets 11 = .ok (.aload_n 0, 1) := by decide +kernel
theorem dX5_meets_12 : decode cX5_meets 12 = .ok (.getfield 10, 3) := by decide +kernel
theorem dX5_meets_15 : decode cX5_meets 15 = .ok (.iload_n 2, 1) := by decide +kernel
theorem dX5_meets_16 : decode cX5_meets 16 = .ok (.invokevirtual 134, 3) := by decide +kernel
theorem dX5_meets_19 : decode cX5_meets 19 = .ok (.ifCond .ne 9, 3) := by decide +kernel
theorem dX5_meets_22 : decode cX5_meets 22 = .ok (.aload_n 0, 1) := by decide +kernel
theorem dX5_meets_23 : decode cX5_meets 23 = .ok (.iconst (-1), 1) := by decide +kernel
theorem dX5_meets_24 : decode cX5_meets 24 = .ok (.invokevirtual 65, 3) := by decide +kernel
theorem dX5_meets_27 : decode cX5_meets 27 = .ok (.ireturn, 1) := by decide +kernel
theorem dX5_meets_28 : decode cX5_meets 28 = .ok (.aload_n 0, 1) := by decide +kernel
theorem dX5_meets_29 : decode cX5_meets 29 = .ok (.getfield 36, 3) := by decide +kernel
theorem dX5_meets_32 : decode cX5_meets 32 = .ok (.aload_n 0, 1) := by decide +kernel
theorem dX5_meets_33 : decode cX5_meets 33 = .ok (.getfield 10, 3) := by decide +kernel
theorem dX5_meets_36 : decode cX5_meets 36 = .ok (.invokevirtual 104, 3) := by decide +kernel
theorem dX5_meets_39 : decode cX5_meets 39 = .ok (.aload_n 0, 1) := by decide +kernel
theorem dX5_meets_40 : decode cX5_meets 40 = .ok (.getfield 36, 3) := by decide +kernel
theorem dX5_meets_43 : decode cX5_meets 43 = .ok (.getfield 137, 3) := by decide +kernel
theorem dX5_meets_46 : decode cX5_meets 46 = .ok (.iload_n 1, 1) := by decide +kernel
theorem dX5_meets_47 : decode cX5_meets 47 = .ok (.aaload, 1) := by decide +kernel
theorem dX5_meets_48 : decode cX5_meets 48 = .ok (.iload_n 2, 1) := by decide +kernel
theorem dX5_meets_49 : decode cX5_meets 49 = .ok (.iaload, 1) := by decide +kernel
theorem dX5_meets_50 : decode cX5_meets 50 = .ok (.ireturn, 1) := by decide +kernel
theorem dX5_felt_0 : decode cX5_felt 0 = .ok (.aload_n 0, 1) := by decide +kernel
theorem dX5_felt_1 : decode cX5_felt 1 = .ok (.getfield 10, 3) := by decide +kernel
theorem dX5_felt_4 : decode cX5_felt 4 = .ok (.iload_n 1, 1) := by decide +kernel
theorem dX5_felt_5 : decode cX5_felt 5 = .ok (.invokevirtual 94, 3) := by decide +kernel
theorem dX5_felt_8 : decode cX5_felt 8 = .ok (.ifCond .eq 14, 3) := by decide +kernel
theorem dX5_felt_11 : decode cX5_felt 11 = .ok (.aload_n 0, 1) := by decide +kernel
theorem dX5_felt_12 : decode cX5_felt 12 = .ok (.getfield 10, 3) := by decide +kernel
theorem dX5_felt_15 : decode cX5_felt 15 = .ok (.iload_n 2, 1) := by decide +kernel
theorem dX5_felt_16 : decode cX5_felt 16 = .ok (.invokevirtual 134, 3) := by decide +kernel
theorem dX5_felt_19 : decode cX5_felt 19 = .ok (.ifCond .ne 12, 3) := by decide +kernel
theorem dX5_felt_22 : decode cX5_felt 22 = .ok (.ldc 141, 2) := by decide +kernel
theorem dX5_felt_24 : decode cX5_felt 24 = .ok (.aload_n 0, 1) := by decide +kernel
theorem dX5_felt_25 : decode cX5_felt 25 = .ok (.iconst (-1), 1) := by decide +kernel
theorem dX5_felt_26 : decode cX5_felt 26 = .ok (.invokevirtual 65, 3) := by decide +kernel
theorem dX5_felt_29 : decode cX5_felt 29 = .ok (.isub, 1) := by decide +kernel
theorem dX5_felt_30 : decode cX5_felt 30 = .ok (.ireturn, 1) := by decide +kernel
theorem dX5_felt_31 : decode cX5_felt 31 = .ok (.aload_n 0, 1) := by decide +kernel
theorem dX5_felt_32 : decode cX5_felt 32 = .ok (.getfield 36, 3) := by decide +kernel
theorem dX5_felt_35 : decode cX5_felt 35 = .ok (.aload_n 0, 1) := by decide +kernel
theorem dX5_felt_36 : decode cX5_felt 36 = .ok (.getfield 10, 3) := by decide +kernel
theorem dX5_felt_39 : decode cX5_felt 39 = .ok (.invokevirtual 104, 3) := by decide +kernel
theorem dX5_felt_42 : decode cX5_felt 42 = .ok (.aload_n 0, 1) := by decide +kernel
theorem dX5_felt_43 : decode cX5_felt 43 = .ok (.getfield 36, 3) := by decide +kernel
theorem dX5_felt_46 : decode cX5_felt 46 = .ok (.getfield 142, 3) := by decide +kernel
theorem dX5_felt_49 : decode cX5_felt 49 = .ok (.iload_n 1, 1) := by decide +kernel
theorem dX5_felt_50 : decode cX5_felt 50 = .ok (.aaload, 1) := by decide +kernel
theorem dX5_felt_51 : decode cX5_felt 51 = .ok (.iload_n 2, 1) := by decide +kernel
theorem dX5_felt_52 : decode cX5_felt 52 = .ok (.iaload, 1) := by decide +kernel
theorem dX5_felt_53 : decode cX5_felt 53 = .ok (.ireturn, 1) := by decide +kernel
theorem dX5_yeses_0 : decode cX5_yeses 0 = .ok (.aload_n 0, 1) := by decide +kernel
theorem dX5_yeses_1 : decode cX5_yeses 1 = .ok (.getfield 10, 3) := by decide +kernel
theorem dX5_yeses_4 : decode cX5_yeses 4 = .ok (.iload_n 1, 1) := by decide +kernel
theorem dX5_yeses_5 : decode cX5_yeses 5 = .ok (.invokevirtual 94, 3) := by decide +kernel
theorem dX5_yeses_8 : decode cX5_yeses 8 = .ok (.ifCond .ne 9, 3) := by decide +kernel
theorem dX5_yeses_11 : decode cX5_yeses 11 = .ok (.aload_n 0, 1) := by decide +kernel
theorem dX5_yeses_12 : decode cX5_yeses 12 = .ok (.iconst (-1), 1) := by decide +kernel
theorem dX5_yeses_13 : decode cX5_yeses 13 = .ok (.invokevirtual 65, 3) := by decide +kernel
theorem dX5_yeses_16 : decode cX5_yeses 16 = .ok (.ireturn, 1) := by decide +kernel
theorem dX5_yeses_17 : decode cX5_yeses 17 = .ok (.aload_n 0, 1) := by decide +kernel
theorem dX5_yeses_18 : decode cX5_yeses 18 = .ok (.getfield 36, 3) := by decide +kernel
theorem dX5_yeses_21 : decode cX5_yeses 21 = .ok (.aload_n 0, 1) := by decide +kernel
theorem dX5_yeses_22 : decode cX5_yeses 22 = .ok (.getfield 10, 3) := by decide +kernel
theorem dX5_yeses_25 : decode cX5_yeses 25 = .ok (.invokevirtual 104, 3) := by decide +kernel
theorem dX5_yeses_28 : decode cX5_yeses 28 = .ok (.iload_n 2, 1) := by decide +kernel
theorem dX5_yeses_29 : decode cX5_yeses 29 = .ok (.lookupswitch 46 #[(0, 27), (1, 37)], 27) := by decide +kernel
theorem dX5_yeses_56 : decode cX5_yeses 56 = .ok (.aload_n 0, 1) := by decide +kernel
theorem dX5_yeses_57 : decode cX5_yeses 57 = .ok (.getfield 36, 3) := by decide +kernel
theorem dX5_yeses_60 : decode cX5_yeses 60 = .ok (.getfield 145, 3) := by decide +kernel
theorem dX5_yeses_63 : decode cX5_yeses 63 = .ok (.iload_n 1, 1) := by decide +kernel
theorem dX5_yeses_64 : decode cX5_yeses 64 = .ok (.iaload, 1) := by decide +kernel
theorem dX5_yeses_65 : decode cX5_yeses 65 = .ok (.ireturn, 1) := by decide +kernel
theorem dX5_yeses_66 : decode cX5_yeses 66 = .ok (.aload_n 0, 1) := by decide +kernel
theorem dX5_yeses_67 : decode cX5_yeses 67 = .ok (.getfield 36, 3) := by decide +kernel
theorem dX5_yeses_70 : decode cX5_yeses 70 = .ok (.iload_n 1, 1) := by decide +kernel
theorem dX5_yeses_71 : decode cX5_yeses 71 = .ok (.invokevirtual 148, 3) := by decide +kernel
theorem dX5_yeses_74 : decode cX5_yeses 74 = .ok (.ireturn, 1) := by decide +kernel
theorem dX5_yeses_75 : decode cX5_yeses 75 = .ok (.aload_n 0, 1) := by decide +kernel
theorem dX5_yeses_76 : decode cX5_yeses 76 = .ok (.bipush (-2), 2) := by decide +kernel
theorem dX5_yeses_78 : decode cX5_yeses 78 = .ok (.invokevirtual 65, 3) := by decide +kernel
theorem dX5_yeses_81 : decode cX5_yeses 81 = .ok (.ireturn, 1) := by decide +kernel
theorem dX5_pairs_0 : decode cX5_pairs 0 = .ok (.iload_n 1, 1) := by decide +kernel
theorem dX5_pairs_1 : decode cX5_pairs 1 = .ok (.iconst (-1), 1) := by decide +kernel
theorem dX5_pairs_2 : decode cX5_pairs 2 = .ok (.if_icmp .eq 20, 3) := by decide +kernel
theorem dX5_pairs_5 : decode cX5_pairs 5 = .ok (.aload_n 0, 1) := by decide +kernel
theorem dX5_pairs_6 : decode cX5_pairs 6 = .ok (.getfield 10, 3) := by decide +kernel
theorem dX5_pairs_9 : decode cX5_pairs 9 = .ok (.iload_n 1, 1) := by decide +kernel
theorem dX5_pairs_10 : decode cX5_pairs 10 = .ok (.invokevirtual 94, 3) := by decide +kernel
theorem dX5_pairs_13 : decode cX5_pairs 13 = .ok (.ifCond .ne 9, 3) := by decide +kernel
theorem dX5_pairs_16 : decode cX5_pairs 16 = .ok (.aload_n 0, 1) := by decide +kernel
theorem dX5_pairs_17 : decode cX5_pairs 17 = .ok (.iconst (-1), 1) := by decide +kernel
theorem dX5_pairs_18 : decode cX5_pairs 18 = .ok (.invokevirtual 65, 3) := by decide +kernel
theorem dX5_pairs_21 : decode cX5_pairs 21 = .ok (.ireturn, 1) := by decide +kernel
theorem dX5_pairs_22 : decode cX5_pairs 22 = .ok (.aload_n 0, 1) := by decide +kernel
theorem dX5_pairs_23 : decode cX5_pairs 23 = .ok (.getfield 36, 3) := by decide +kernel
theorem dX5_pairs_26 : decode cX5_pairs 26 = .ok (.aload_n 0, 1) := by decide +kernel
theorem dX5_pairs_27 : decode cX5_pairs 27 = .ok (.getfield 10, 3) := by decide +kernel
theorem dX5_pairs_30 : decode cX5_pairs 30 = .ok (.invokevirtual 104, 3) := by decide +kernel
theorem dX5_pairs_33 : decode cX5_pairs 33 = .ok (.aload_n 0, 1) := by decide +kernel
theorem dX5_pairs_34 : decode cX5_pairs 34 = .ok (.getfield 43, 3) := by decide +kernel
theorem dX5_pairs_37 : decode cX5_pairs 37 = .ok (.aload_n 0, 1) := by decide +kernel
theorem dX5_pairs_38 : decode cX5_pairs 38 = .ok (.getfield 10, 3) := by decide +kernel
theorem dX5_pairs_41 : decode cX5_pairs 41 = .ok (.aload_n 0, 1) := by decide +kernel
theorem dX5_pairs_42 : decode cX5_pairs 42 = .ok (.getfield 36, 3) := by decide +kernel
theorem dX5_pairs_45 : decode cX5_pairs 45 = .ok (.aload_n 0, 1) := by decide +kernel
theorem dX5_pairs_46 : decode cX5_pairs 46 = .ok (.getfield 10, 3) := by decide +kernel
theorem dX5_pairs_49 : decode cX5_pairs 49 = .ok (.getfield 131, 3) := by decide +kernel
theorem dX5_pairs_52 : decode cX5_pairs 52 = .ok (.invokevirtual 151, 3) := by decide +kernel
theorem dX5_pairs_55 : decode cX5_pairs 55 = .ok (.iload_n 1, 1) := by decide +kernel
theorem dX5_pairs_56 : decode cX5_pairs 56 = .ok (.iconst (-1), 1) := by decide +kernel
theorem dX5_pairs_57 : decode cX5_pairs 57 = .ok (.if_icmp .ne 13, 3) := by decide +kernel
theorem dX5_pairs_60 : decode cX5_pairs 60 = .ok (.aload_n 0, 1) := by decide +kernel
theorem dX5_pairs_61 : decode cX5_pairs 61 = .ok (.getfield 43, 3) := by decide +kernel
theorem dX5_pairs_64 : decode cX5_pairs 64 = .ok (.invokevirtual 155, 3) := by decide +kernel
theorem dX5_pairs_67 : decode cX5_pairs 67 = .ok (.goto 12, 3) := by decide +kernel
theorem dX5_pairs_70 : decode cX5_pairs 70 = .ok (.aload_n 0, 1) := by decide +kernel
theorem dX5_pairs_71 : decode cX5_pairs 71 = .ok (.getfield 43, 3) := by decide +kernel
theorem dX5_pairs_74 : decode cX5_pairs 74 = .ok (.getfield 158, 3) := by decide +kernel
theorem dX5_pairs_77 : decode cX5_pairs 77 = .ok (.iload_n 1, 1) := by decide +kernel
theorem dX5_pairs_78 : decode cX5_pairs 78 = .ok (.iaload, 1) := by decide +kernel
theorem dX5_pairs_79 : decode cX5_pairs 79 = .ok (.ireturn, 1) := by decide +kernel
theorem dX5_glad_0 : decode cX5_glad 0 = .ok (.iload_n 1, 1) := by decide +kernel
theorem dX5_glad_1 : decode cX5_glad 1 = .ok (.invokestatic 128, 3) := by decide +kernel
theorem dX5_glad_4 : decode cX5_glad 4 = .ok (.ifCond .eq 12, 3) := by decide +kernel
theorem dX5_glad_7 : decode cX5_glad 7 = .ok (.iload_n 2, 1) := by decide +kernel
theorem dX5_glad_8 : decode cX5_glad 8 = .ok (.ifCond .lt 8, 3) := by decide +kernel
theorem dX5_glad_11 : decode cX5_glad 11 = .ok (.iload_n 2, 1) := by decide +kernel
theorem dX5_glad_12 : decode cX5_glad 12 = .ok (.iconst 1, 1) := by decide +kernel
theorem dX5_glad_13 : decode cX5_glad 13 = .ok (.if_icmp .le 10, 3) := by decide +kernel
theorem dX5_glad_16 : decode cX5_glad 16 = .ok (.aload_n 0, 1) := by decide +kernel
theorem dX5_glad_17 : decode cX5_glad 17 = .ok (.bipush (-2), 2) := by decide +kernel
theorem dX5_glad_19 : decode cX5_glad 19 = .ok (.invokevirtual 65, 3) := by decide +kernel
theorem dX5_glad_22 : decode cX5_glad 22 = .ok (.ireturn, 1) := by decide +kernel
theorem dX5_glad_23 : decode cX5_glad 23 = .ok (.aload_n 0, 1) := by decide +kernel
theorem dX5_glad_24 : decode cX5_glad 24 = .ok (.getfield 36, 3) := by decide +kernel
theorem dX5_glad_27 : decode cX5_glad 27 = .ok (.aload_n 0, 1) := by decide +kernel
theorem dX5_glad_28 : decode cX5_glad 28 = .ok (.getfield 10, 3) := by decide +kernel
theorem dX5_glad_31 : decode cX5_glad 31 = .ok (.invokevirtual 104, 3) := by decide +kernel
theorem dX5_glad_34 : decode cX5_glad 34 = .ok (.aload_n 0, 1) := by decide +kernel
theorem dX5_glad_35 : decode cX5_glad 35 = .ok (.getfield 43, 3) := by decide +kernel
theorem dX5_glad_38 : decode cX5_glad 38 = .ok (.aload_n 0, 1) := by decide +kernel
theorem dX5_glad_39 : decode cX5_glad 39 = .ok (.getfield 10, 3) := by decide +kernel
theorem dX5_glad_42 : decode cX5_glad 42 = .ok (.aload_n 0, 1) := by decide +kernel
theorem dX5_glad_43 : decode cX5_glad 43 = .ok (.getfield 36, 3) := by decide +kernel
theorem dX5_glad_46 : decode cX5_glad 46 = .ok (.iload_n 1, 1) := by decide +kernel
theorem dX5_glad_47 : decode cX5_glad 47 = .ok (.invokevirtual 151, 3) := by decide +kernel
theorem dX5_glad_50 : decode cX5_glad 50 = .ok (.iload_n 2, 1) := by decide +kernel
theorem dX5_glad_51 : decode cX5_glad 51 = .ok (.ifCond .ne 13, 3) := by decide +kernel
theorem dX5_glad_54 : decode cX5_glad 54 = .ok (.aload_n 0, 1) := by decide +kernel
theorem dX5_glad_55 : decode cX5_glad 55 = .ok (.getfield 43, 3) := by decide +kernel
theorem dX5_glad_58 : decode cX5_glad 58 = .ok (.invokevirtual 155, 3) := by decide +kernel
theorem dX5_glad_61 : decode cX5_glad 61 = .ok (.goto 14, 3) := by decide +kernel
theorem dX5_glad_64 : decode cX5_glad 64 = .ok (.aload_n 0, 1) := by decide +kernel
theorem dX5_glad_65 : decode cX5_glad 65 = .ok (.getfield 43, 3) := by decide +kernel
theorem dX5_glad_68 : decode cX5_glad 68 = .ok (.aload_n 0, 1) := by decide +kernel
theorem dX5_glad_69 : decode cX5_glad 69 = .ok (.getfield 10, 3) := by decide +kernel
theorem dX5_glad_72 : decode cX5_glad 72 = .ok (.invokevirtual 161, 3) := by decide +kernel
theorem dX5_glad_75 : decode cX5_glad 75 = .ok (.ireturn, 1) := by decide +kernel
theorem dX5_shaded_0 : decode cX5_shaded 0 = .ok (.aload_n 0, 1) := by decide +kernel
theorem dX5_shaded_1 : decode cX5_shaded 1 = .ok (.getfield 36, 3) := by decide +kernel
theorem dX5_shaded_4 : decode cX5_shaded 4 = .ok (.aload_n 0, 1) := by decide +kernel
theorem dX5_shaded_5 : decode cX5_shaded 5 = .ok (.getfield 10, 3) := by decide +kernel
theorem dX5_shaded_8 : decode cX5_shaded 8 = .ok (.invokevirtual 104, 3) := by decide +kernel
theorem dX5_shaded_11 : decode cX5_shaded 11 = .ok (.aload_n 0, 1) := by decide +kernel
theorem dX5_shaded_12 : decode cX5_shaded 12 = .ok (.getfield 36, 3) := by decide +kernel
theorem dX5_shaded_15 : decode cX5_shaded 15 = .ok (.getfield 164, 3) := by decide +kernel
theorem dX5_shaded_18 : decode cX5_shaded 18 = .ok (.ireturn, 1) := by decide +kernel
theorem dX5_bestOrder_0 : decode cX5_bestOrder 0 = .ok (.aload_n 0, 1) := by decide +kernel
theorem dX5_bestOrder_1 : decode cX5_bestOrder 1 = .ok (.getfield 16, 3) := by decide +kernel
theorem dX5_bestOrder_4 : decode cX5_bestOrder 4 = .ok (.aload_n 0, 1) := by decide +kernel
theorem dX5_bestOrder_5 : decode cX5_bestOrder 5 = .ok (.getfield 10, 3) := by decide +kernel
theorem dX5_bestOrder_8 : decode cX5_bestOrder 8 = .ok (.invokevirtual 83, 3) := by decide +kernel
theorem dX5_bestOrder_11 : decode cX5_bestOrder 11 = .ok (.bipush (-9), 2) := by decide +kernel
theorem dX5_bestOrder_13 : decode cX5_bestOrder 13 = .ok (.istore_n 1, 1) := by decide +kernel
theorem dX5_bestOrder_14 : decode cX5_bestOrder 14 = .ok (.iconst 0, 1) := by decide +kernel
theorem dX5_bestOrder_15 : decode cX5_bestOrder 15 = .ok (.istore_n 2, 1) := by decide +kernel
theorem dX5_bestOrder_16 : decode cX5_bestOrder 16 = .ok (.iconst 1, 1) := by decide +kernel
theorem dX5_bestOrder_17 : decode cX5_bestOrder 17 = .ok (.istore_n 3, 1) := by decide +kernel
theorem dX5_bestOrder_18 : decode cX5_bestOrder 18 = .ok (.iload_n 3, 1) := by decide +kernel
theorem dX5_bestOrder_19 : decode cX5_bestOrder 19 = .ok (.iconst 4, 1) := by decide +kernel
theorem dX5_bestOrder_20 : decode cX5_bestOrder 20 = .ok (.if_icmp .gt 111, 3) := by decide +kernel
theorem dX5_bestOrder_23 : decode cX5_bestOrder 23 = .ok (.iconst 0, 1) := by decide +kernel
theorem dX5_bestOrder_24 : decode cX5_bestOrder 24 = .ok (.istore 4, 2) := by decide +kernel
theorem dX5_bestOrder_26 : decode cX5_bestOrder 26 = .ok (.iload 4, 2) := by decide +kernel
theorem dX5_bestOrder_28 : decode cX5_bestOrder 28 = .ok (.iconst 4, 1) := by decide +kernel
theorem dX5_bestOrder_29 : decode cX5_bestOrder 29 = .ok (.if_icmp .gt 96, 3) := by decide +kernel
theorem dX5_bestOrder_32 : decode cX5_bestOrder 32 = .ok (.aload_n 0, 1) := by decide +kernel
theorem dX5_bestOrder_33 : decode cX5_bestOrder 33 = .ok (.getfield 16, 3) := by decide +kernel
theorem dX5_bestOrder_36 : decode cX5_bestOrder 36 = .ok (.iload_n 3, 1) := by decide +kernel
theorem dX5_bestOrder_37 : decode cX5_bestOrder 37 = .ok (.putfield 122, 3) := by decide +kernel
theorem dX5_bestOrder_40 : decode cX5_bestOrder 40 = .ok (.aload_n 0, 1) := by decide +kernel
theorem dX5_bestOrder_41 : decode cX5_bestOrder 41 = .ok (.getfield 16, 3) := by decide +kernel
theorem dX5_bestOrder_44 : decode cX5_bestOrder 44 = .ok (.iload 4, 2) := by decide +kernel
theorem dX5_bestOrder_46 : decode cX5_bestOrder 46 = .ok (.putfield 125, 3) := by decide +kernel
theorem dX5_bestOrder_49 : decode cX5_bestOrder 49 = .ok (.aload_n 0, 1) := by decide +kernel
theorem dX5_bestOrder_50 : decode cX5_bestOrder 50 = .ok (.getfield 36, 3) := by decide +kernel
theorem dX5_bestOrder_53 : decode cX5_bestOrder 53 = .ok (.aload_n 0, 1) := by decide +kernel
theorem dX5_bestOrder_54 : decode cX5_bestOrder 54 = .ok (.getfield 16, 3) := by decide +kernel
theorem dX5_bestOrder_57 : decode cX5_bestOrder 57 = .ok (.invokevirtual 104, 3) := by decide +kernel
theorem dX5_bestOrder_60 : decode cX5_bestOrder 60 = .ok (.iload_n 1, 1) := by decide +kernel
theorem dX5_bestOrder_61 : decode cX5_bestOrder 61 = .ok (.bipush (-9), 2) := by decide +kernel
theorem dX5_bestOrder_63 : decode cX5_bestOrder 63 = .ok (.if_icmp .eq 14, 3) := by decide +kernel
theorem dX5_bestOrder_66 : decode cX5_bestOrder 66 = .ok (.aload_n 0, 1) := by decide +kernel
theorem dX5_bestOrder_67 : decode cX5_bestOrder 67 = .ok (.getfield 36, 3) := by decide +kernel
theorem dX5_bestOrder_70 : decode cX5_bestOrder 70 = .ok (.getfield 164, 3) := by decide +kernel
theorem dX5_bestOrder_73 : decode cX5_bestOrder 73 = .ok (.iload_n 2, 1) := by decide +kernel
theorem dX5_bestOrder_74 : decode cX5_bestOrder 74 = .ok (.if_icmp .ge 7, 3) := by decide +kernel
theorem dX5_bestOrder_77 : decode cX5_bestOrder 77 = .ok (.iconst 1, 1) := by decide +kernel
theorem dX5_bestOrder_78 : decode cX5_bestOrder 78 = .ok (.goto 4, 3) := by decide +kernel
theorem dX5_bestOrder_81 : decode cX5_bestOrder 81 = .ok (.iconst 0, 1) := by decide +kernel
theorem dX5_bestOrder_82 : decode cX5_bestOrder 82 = .ok (.istore 5, 2) := by decide +kernel
theorem dX5_bestOrder_84 : decode cX5_bestOrder 84 = .ok (.iload 5, 2) := by decide +kernel
theorem dX5_bestOrder_86 : decode cX5_bestOrder 86 = .ok (.ifCond .eq 33, 3) := by decide +kernel
theorem dX5_bestOrder_89 : decode cX5_bestOrder 89 = .ok (.aload_n 0, 1) := by decide +kernel
theorem dX5_bestOrder_90 : decode cX5_bestOrder 90 = .ok (.getfield 36, 3) := by decide +kernel
theorem dX5_bestOrder_93 : decode cX5_bestOrder 93 = .ok (.aload_n 0, 1) := by decide +kernel
theorem dX5_bestOrder_94 : decode cX5_bestOrder 94 = .ok (.getfield 16, 3) := by decide +kernel
theorem dX5_bestOrder_97 : decode cX5_bestOrder 97 = .ok (.invokevirtual 167, 3) := by decide +kernel
theorem dX5_bestOrder_100 : decode cX5_bestOrder 100 = .ok (.ifCond .eq 19, 3) := by decide +kernel
theorem dX5_bestOrder_103 : decode cX5_bestOrder 103 = .ok (.aload_n 0, 1) := by decide +kernel
theorem dX5_bestOrder_104 : decode cX5_bestOrder 104 = .ok (.getfield 36, 3) := by decide +kernel
theorem dX5_bestOrder_107 : decode cX5_bestOrder 107 = .ok (.getfield 164, 3) := by decide +kernel
theorem dX5_bestOrder_110 : decode cX5_bestOrder 110 = .ok (.istore_n 2, 1) := by decide +kernel
theorem dX5_bestOrder_111 : decode cX5_bestOrder 111 = .ok (.bipush 10, 2) := by decide +kernel
theorem dX5_bestOrder_113 : decode cX5_bestOrder 113 = .ok (.iload_n 3, 1) := by decide +kernel
theorem dX5_bestOrder_114 : decode cX5_bestOrder 114 = .ok (.imul, 1) := by decide +kernel
theorem dX5_bestOrder_115 : decode cX5_bestOrder 115 = .ok (.iload 4, 2) := by decide +kernel
theorem dX5_bestOrder_117 : decode cX5_bestOrder 117 = .ok (.iadd, 1) := by decide +kernel
theorem dX5_bestOrder_118 : decode cX5_bestOrder 118 = .ok (.istore_n 1, 1) := by decide +kernel
theorem dX5_bestOrder_119 : decode cX5_bestOrder 119 = .ok (.iinc 4 1, 3) := by decide +kernel
theorem dX5_bestOrder_122 : decode cX5_bestOrder 122 = .ok (.goto (-96), 3) := by decide +kernel
theorem dX5_bestOrder_125 : decode cX5_bestOrder 125 = .ok (.iinc 3 1, 3) := by decide +kernel
theorem dX5_bestOrder_128 : decode cX5_bestOrder 128 = .ok (.goto (-110), 3) := by decide +kernel
theorem dX5_bestOrder_131 : decode cX5_bestOrder 131 = .ok (.iload_n 1, 1) := by decide +kernel
theorem dX5_bestOrder_132 : decode cX5_bestOrder 132 = .ok (.ireturn, 1) := by decide +kernel
theorem dX5_ranks_0 : decode cX5_ranks 0 = .ok (.aload_n 0, 1) := by decide +kernel
theorem dX5_ranks_1 : decode cX5_ranks 1 = .ok (.iconst 0, 1) := by decide +kernel
theorem dX5_ranks_2 : decode cX5_ranks 2 = .ok (.iload_n 1, 1) := by decide +kernel
theorem dX5_ranks_3 : decode cX5_ranks 3 = .ok (.invokevirtual 171, 3) := by decide +kernel
theorem dX5_ranks_6 : decode cX5_ranks 6 = .ok (.ireturn, 1) := by decide +kernel
theorem dX5_asked_0 : decode cX5_asked 0 = .ok (.aload_n 0, 1) := by decide +kernel
theorem dX5_asked_1 : decode cX5_asked 1 = .ok (.iconst 1, 1) := by decide +kernel
theorem dX5_asked_2 : decode cX5_asked 2 = .ok (.iload_n 1, 1) := by decide +kernel
theorem dX5_asked_3 : decode cX5_asked 3 = .ok (.invokevirtual 171, 3) := by decide +kernel
theorem dX5_asked_6 : decode cX5_asked 6 = .ok (.ireturn, 1) := by decide +kernel
theorem dX5_firm_0 : decode cX5_firm 0 = .ok (.aload_n 0, 1) := by decide +kernel
theorem dX5_firm_1 : decode cX5_firm 1 = .ok (.getfield 50, 3) := by decide +kernel
theorem dX5_firm_4 : decode cX5_firm 4 = .ok (.aload_n 0, 1) := by decide +kernel
theorem dX5_firm_5 : decode cX5_firm 5 = .ok (.getfield 10, 3) := by decide +kernel
theorem dX5_firm_8 : decode cX5_firm 8 = .ok (.invokevirtual 174, 3) := by decide +kernel
theorem dX5_firm_11 : decode cX5_firm 11 = .ok (.ireturn, 1) := by decide +kernel
theorem dX5_row_0 : decode cX5_row 0 = .ok (.iload_n 1, 1) := by decide +kernel
theorem dX5_row_1 : decode cX5_row 1 = .ok (.ifCond .ge 10, 3) := by decide +kernel
theorem dX5_row_4 : decode cX5_row 4 = .ok (.aload_n 0, 1) := by decide +kernel
theorem dX5_row_5 : decode cX5_row 5 = .ok (.bipush (-4), 2) := by decide +kernel
theorem dX5_row_7 : decode cX5_row 7 = .ok (.invokevirtual 65, 3) := by decide +kernel
theorem dX5_row_10 : decode cX5_row 10 = .ok (.ireturn, 1) := by decide +kernel
theorem dX5_row_11 : decode cX5_row 11 = .ok (.iload_n 1, 1) := by decide +kernel
theorem dX5_row_12 : decode cX5_row 12 = .ok (.bipush 31, 2) := by decide +kernel
theorem dX5_row_14 : decode cX5_row 14 = .ok (.if_icmp .gt 12, 3) := by decide +kernel
theorem dX5_row_17 : decode cX5_row 17 = .ok (.aload_n 0, 1) := by decide +kernel
theorem dX5_row_18 : decode cX5_row 18 = .ok (.getfield 58, 3) := by decide +kernel
theorem dX5_row_21 : decode cX5_row 21 = .ok (.bipush 10, 2) := by decide +kernel
theorem dX5_row_23 : decode cX5_row 23 = .ok (.if_icmp .lt 10, 3) := by decide +kernel
theorem dX5_row_26 : decode cX5_row 26 = .ok (.aload_n 0, 1) := by decide +kernel
theorem dX5_row_27 : decode cX5_row 27 = .ok (.bipush (-6), 2) := by decide +kernel
theorem dX5_row_29 : decode cX5_row 29 = .ok (.invokevirtual 65, 3) := by decide +kernel
theorem dX5_row_32 : decode cX5_row 32 = .ok (.ireturn, 1) := by decide +kernel
theorem dX5_row_33 : decode cX5_row 33 = .ok (.aload_n 0, 1) := by decide +kernel
theorem dX5_row_34 : decode cX5_row 34 = .ok (.getfield 54, 3) := by decide +kernel
theorem dX5_row_37 : decode cX5_row 37 = .ok (.aload_n 0, 1) := by decide +kernel
theorem dX5_row_38 : decode cX5_row 38 = .ok (.getfield 58, 3) := by decide +kernel
theorem dX5_row_41 : decode cX5_row 41 = .ok (.iload_n 1, 1) := by decide +kernel
theorem dX5_row_42 : decode cX5_row 42 = .ok (.iastore, 1) := by decide +kernel
theorem dX5_row_43 : decode cX5_row 43 = .ok (.aload_n 0, 1) := by decide +kernel
theorem dX5_row_44 : decode cX5_row 44 = .ok (.dup, 1) := by decide +kernel
theorem dX5_row_45 : decode cX5_row 45 = .ok (.getfield 58, 3) := by decide +kernel
theorem dX5_row_48 : decode cX5_row 48 = .ok (.iconst 1, 1) := by decide +kernel
theorem dX5_row_49 : decode cX5_row 49 = .ok (.iadd, 1) := by decide +kernel
theorem dX5_row_50 : decode cX5_row 50 = .ok (.putfield 58, 3) := by decide +kernel
theorem dX5_row_53 : decode cX5_row 53 = .ok (.aload_n 0, 1) := by decide +kernel
theorem dX5_row_54 : decode cX5_row 54 = .ok (.getfield 58, 3) := by decide +kernel
theorem dX5_row_57 : decode cX5_row 57 = .ok (.ireturn, 1) := by decide +kernel
theorem dX5_rather_0 : decode cX5_rather 0 = .ok (.aload_n 0, 1) := by decide +kernel
theorem dX5_rather_1 : decode cX5_rather 1 = .ok (.invokevirtual 177, 3) := by decide +kernel
theorem dX5_rather_4 : decode cX5_rather 4 = .ok (.ifCond .ne 10, 3) := by decide +kernel
theorem dX5_rather_7 : decode cX5_rather 7 = .ok (.aload_n 0, 1) := by decide +kernel
theorem dX5_rather_8 : decode cX5_rather 8 = .ok (.bipush (-3), 2) := by decide +kernel
theorem dX5_rather_10 : decode cX5_rather 10 = .ok (.invokevirtual 65, 3) := by decide +kernel
theorem dX5_rather_13 : decode cX5_rather 13 = .ok (.ireturn, 1) := by decide +kernel
theorem dX5_rather_14 : decode cX5_rather 14 = .ok (.aload_n 0, 1) := by decide +kernel
theorem dX5_rather_15 : decode cX5_rather 15 = .ok (.getfield 50, 3) := by decide +kernel
theorem dX5_rather_18 : decode cX5_rather 18 = .ok (.aload_n 0, 1) := by decide +kernel
theorem dX5_rather_19 : decode cX5_rather 19 = .ok (.getfield 10, 3) := by decide +kernel
theorem dX5_rather_22 : decode cX5_rather 22 = .ok (.invokevirtual 180, 3) := by decide +kernel
theorem dX5_rather_25 : decode cX5_rather 25 = .ok (.ireturn, 1) := by decide +kernel
theorem dX5_truly_0 : decode cX5_truly 0 = .ok (.aload_n 0, 1) := by decide +kernel
theorem dX5_truly_1 : decode cX5_truly 1 = .ok (.getfield 10, 3) := by decide +kernel
theorem dX5_truly_4 : decode cX5_truly 4 = .ok (.iload_n 1, 1) := by decide +kernel
theorem dX5_truly_5 : decode cX5_truly 5 = .ok (.iload_n 2, 1) := by decide +kernel
theorem dX5_truly_6 : decode cX5_truly 6 = .ok (.invokevirtual 110, 3) := by decide +kernel
theorem dX5_truly_9 : decode cX5_truly 9 = .ok (.ifCond .ne 9, 3) := by decide +kernel
theorem dX5_truly_12 : decode cX5_truly 12 = .ok (.aload_n 0, 1) := by decide +kernel
theorem dX5_truly_13 : decode cX5_truly 13 = .ok (.iconst (-1), 1) := by decide +kernel
theorem dX5_truly_14 : decode cX5_truly 14 = .ok (.invokevirtual 65, 3) := by decide +kernel
theorem dX5_truly_17 : decode cX5_truly 17 = .ok (.ireturn, 1) := by decide +kernel
theorem dX5_truly_18 : decode cX5_truly 18 = .ok (.aload_n 0, 1) := by decide +kernel
theorem dX5_truly_19 : decode cX5_truly 19 = .ok (.getfield 36, 3) := by decide +kernel
theorem dX5_truly_22 : decode cX5_truly 22 = .ok (.aload_n 0, 1) := by decide +kernel
theorem dX5_truly_23 : decode cX5_truly 23 = .ok (.getfield 10, 3) := by decide +kernel
theorem dX5_truly_26 : decode cX5_truly 26 = .ok (.invokevirtual 104, 3) := by decide +kernel
theorem dX5_truly_29 : decode cX5_truly 29 = .ok (.aload_n 0, 1) := by decide +kernel
theorem dX5_truly_30 : decode cX5_truly 30 = .ok (.getfield 36, 3) := by decide +kernel
theorem dX5_truly_33 : decode cX5_truly 33 = .ok (.iload_n 1, 1) := by decide +kernel
theorem dX5_truly_34 : decode cX5_truly 34 = .ok (.iload_n 2, 1) := by decide +kernel
theorem dX5_truly_35 : decode cX5_truly 35 = .ok (.invokevirtual 183, 3) := by decide +kernel
theorem dX5_truly_38 : decode cX5_truly 38 = .ok (.istore_n 3, 1) := by decide +kernel
theorem dX5_truly_39 : decode cX5_truly 39 = .ok (.aload_n 0, 1) := by decide +kernel
theorem dX5_truly_40 : decode cX5_truly 40 = .ok (.getfield 16, 3) := by decide +kernel
theorem dX5_truly_43 : decode cX5_truly 43 = .ok (.aload_n 0, 1) := by decide +kernel
theorem dX5_truly_44 : decode cX5_truly 44 = .ok (.getfield 10, 3) := by decide +kernel
theorem dX5_truly_47 : decode cX5_truly 47 = .ok (.invokevirtual 83, 3) := by decide +kernel
theorem dX5_truly_50 : decode cX5_truly 50 = .ok (.iconst 0, 1) := by decide +kernel
theorem dX5_truly_51 : decode cX5_truly 51 = .ok (.istore 4, 2) := by decide +kernel
theorem dX5_truly_53 : decode cX5_truly 53 = .ok (.iconst 0, 1) := by decide +kernel
theorem dX5_truly_54 : decode cX5_truly 54 = .ok (.istore 5, 2) := by decide +kernel
theorem dX5_truly_56 : decode cX5_truly 56 = .ok (.iload 5, 2) := by decide +kernel
theorem dX5_truly_58 : decode cX5_truly 58 = .ok (.bipush 9, 2) := by decide +kernel
theorem dX5_truly_60 : decode cX5_truly 60 = .ok (.if_icmp .gt 53, 3) := by decide +kernel
theorem dX5_truly_63 : decode cX5_truly 63 = .ok (.aload_n 0, 1) := by decide +kernel
theorem dX5_truly_64 : decode cX5_truly 64 = .ok (.getfield 16, 3) := by decide +kernel
theorem dX5_truly_67 : decode cX5_truly 67 = .ok (.iload_n 1, 1) := by decide +kernel
theorem dX5_truly_68 : decode cX5_truly 68 = .ok (.iload_n 2, 1) := by decide +kernel
theorem dX5_truly_69 : decode cX5_truly 69 = .ok (.iload 5, 2) := by decide +kernel
theorem dX5_truly_71 : decode cX5_truly 71 = .ok (.invokevirtual 118, 3) := by decide +kernel
theorem dX5_truly_74 : decode cX5_truly 74 = .ok (.aload_n 0, 1) := by decide +kernel
theorem dX5_truly_75 : decode cX5_truly 75 = .ok (.getfield 36, 3) := by decide +kernel
theorem dX5_truly_78 : decode cX5_truly 78 = .ok (.aload_n 0, 1) := by decide +kernel
theorem dX5_truly_79 : decode cX5_truly 79 = .ok (.getfield 16, 3) := by decide +kernel
theorem dX5_truly_82 : decode cX5_truly 82 = .ok (.invokevirtual 104, 3) := by decide +kernel
theorem dX5_truly_85 : decode cX5_truly 85 = .ok (.aload_n 0, 1) := by decide +kernel
theorem dX5_truly_86 : decode cX5_truly 86 = .ok (.getfield 36, 3) := by decide +kernel
theorem dX5_truly_89 : decode cX5_truly 89 = .ok (.iload_n 1, 1) := by decide +kernel
theorem dX5_truly_90 : decode cX5_truly 90 = .ok (.iload_n 2, 1) := by decide +kernel
theorem dX5_truly_91 : decode cX5_truly 91 = .ok (.invokevirtual 183, 3) := by decide +kernel
theorem dX5_truly_94 : decode cX5_truly 94 = .ok (.iload_n 3, 1) := by decide +kernel
theorem dX5_truly_95 : decode cX5_truly 95 = .ok (.if_icmp .ne 12, 3) := by decide +kernel
theorem dX5_truly_98 : decode cX5_truly 98 = .ok (.iload 4, 2) := by decide +kernel
theorem dX5_truly_100 : decode cX5_truly 100 = .ok (.iconst 1, 1) := by decide +kernel
theorem dX5_truly_101 : decode cX5_truly 101 = .ok (.iload 5, 2) := by decide +kernel
theorem dX5_truly_103 : decode cX5_truly 103 = .ok (.ishl, 1) := by decide +kernel
theorem dX5_truly_104 : decode cX5_truly 104 = .ok (.ior, 1) := by decide +kernel
theorem dX5_truly_105 : decode cX5_truly 105 = .ok (.istore 4, 2) := by decide +kernel
theorem dX5_truly_107 : decode cX5_truly 107 = .ok (.iinc 5 1, 3) := by decide +kernel
theorem dX5_truly_110 : decode cX5_truly 110 = .ok (.goto (-54), 3) := by decide +kernel
theorem dX5_truly_113 : decode cX5_truly 113 = .ok (.iload 4, 2) := by decide +kernel
theorem dX5_truly_115 : decode cX5_truly 115 = .ok (.ireturn, 1) := by decide +kernel
theorem dX5_judge_0 : decode cX5_judge 0 = .ok (.aload_n 0, 1) := by decide +kernel
theorem dX5_judge_1 : decode cX5_judge 1 = .ok (.invokevirtual 186, 3) := by decide +kernel
theorem dX5_judge_4 : decode cX5_judge 4 = .ok (.istore_n 1, 1) := by decide +kernel
theorem dX5_judge_5 : decode cX5_judge 5 = .ok (.aload_n 0, 1) := by decide +kernel
theorem dX5_judge_6 : decode cX5_judge 6 = .ok (.getfield 10, 3) := by decide +kernel
theorem dX5_judge_9 : decode cX5_judge 9 = .ok (.getfield 189, 3) := by decide +kernel
theorem dX5_judge_12 : decode cX5_judge 12 = .ok (.iconst 0, 1) := by decide +kernel
theorem dX5_judge_13 : decode cX5_judge 13 = .ok (.iaload, 1) := by decide +kernel
theorem dX5_judge_14 : decode cX5_judge 14 = .ok (.istore_n 2, 1) := by decide +kernel
theorem dX5_judge_15 : decode cX5_judge 15 = .ok (.aload_n 0, 1) := by decide +kernel
theorem dX5_judge_16 : decode cX5_judge 16 = .ok (.getfield 10, 3) := by decide +kernel
theorem dX5_judge_19 : decode cX5_judge 19 = .ok (.invokevirtual 192, 3) := by decide +kernel
theorem dX5_judge_22 : decode cX5_judge 22 = .ok (.istore_n 3, 1) := by decide +kernel
theorem dX5_judge_23 : decode cX5_judge 23 = .ok (.aload_n 0, 1) := by decide +kernel
theorem dX5_judge_24 : decode cX5_judge 24 = .ok (.getfield 36, 3) := by decide +kernel
theorem dX5_judge_27 : decode cX5_judge 27 = .ok (.aload_n 0, 1) := by decide +kernel
theorem dX5_judge_28 : decode cX5_judge 28 = .ok (.getfield 10, 3) := by decide +kernel
theorem dX5_judge_31 : decode cX5_judge 31 = .ok (.invokevirtual 104, 3) := by decide +kernel
theorem dX5_judge_34 : decode cX5_judge 34 = .ok (.iconst 0, 1) := by decide +kernel
theorem dX5_judge_35 : decode cX5_judge 35 = .ok (.istore 4, 2) := by decide +kernel
theorem dX5_judge_37 : decode cX5_judge 37 = .ok (.iload 4, 2) := by decide +kernel
theorem dX5_judge_39 : decode cX5_judge 39 = .ok (.iload_n 1, 1) := by decide +kernel
theorem dX5_judge_40 : decode cX5_judge 40 = .ok (.if_icmp .ge 57, 3) := by decide +kernel
theorem dX5_judge_43 : decode cX5_judge 43 = .ok (.iload 4, 2) := by decide +kernel
theorem dX5_judge_45 : decode cX5_judge 45 = .ok (.iload_n 3, 1) := by decide +kernel
theorem dX5_judge_46 : decode cX5_judge 46 = .ok (.if_icmp .ge 51, 3) := by decide +kernel
theorem dX5_judge_49 : decode cX5_judge 49 = .ok (.iload 4, 2) := by decide +kernel
theorem dX5_judge_51 : decode cX5_judge 51 = .ok (.iload_n 2, 1) := by decide +kernel
theorem dX5_judge_52 : decode cX5_judge 52 = .ok (.if_icmp .ge 8, 3) := by decide +kernel
theorem dX5_judge_55 : decode cX5_judge 55 = .ok (.iload 4, 2) := by decide +kernel
theorem dX5_judge_57 : decode cX5_judge 57 = .ok (.goto 9, 3) := by decide +kernel
theorem dX5_judge_60 : decode cX5_judge 60 = .ok (.iconst 5, 1) := by decide +kernel
theorem dX5_judge_61 : decode cX5_judge 61 = .ok (.iload 4, 2) := by decide +kernel
theorem dX5_judge_63 : decode cX5_judge 63 = .ok (.iadd, 1) := by decide +kernel
theorem dX5_judge_64 : decode cX5_judge 64 = .ok (.iload_n 2, 1) := by decide +kernel
theorem dX5_judge_65 : decode cX5_judge 65 = .ok (.isub, 1) := by decide +kernel
theorem dX5_judge_66 : decode cX5_judge 66 = .ok (.istore 5, 2) := by decide +kernel
theorem dX5_judge_68 : decode cX5_judge 68 = .ok (.aload_n 0, 1) := by decide +kernel
theorem dX5_judge_69 : decode cX5_judge 69 = .ok (.getfield 54, 3) := by decide +kernel
theorem dX5_judge_72 : decode cX5_judge 72 = .ok (.iload 4, 2) := by decide +kernel
theorem dX5_judge_74 : decode cX5_judge 74 = .ok (.iaload, 1) := by decide +kernel
theorem dX5_judge_75 : decode cX5_judge 75 = .ok (.aload_n 0, 1) := by decide +kernel
theorem dX5_judge_76 : decode cX5_judge 76 = .ok (.getfield 36, 3) := by decide +kernel
theorem dX5_judge_79 : decode cX5_judge 79 = .ok (.getfield 145, 3) := by decide +kernel
theorem dX5_judge_82 : decode cX5_judge 82 = .ok (.iload 5, 2) := by decide +kernel
theorem dX5_judge_84 : decode cX5_judge 84 = .ok (.iaload, 1) := by decide +kernel
theorem dX5_judge_85 : decode cX5_judge 85 = .ok (.if_icmp .eq 6, 3) := by decide +kernel
theorem dX5_judge_88 : decode cX5_judge 88 = .ok (.iload 4, 2) := by decide +kernel
theorem dX5_judge_90 : decode cX5_judge 90 = .ok (.ireturn, 1) := by decide +kernel
theorem dX5_judge_91 : decode cX5_judge 91 = .ok (.iinc 4 1, 3) := by decide +kernel
theorem dX5_judge_94 : decode cX5_judge 94 = .ok (.goto (-57), 3) := by decide +kernel
theorem dX5_judge_97 : decode cX5_judge 97 = .ok (.iload_n 1, 1) := by decide +kernel
theorem dX5_judge_98 : decode cX5_judge 98 = .ok (.iload_n 3, 1) := by decide +kernel
theorem dX5_judge_99 : decode cX5_judge 99 = .ok (.if_icmp .ne 8, 3) := by decide +kernel
theorem dX5_judge_102 : decode cX5_judge 102 = .ok (.bipush (-9), 2) := by decide +kernel
theorem dX5_judge_104 : decode cX5_judge 104 = .ok (.goto 8, 3) := by decide +kernel
theorem dX5_judge_107 : decode cX5_judge 107 = .ok (.iload_n 1, 1) := by decide +kernel
theorem dX5_judge_108 : decode cX5_judge 108 = .ok (.iload_n 3, 1) := by decide +kernel
theorem dX5_judge_109 : decode cX5_judge 109 = .ok (.invokestatic 195, 3) := by decide +kernel
theorem dX5_judge_112 : decode cX5_judge 112 = .ok (.ireturn, 1) := by decide +kernel
theorem dX5_clear_0 : decode cX5_clear 0 = .ok (.aload_n 0, 1) := by decide +kernel
theorem dX5_clear_1 : decode cX5_clear 1 = .ok (.getfield 58, 3) := by decide +kernel
theorem dX5_clear_4 : decode cX5_clear 4 = .ok (.istore_n 1, 1) := by decide +kernel
theorem dX5_clear_5 : decode cX5_clear 5 = .ok (.aload_n 0, 1) := by decide +kernel
theorem dX5_clear_6 : decode cX5_clear 6 = .ok (.iconst 0, 1) := by decide +kernel
theorem dX5_clear_7 : decode cX5_clear 7 = .ok (.putfield 58, 3) := by decide +kernel
theorem dX5_clear_10 : decode cX5_clear 10 = .ok (.iload_n 1, 1) := by decide +kernel
theorem dX5_clear_11 : decode cX5_clear 11 = .ok (.ireturn, 1) := by decide +kernel
theorem dX5_lots_0 : decode cX5_lots 0 = .ok (.iload_n 1, 1) := by decide +kernel
theorem dX5_lots_1 : decode cX5_lots 1 = .ok (.iconst 1, 1) := by decide +kernel
theorem dX5_lots_2 : decode cX5_lots 2 = .ok (.if_icmp .ge 10, 3) := by decide +kernel
theorem dX5_lots_5 : decode cX5_lots 5 = .ok (.aload_n 0, 1) := by decide +kernel
theorem dX5_lots_6 : decode cX5_lots 6 = .ok (.bipush (-4), 2) := by decide +kernel
theorem dX5_lots_8 : decode cX5_lots 8 = .ok (.invokevirtual 65, 3) := by decide +kernel
theorem dX5_lots_11 : decode cX5_lots 11 = .ok (.ireturn, 1) := by decide +kernel
theorem dX5_lots_12 : decode cX5_lots 12 = .ok (.iload_n 1, 1) := by decide +kernel
theorem dX5_lots_13 : decode cX5_lots 13 = .ok (.bipush 20, 2) := by decide +kernel
theorem dX5_lots_15 : decode cX5_lots 15 = .ok (.if_icmp .le 10, 3) := by decide +kernel
theorem dX5_lots_18 : decode cX5_lots 18 = .ok (.aload_n 0, 1) := by decide +kernel
theorem dX5_lots_19 : decode cX5_lots 19 = .ok (.bipush (-6), 2) := by decide +kernel
theorem dX5_lots_21 : decode cX5_lots 21 = .ok (.invokevirtual 65, 3) := by decide +kernel
theorem dX5_lots_24 : decode cX5_lots 24 = .ok (.ireturn, 1) := by decide +kernel
theorem dX5_lots_25 : decode cX5_lots 25 = .ok (.aload_n 0, 1) := by decide +kernel
theorem dX5_lots_26 : decode cX5_lots 26 = .ok (.getfield 16, 3) := by decide +kernel
theorem dX5_lots_29 : decode cX5_lots 29 = .ok (.aload_n 0, 1) := by decide +kernel
theorem dX5_lots_30 : decode cX5_lots 30 = .ok (.getfield 10, 3) := by decide +kernel
theorem dX5_lots_33 : decode cX5_lots 33 = .ok (.invokevirtual 83, 3) := by decide +kernel
theorem dX5_lots_36 : decode cX5_lots 36 = .ok (.iload_n 2, 1) := by decide +kernel
theorem dX5_lots_37 : decode cX5_lots 37 = .ok (.istore_n 3, 1) := by decide +kernel
theorem dX5_lots_38 : decode cX5_lots 38 = .ok (.iconst 0, 1) := by decide +kernel
theorem dX5_lots_39 : decode cX5_lots 39 = .ok (.istore 4, 2) := by decide +kernel
theorem dX5_lots_41 : decode cX5_lots 41 = .ok (.iconst 0, 1) := by decide +kernel
theorem dX5_lots_42 : decode cX5_lots 42 = .ok (.istore 5, 2) := by decide +kernel
theorem dX5_lots_44 : decode cX5_lots 44 = .ok (.iload 5, 2) := by decide +kernel
theorem dX5_lots_46 : decode cX5_lots 46 = .ok (.iload_n 1, 1) := by decide +kernel
theorem dX5_lots_47 : decode cX5_lots 47 = .ok (.if_icmp .ge 63, 3) := by decide +kernel
theorem dX5_lots_50 : decode cX5_lots 50 = .ok (.aload_n 0, 1) := by decide +kernel
theorem dX5_lots_51 : decode cX5_lots 51 = .ok (.getfield 16, 3) := by decide +kernel
theorem dX5_lots_54 : decode cX5_lots 54 = .ok (.iload_n 3, 1) := by decide +kernel
theorem dX5_lots_55 : decode cX5_lots 55 = .ok (.invokevirtual 200, 3) := by decide +kernel
theorem dX5_lots_58 : decode cX5_lots 58 = .ok (.istore_n 3, 1) := by decide +kernel
theorem dX5_lots_59 : decode cX5_lots 59 = .ok (.aload_n 0, 1) := by decide +kernel
theorem dX5_lots_60 : decode cX5_lots 60 = .ok (.getfield 36, 3) := by decide +kernel
theorem dX5_lots_63 : decode cX5_lots 63 = .ok (.aload_n 0, 1) := by decide +kernel
theorem dX5_lots_64 : decode cX5_lots 64 = .ok (.getfield 16, 3) := by decide +kernel
theorem dX5_lots_67 : decode cX5_lots 67 = .ok (.invokevirtual 104, 3) := by decide +kernel
theorem dX5_lots_70 : decode cX5_lots 70 = .ok (.aload_n 0, 1) := by decide +kernel
theorem dX5_lots_71 : decode cX5_lots 71 = .ok (.getfield 43, 3) := by decide +kernel
theorem dX5_lots_74 : decode cX5_lots 74 = .ok (.aload_n 0, 1) := by decide +kernel
theorem dX5_lots_75 : decode cX5_lots 75 = .ok (.getfield 16, 3) := by decide +kernel
theorem dX5_lots_78 : decode cX5_lots 78 = .ok (.aload_n 0, 1) := by decide +kernel
theorem dX5_lots_79 : decode cX5_lots 79 = .ok (.getfield 36, 3) := by decide +kernel
theorem dX5_lots_82 : decode cX5_lots 82 = .ok (.aload_n 0, 1) := by decide +kernel
theorem dX5_lots_83 : decode cX5_lots 83 = .ok (.getfield 16, 3) := by decide +kernel
theorem dX5_lots_86 : decode cX5_lots 86 = .ok (.getfield 131, 3) := by decide +kernel
theorem dX5_lots_89 : decode cX5_lots 89 = .ok (.invokevirtual 151, 3) := by decide +kernel
theorem dX5_lots_92 : decode cX5_lots 92 = .ok (.iload 4, 2) := by decide +kernel
theorem dX5_lots_94 : decode cX5_lots 94 = .ok (.aload_n 0, 1) := by decide +kernel
theorem dX5_lots_95 : decode cX5_lots 95 = .ok (.getfield 43, 3) := by decide +kernel
theorem dX5_lots_98 : decode cX5_lots 98 = .ok (.invokevirtual 155, 3) := by decide +kernel
theorem dX5_lots_101 : decode cX5_lots 101 = .ok (.iadd, 1) := by decide +kernel
theorem dX5_lots_102 : decode cX5_lots 102 = .ok (.istore 4, 2) := by decide +kernel
theorem dX5_lots_104 : decode cX5_lots 104 = .ok (.iinc 5 1, 3) := by decide +kernel
theorem dX5_lots_107 : decode cX5_lots 107 = .ok (.goto (-63), 3) := by decide +kernel
theorem dX5_lots_110 : decode cX5_lots 110 = .ok (.iload 4, 2) := by decide +kernel
theorem dX5_lots_112 : decode cX5_lots 112 = .ok (.ireturn, 1) := by decide +kernel
theorem dX5_image_0 : decode cX5_image 0 = .ok (.aload_n 0, 1) := by decide +kernel
theorem dX5_image_1 : decode cX5_image 1 = .ok (.getfield 19, 3) := by decide +kernel
theorem dX5_image_4 : decode cX5_image 4 = .ok (.aload_n 0, 1) := by decide +kernel
theorem dX5_image_5 : decode cX5_image 5 = .ok (.getfield 10, 3) := by decide +kernel
theorem dX5_image_8 : decode cX5_image 8 = .ok (.invokevirtual 83, 3) := by decide +kernel
theorem dX5_image_11 : decode cX5_image 11 = .ok (.aload_n 0, 1) := by decide +kernel
theorem dX5_image_12 : decode cX5_image 12 = .ok (.iconst 1, 1) := by decide +kernel
theorem dX5_image_13 : decode cX5_image 13 = .ok (.putfield 22, 3) := by decide +kernel
theorem dX5_image_16 : decode cX5_image 16 = .ok (.aload_n 0, 1) := by decide +kernel
theorem dX5_image_17 : decode cX5_image 17 = .ok (.getfield 10, 3) := by decide +kernel
theorem dX5_image_20 : decode cX5_image 20 = .ok (.invokevirtual 192, 3) := by decide +kernel
theorem dX5_image_23 : decode cX5_image 23 = .ok (.ireturn, 1) := by decide +kernel
theorem dX5_on_0 : decode cX5_on 0 = .ok (.aload_n 0, 1) := by decide +kernel
theorem dX5_on_1 : decode cX5_on 1 = .ok (.getfield 22, 3) := by decide +kernel
theorem dX5_on_4 : decode cX5_on 4 = .ok (.ifCond .ne 10, 3) := by decide +kernel
theorem dX5_on_7 : decode cX5_on 7 = .ok (.aload_n 0, 1) := by decide +kernel
theorem dX5_on_8 : decode cX5_on 8 = .ok (.bipush (-3), 2) := by decide +kernel
theorem dX5_on_10 : decode cX5_on 10 = .ok (.invokevirtual 65, 3) := by decide +kernel
theorem dX5_on_13 : decode cX5_on 13 = .ok (.ireturn, 1) := by decide +kernel
theorem dX5_on_14 : decode cX5_on 14 = .ok (.aload_n 0, 1) := by decide +kernel
theorem dX5_on_15 : decode cX5_on 15 = .ok (.getfield 10, 3) := by decide +kernel
theorem dX5_on_18 : decode cX5_on 18 = .ok (.aload_n 0, 1) := by decide +kernel
theorem dX5_on_19 : decode cX5_on 19 = .ok (.getfield 19, 3) := by decide +kernel
theorem dX5_on_22 : decode cX5_on 22 = .ok (.invokevirtual 83, 3) := by decide +kernel
theorem dX5_on_25 : decode cX5_on 25 = .ok (.aload_n 0, 1) := by decide +kernel
theorem dX5_on_26 : decode cX5_on 26 = .ok (.getfield 10, 3) := by decide +kernel
theorem dX5_on_29 : decode cX5_on 29 = .ok (.invokevirtual 192, 3) := by decide +kernel
end
section
theorem dX5_on_32 : decode cX5_on 32 = .ok (.ireturn, 1) := by decide +kernel
theorem dX5_count_0 : decode cX5_count 0 = .ok (.iload_n 1, 1) := by decide +kernel
theorem dX5_count_1 : decode cX5_count 1 = .ok (.tableswitch 139 0 8 #[51, 61, 71, 79, 87, 95, 103, 126, 131], 51) := by decide +kernel
theorem dX5_count_52 : decode cX5_count 52 = .ok (.aload_n 0, 1) := by decide +kernel
theorem dX5_count_53 : decode cX5_count 53 = .ok (.getfield 10, 3) := by decide +kernel
theorem dX5_count_56 : decode cX5_count 56 = .ok (.getfield 189, 3) := by decide +kernel
theorem dX5_count_59 : decode cX5_count 59 = .ok (.iconst 0, 1) := by decide +kernel
theorem dX5_count_60 : decode cX5_count 60 = .ok (.iaload, 1) := by decide +kernel
theorem dX5_count_61 : decode cX5_count 61 = .ok (.ireturn, 1) := by decide +kernel
theorem dX5_count_62 : decode cX5_count 62 = .ok (.aload_n 0, 1) := by decide +kernel
theorem dX5_count_63 : decode cX5_count 63 = .ok (.getfield 10, 3) := by decide +kernel
theorem dX5_count_66 : decode cX5_count 66 = .ok (.getfield 189, 3) := by decide +kernel
theorem dX5_count_69 : decode cX5_count 69 = .ok (.iconst 1, 1) := by decide +kernel
theorem dX5_count_70 : decode cX5_count 70 = .ok (.iaload, 1) := by decide +kernel
theorem dX5_count_71 : decode cX5_count 71 = .ok (.ireturn, 1) := by decide +kernel
theorem dX5_count_72 : decode cX5_count 72 = .ok (.aload_n 0, 1) := by decide +kernel
theorem dX5_count_73 : decode cX5_count 73 = .ok (.getfield 10, 3) := by decide +kernel
theorem dX5_count_76 : decode cX5_count 76 = .ok (.invokevirtual 203, 3) := by decide +kernel
theorem dX5_count_79 : decode cX5_count 79 = .ok (.ireturn, 1) := by decide +kernel
theorem dX5_count_80 : decode cX5_count 80 = .ok (.aload_n 0, 1) := by decide +kernel
theorem dX5_count_81 : decode cX5_count 81 = .ok (.getfield 10, 3) := by decide +kernel
theorem dX5_count_84 : decode cX5_count 84 = .ok (.getfield 122, 3) := by decide +kernel
theorem dX5_count_87 : decode cX5_count 87 = .ok (.ireturn, 1) := by decide +kernel
theorem dX5_count_88 : decode cX5_count 88 = .ok (.aload_n 0, 1) := by decide +kernel
theorem dX5_count_89 : decode cX5_count 89 = .ok (.getfield 10, 3) := by decide +kernel
theorem dX5_count_92 : decode cX5_count 92 = .ok (.getfield 125, 3) := by decide +kernel
theorem dX5_count_95 : decode cX5_count 95 = .ok (.ireturn, 1) := by decide +kernel
theorem dX5_count_96 : decode cX5_count 96 = .ok (.aload_n 0, 1) := by decide +kernel
theorem dX5_count_97 : decode cX5_count 97 = .ok (.getfield 10, 3) := by decide +kernel
theorem dX5_count_100 : decode cX5_count 100 = .ok (.getfield 131, 3) := by decide +kernel
theorem dX5_count_103 : decode cX5_count 103 = .ok (.ireturn, 1) := by decide +kernel
theorem dX5_count_104 : decode cX5_count 104 = .ok (.aload_n 0, 1) := by decide +kernel
theorem dX5_count_105 : decode cX5_count 105 = .ok (.getfield 36, 3) := by decide +kernel
theorem dX5_count_108 : decode cX5_count 108 = .ok (.aload_n 0, 1) := by decide +kernel
theorem dX5_count_109 : decode cX5_count 109 = .ok (.getfield 10, 3) := by decide +kernel
theorem dX5_count_112 : decode cX5_count 112 = .ok (.invokevirtual 104, 3) := by decide +kernel
theorem dX5_count_115 : decode cX5_count 115 = .ok (.aload_n 0, 1) := by decide +kernel
theorem dX5_count_116 : decode cX5_count 116 = .ok (.getfield 36, 3) := by decide +kernel
theorem dX5_count_119 : decode cX5_count 119 = .ok (.aload_n 0, 1) := by decide +kernel
theorem dX5_count_120 : decode cX5_count 120 = .ok (.getfield 10, 3) := by decide +kernel
theorem dX5_count_123 : decode cX5_count 123 = .ok (.invokevirtual 205, 3) := by decide +kernel
theorem dX5_count_126 : decode cX5_count 126 = .ok (.ireturn, 1) := by decide +kernel
theorem dX5_count_127 : decode cX5_count 127 = .ok (.aload_n 0, 1) := by decide +kernel
theorem dX5_count_128 : decode cX5_count 128 = .ok (.getfield 58, 3) := by decide +kernel
theorem dX5_count_131 : decode cX5_count 131 = .ok (.ireturn, 1) := by decide +kernel
theorem dX5_count_132 : decode cX5_count 132 = .ok (.aload_n 0, 1) := by decide +kernel
theorem dX5_count_133 : decode cX5_count 133 = .ok (.getfield 29, 3) := by decide +kernel
theorem dX5_count_136 : decode cX5_count 136 = .ok (.getfield 208, 3) := by decide +kernel
theorem dX5_count_139 : decode cX5_count 139 = .ok (.ireturn, 1) := by decide +kernel
theorem dX5_count_140 : decode cX5_count 140 = .ok (.iload_n 1, 1) := by decide +kernel
theorem dX5_count_141 : decode cX5_count 141 = .ok (.bipush 11, 2) := by decide +kernel
theorem dX5_count_143 : decode cX5_count 143 = .ok (.if_icmp .lt 21, 3) := by decide +kernel
theorem dX5_count_146 : decode cX5_count 146 = .ok (.iload_n 1, 1) := by decide +kernel
theorem dX5_count_147 : decode cX5_count 147 = .ok (.bipush 16, 2) := by decide +kernel
theorem dX5_count_149 : decode cX5_count 149 = .ok (.if_icmp .gt 15, 3) := by decide +kernel
theorem dX5_count_152 : decode cX5_count 152 = .ok (.aload_n 0, 1) := by decide +kernel
theorem dX5_count_153 : decode cX5_count 153 = .ok (.getfield 62, 3) := by decide +kernel
theorem dX5_count_156 : decode cX5_count 156 = .ok (.iload_n 1, 1) := by decide +kernel
theorem dX5_count_157 : decode cX5_count 157 = .ok (.bipush 10, 2) := by decide +kernel
theorem dX5_count_159 : decode cX5_count 159 = .ok (.isub, 1) := by decide +kernel
theorem dX5_count_160 : decode cX5_count 160 = .ok (.iaload, 1) := by decide +kernel
theorem dX5_count_161 : decode cX5_count 161 = .ok (.goto 5, 3) := by decide +kernel
theorem dX5_count_164 : decode cX5_count 164 = .ok (.bipush (-9), 2) := by decide +kernel
theorem dX5_count_166 : decode cX5_count 166 = .ok (.ireturn, 1) := by decide +kernel
theorem dX5_refuse_0 : decode cX5_refuse 0 = .ok (.iload_n 1, 1) := by decide +kernel
theorem dX5_refuse_1 : decode cX5_refuse 1 = .ok (.ifCond .ge 24, 3) := by decide +kernel
theorem dX5_refuse_4 : decode cX5_refuse 4 = .ok (.iload_n 1, 1) := by decide +kernel
theorem dX5_refuse_5 : decode cX5_refuse 5 = .ok (.aload_n 0, 1) := by decide +kernel
theorem dX5_refuse_6 : decode cX5_refuse 6 = .ok (.getfield 62, 3) := by decide +kernel
theorem dX5_refuse_9 : decode cX5_refuse 9 = .ok (.arraylength, 1) := by decide +kernel
theorem dX5_refuse_10 : decode cX5_refuse 10 = .ok (.ineg, 1) := by decide +kernel
theorem dX5_refuse_11 : decode cX5_refuse 11 = .ok (.if_icmp .le 14, 3) := by decide +kernel
theorem dX5_refuse_14 : decode cX5_refuse 14 = .ok (.aload_n 0, 1) := by decide +kernel
theorem dX5_refuse_15 : decode cX5_refuse 15 = .ok (.getfield 62, 3) := by decide +kernel
theorem dX5_refuse_18 : decode cX5_refuse 18 = .ok (.iload_n 1, 1) := by decide +kernel
theorem dX5_refuse_19 : decode cX5_refuse 19 = .ok (.ineg, 1) := by decide +kernel
theorem dX5_refuse_20 : decode cX5_refuse 20 = .ok (.dup2, 1) := by decide +kernel
theorem dX5_refuse_21 : decode cX5_refuse 21 = .ok (.iaload, 1) := by decide +kernel
theorem dX5_refuse_22 : decode cX5_refuse 22 = .ok (.iconst 1, 1) := by decide +kernel
theorem dX5_refuse_23 : decode cX5_refuse 23 = .ok (.iadd, 1) := by decide +kernel
theorem dX5_refuse_24 : decode cX5_refuse 24 = .ok (.iastore, 1) := by decide +kernel
theorem dX5_refuse_25 : decode cX5_refuse 25 = .ok (.iload_n 1, 1) := by decide +kernel
theorem dX5_refuse_26 : decode cX5_refuse 26 = .ok (.ireturn, 1) := by decide +kernel
theorem dX5_gotWhenAsking_0 : decode cX5_gotWhenAsking 0 = .ok (.aload_n 0, 1) := by decide +kernel
theorem dX5_gotWhenAsking_1 : decode cX5_gotWhenAsking 1 = .ok (.getfield 10, 3) := by decide +kernel
theorem dX5_gotWhenAsking_4 : decode cX5_gotWhenAsking 4 = .ok (.iload_n 2, 1) := by decide +kernel
theorem dX5_gotWhenAsking_5 : decode cX5_gotWhenAsking 5 = .ok (.invokevirtual 94, 3) := by decide +kernel
theorem dX5_gotWhenAsking_8 : decode cX5_gotWhenAsking 8 = .ok (.ifCond .ne 9, 3) := by decide +kernel
theorem dX5_gotWhenAsking_11 : decode cX5_gotWhenAsking 11 = .ok (.aload_n 0, 1) := by decide +kernel
theorem dX5_gotWhenAsking_12 : decode cX5_gotWhenAsking 12 = .ok (.iconst (-1), 1) := by decide +kernel
theorem dX5_gotWhenAsking_13 : decode cX5_gotWhenAsking 13 = .ok (.invokevirtual 65, 3) := by decide +kernel
theorem dX5_gotWhenAsking_16 : decode cX5_gotWhenAsking 16 = .ok (.ireturn, 1) := by decide +kernel
theorem dX5_gotWhenAsking_17 : decode cX5_gotWhenAsking 17 = .ok (.aload_n 0, 1) := by decide +kernel
theorem dX5_gotWhenAsking_18 : decode cX5_gotWhenAsking 18 = .ok (.getfield 43, 3) := by decide +kernel
theorem dX5_gotWhenAsking_21 : decode cX5_gotWhenAsking 21 = .ok (.aload_n 0, 1) := by decide +kernel
theorem dX5_gotWhenAsking_22 : decode cX5_gotWhenAsking 22 = .ok (.getfield 10, 3) := by decide +kernel
theorem dX5_gotWhenAsking_25 : decode cX5_gotWhenAsking 25 = .ok (.iload_n 1, 1) := by decide +kernel
theorem dX5_gotWhenAsking_26 : decode cX5_gotWhenAsking 26 = .ok (.invokevirtual 211, 3) := by decide +kernel
theorem dX5_gotWhenAsking_29 : decode cX5_gotWhenAsking 29 = .ok (.aload_n 0, 1) := by decide +kernel
theorem dX5_gotWhenAsking_30 : decode cX5_gotWhenAsking 30 = .ok (.getfield 43, 3) := by decide +kernel
theorem dX5_gotWhenAsking_33 : decode cX5_gotWhenAsking 33 = .ok (.getfield 215, 3) := by decide +kernel
theorem dX5_gotWhenAsking_36 : decode cX5_gotWhenAsking 36 = .ok (.iload_n 2, 1) := by decide +kernel
theorem dX5_gotWhenAsking_37 : decode cX5_gotWhenAsking 37 = .ok (.iaload, 1) := by decide +kernel
theorem dX5_gotWhenAsking_38 : decode cX5_gotWhenAsking 38 = .ok (.ireturn, 1) := by decide +kernel
theorem dX5_holdAsTheRowTells_0 : decode cX5_holdAsTheRowTells 0 = .ok (.aload_n 0, 1) := by decide +kernel
theorem dX5_holdAsTheRowTells_1 : decode cX5_holdAsTheRowTells 1 = .ok (.getfield 58, 3) := by decide +kernel
theorem dX5_holdAsTheRowTells_4 : decode cX5_holdAsTheRowTells 4 = .ok (.aload_n 0, 1) := by decide +kernel
theorem dX5_holdAsTheRowTells_5 : decode cX5_holdAsTheRowTells 5 = .ok (.getfield 10, 3) := by decide +kernel
theorem dX5_holdAsTheRowTells_8 : decode cX5_holdAsTheRowTells 8 = .ok (.getfield 189, 3) := by decide +kernel
theorem dX5_holdAsTheRowTells_11 : decode cX5_holdAsTheRowTells 11 = .ok (.iconst 0, 1) := by decide +kernel
theorem dX5_holdAsTheRowTells_12 : decode cX5_holdAsTheRowTells 12 = .ok (.iaload, 1) := by decide +kernel
theorem dX5_holdAsTheRowTells_13 : decode cX5_holdAsTheRowTells 13 = .ok (.if_icmp .eq 5, 3) := by decide +kernel
theorem dX5_holdAsTheRowTells_16 : decode cX5_holdAsTheRowTells 16 = .ok (.iconst 0, 1) := by decide +kernel
theorem dX5_holdAsTheRowTells_17 : decode cX5_holdAsTheRowTells 17 = .ok (.ireturn, 1) := by decide +kernel
theorem dX5_holdAsTheRowTells_18 : decode cX5_holdAsTheRowTells 18 = .ok (.aload_n 0, 1) := by decide +kernel
theorem dX5_holdAsTheRowTells_19 : decode cX5_holdAsTheRowTells 19 = .ok (.getfield 50, 3) := by decide +kernel
theorem dX5_holdAsTheRowTells_22 : decode cX5_holdAsTheRowTells 22 = .ok (.invokevirtual 218, 3) := by decide +kernel
theorem dX5_holdAsTheRowTells_25 : decode cX5_holdAsTheRowTells 25 = .ok (.iconst 0, 1) := by decide +kernel
theorem dX5_holdAsTheRowTells_26 : decode cX5_holdAsTheRowTells 26 = .ok (.istore_n 1, 1) := by decide +kernel
theorem dX5_holdAsTheRowTells_27 : decode cX5_holdAsTheRowTells 27 = .ok (.iload_n 1, 1) := by decide +kernel
theorem dX5_holdAsTheRowTells_28 : decode cX5_holdAsTheRowTells 28 = .ok (.aload_n 0, 1) := by decide +kernel
theorem dX5_holdAsTheRowTells_29 : decode cX5_holdAsTheRowTells 29 = .ok (.getfield 58, 3) := by decide +kernel
theorem dX5_holdAsTheRowTells_32 : decode cX5_holdAsTheRowTells 32 = .ok (.if_icmp .ge 54, 3) := by decide +kernel
theorem dX5_holdAsTheRowTells_35 : decode cX5_holdAsTheRowTells 35 = .ok (.aload_n 0, 1) := by decide +kernel
theorem dX5_holdAsTheRowTells_36 : decode cX5_holdAsTheRowTells 36 = .ok (.getfield 54, 3) := by decide +kernel
theorem dX5_holdAsTheRowTells_39 : decode cX5_holdAsTheRowTells 39 = .ok (.iload_n 1, 1) := by decide +kernel
theorem dX5_holdAsTheRowTells_40 : decode cX5_holdAsTheRowTells 40 = .ok (.iaload, 1) := by decide +kernel
theorem dX5_holdAsTheRowTells_41 : decode cX5_holdAsTheRowTells 41 = .ok (.istore_n 2, 1) := by decide +kernel
theorem dX5_holdAsTheRowTells_42 : decode cX5_holdAsTheRowTells 42 = .ok (.iload_n 2, 1) := by decide +kernel
theorem dX5_holdAsTheRowTells_43 : decode cX5_holdAsTheRowTells 43 = .ok (.bipush 9, 2) := by decide +kernel
theorem dX5_holdAsTheRowTells_45 : decode cX5_holdAsTheRowTells 45 = .ok (.if_icmp .ne 6, 3) := by decide +kernel
theorem dX5_holdAsTheRowTells_48 : decode cX5_holdAsTheRowTells 48 = .ok (.goto 32, 3) := by decide +kernel
theorem dX5_holdAsTheRowTells_51 : decode cX5_holdAsTheRowTells 51 = .ok (.iload_n 2, 1) := by decide +kernel
theorem dX5_holdAsTheRowTells_52 : decode cX5_holdAsTheRowTells 52 = .ok (.aload_n 0, 1) := by decide +kernel
theorem dX5_holdAsTheRowTells_53 : decode cX5_holdAsTheRowTells 53 = .ok (.getfield 10, 3) := by decide +kernel
theorem dX5_holdAsTheRowTells_56 : decode cX5_holdAsTheRowTells 56 = .ok (.getfield 189, 3) := by decide +kernel
theorem dX5_holdAsTheRowTells_59 : decode cX5_holdAsTheRowTells 59 = .ok (.iconst 1, 1) := by decide +kernel
theorem dX5_holdAsTheRowTells_60 : decode cX5_holdAsTheRowTells 60 = .ok (.iaload, 1) := by decide +kernel
theorem dX5_holdAsTheRowTells_61 : decode cX5_holdAsTheRowTells 61 = .ok (.if_icmp .ge 17, 3) := by decide +kernel
theorem dX5_holdAsTheRowTells_64 : decode cX5_holdAsTheRowTells 64 = .ok (.aload_n 0, 1) := by decide +kernel
theorem dX5_holdAsTheRowTells_65 : decode cX5_holdAsTheRowTells 65 = .ok (.getfield 50, 3) := by decide +kernel
theorem dX5_holdAsTheRowTells_68 : decode cX5_holdAsTheRowTells 68 = .ok (.iload_n 1, 1) := by decide +kernel
theorem dX5_holdAsTheRowTells_69 : decode cX5_holdAsTheRowTells 69 = .ok (.iconst 5, 1) := by decide +kernel
theorem dX5_holdAsTheRowTells_70 : decode cX5_holdAsTheRowTells 70 = .ok (.iload_n 2, 1) := by decide +kernel
theorem dX5_holdAsTheRowTells_71 : decode cX5_holdAsTheRowTells 71 = .ok (.iadd, 1) := by decide +kernel
theorem dX5_holdAsTheRowTells_72 : decode cX5_holdAsTheRowTells 72 = .ok (.invokevirtual 221, 3) := by decide +kernel
theorem dX5_holdAsTheRowTells_75 : decode cX5_holdAsTheRowTells 75 = .ok (.ifCond .ne 5, 3) := by decide +kernel
theorem dX5_holdAsTheRowTells_78 : decode cX5_holdAsTheRowTells 78 = .ok (.iconst 0, 1) := by decide +kernel
theorem dX5_holdAsTheRowTells_79 : decode cX5_holdAsTheRowTells 79 = .ok (.ireturn, 1) := by decide +kernel
theorem dX5_holdAsTheRowTells_80 : decode cX5_holdAsTheRowTells 80 = .ok (.iinc 1 1, 3) := by decide +kernel
theorem dX5_holdAsTheRowTells_83 : decode cX5_holdAsTheRowTells 83 = .ok (.goto (-56), 3) := by decide +kernel
theorem dX5_holdAsTheRowTells_86 : decode cX5_holdAsTheRowTells 86 = .ok (.iconst 1, 1) := by decide +kernel
theorem dX5_holdAsTheRowTells_87 : decode cX5_holdAsTheRowTells 87 = .ok (.ireturn, 1) := by decide +kernel
theorem dX5_isLaw_0 : decode cX5_isLaw 0 = .ok (.iload_n 0, 1) := by decide +kernel
theorem dX5_isLaw_1 : decode cX5_isLaw 1 = .ok (.ifCond .lt 12, 3) := by decide +kernel
theorem dX5_isLaw_4 : decode cX5_isLaw 4 = .ok (.iload_n 0, 1) := by decide +kernel
theorem dX5_isLaw_5 : decode cX5_isLaw 5 = .ok (.iconst 3, 1) := by decide +kernel
theorem dX5_isLaw_6 : decode cX5_isLaw 6 = .ok (.if_icmp .gt 7, 3) := by decide +kernel
theorem dX5_isLaw_9 : decode cX5_isLaw 9 = .ok (.iconst 1, 1) := by decide +kernel
theorem dX5_isLaw_10 : decode cX5_isLaw 10 = .ok (.goto 4, 3) := by decide +kernel
theorem dX5_isLaw_13 : decode cX5_isLaw 13 = .ok (.iconst 0, 1) := by decide +kernel
theorem dX5_isLaw_14 : decode cX5_isLaw 14 = .ok (.ireturn, 1) := by decide +kernel
theorem dX5_sideOf_0 : decode cX5_sideOf 0 = .ok (.iload_n 0, 1) := by decide +kernel
theorem dX5_sideOf_1 : decode cX5_sideOf 1 = .ok (.iconst 5, 1) := by decide +kernel
theorem dX5_sideOf_2 : decode cX5_sideOf 2 = .ok (.if_icmp .ge 7, 3) := by decide +kernel
theorem dX5_sideOf_5 : decode cX5_sideOf 5 = .ok (.iconst 0, 1) := by decide +kernel
theorem dX5_sideOf_6 : decode cX5_sideOf 6 = .ok (.goto 4, 3) := by decide +kernel
theorem dX5_sideOf_9 : decode cX5_sideOf 9 = .ok (.iconst 1, 1) := by decide +kernel
theorem dX5_sideOf_10 : decode cX5_sideOf 10 = .ok (.ireturn, 1) := by decide +kernel
theorem dX5_bitOf_0 : decode cX5_bitOf 0 = .ok (.iconst 1, 1) := by decide +kernel
theorem dX5_bitOf_1 : decode cX5_bitOf 1 = .ok (.iload_n 0, 1) := by decide +kernel
theorem dX5_bitOf_2 : decode cX5_bitOf 2 = .ok (.iconst 5, 1) := by decide +kernel
theorem dX5_bitOf_3 : decode cX5_bitOf 3 = .ok (.irem, 1) := by decide +kernel
theorem dX5_bitOf_4 : decode cX5_bitOf 4 = .ok (.ishl, 1) := by decide +kernel
theorem dX5_bitOf_5 : decode cX5_bitOf 5 = .ok (.ireturn, 1) := by decide +kernel
theorem dX5_otherStart_0 : decode cX5_otherStart 0 = .ok (.iload_n 0, 1) := by decide +kernel
theorem dX5_otherStart_1 : decode cX5_otherStart 1 = .ok (.iconst 5, 1) := by decide +kernel
theorem dX5_otherStart_2 : decode cX5_otherStart 2 = .ok (.if_icmp .ge 7, 3) := by decide +kernel
theorem dX5_otherStart_5 : decode cX5_otherStart 5 = .ok (.iconst 5, 1) := by decide +kernel
theorem dX5_otherStart_6 : decode cX5_otherStart 6 = .ok (.goto 4, 3) := by decide +kernel
theorem dX5_otherStart_9 : decode cX5_otherStart 9 = .ok (.iconst 0, 1) := by decide +kernel
theorem dX5_otherStart_10 : decode cX5_otherStart 10 = .ok (.ireturn, 1) := by decide +kernel
theorem dX6_init_0 : decode cX6_init 0 = .ok (.aload_n 0, 1) := by decide +kernel
theorem dX6_init_1 : decode cX6_init 1 = .ok (.invokespecial 1, 3) := by decide +kernel
theorem dX6_init_4 : decode cX6_init 4 = .ok (.aload_n 0, 1) := by decide +kernel
theorem dX6_init_5 : decode cX6_init 5 = .ok (.iconst 0, 1) := by decide +kernel
theorem dX6_init_6 : decode cX6_init 6 = .ok (.putfield 7, 3) := by decide +kernel
theorem dX6_init_9 : decode cX6_init 9 = .ok (.aload_n 0, 1) := by decide +kernel
theorem dX6_init_10 : decode cX6_init 10 = .ok (.iconst 0, 1) := by decide +kernel
theorem dX6_init_11 : decode cX6_init 11 = .ok (.putfield 13, 3) := by decide +kernel
theorem dX6_init_14 : decode cX6_init 14 = .ok (.aload_n 0, 1) := by decide +kernel
theorem dX6_init_15 : decode cX6_init 15 = .ok (.iconst 1, 1) := by decide +kernel
theorem dX6_init_16 : decode cX6_init 16 = .ok (.putfield 16, 3) := by decide +kernel
theorem dX6_init_19 : decode cX6_init 19 = .ok (.aload_n 0, 1) := by decide +kernel
theorem dX6_init_20 : decode cX6_init 20 = .ok (.iconst 0, 1) := by decide +kernel
theorem dX6_init_21 : decode cX6_init 21 = .ok (.putfield 19, 3) := by decide +kernel
theorem dX6_init_24 : decode cX6_init 24 = .ok (.aload_n 0, 1) := by decide +kernel
theorem dX6_init_25 : decode cX6_init 25 = .ok (.iconst 0, 1) := by decide +kernel
theorem dX6_init_26 : decode cX6_init 26 = .ok (.putfield 22, 3) := by decide +kernel
theorem dX6_init_29 : decode cX6_init 29 = .ok (.aload_n 0, 1) := by decide +kernel
theorem dX6_init_30 : decode cX6_init 30 = .ok (.iconst 0, 1) := by decide +kernel
theorem dX6_init_31 : decode cX6_init 31 = .ok (.putfield 25, 3) := by decide +kernel
theorem dX6_init_34 : decode cX6_init 34 = .ok (.aload_n 0, 1) := by decide +kernel
theorem dX6_init_35 : decode cX6_init 35 = .ok (.iconst 0, 1) := by decide +kernel
theorem dX6_init_36 : decode cX6_init 36 = .ok (.putfield 28, 3) := by decide +kernel
theorem dX6_init_39 : decode cX6_init 39 = .ok (.aload_n 0, 1) := by decide +kernel
theorem dX6_init_40 : decode cX6_init 40 = .ok (.bipush 10, 2) := by decide +kernel
theorem dX6_init_42 : decode cX6_init 42 = .ok (.newarray .int, 2) := by decide +kernel
theorem dX6_init_44 : decode cX6_init 44 = .ok (.putfield 31, 3) := by decide +kernel
theorem dX6_init_47 : decode cX6_init 47 = .ok (.aload_n 0, 1) := by decide +kernel
theorem dX6_init_48 : decode cX6_init 48 = .ok (.bipush 10, 2) := by decide +kernel
theorem dX6_init_50 : decode cX6_init 50 = .ok (.newarray .int, 2) := by decide +kernel
theorem dX6_init_52 : decode cX6_init 52 = .ok (.putfield 35, 3) := by decide +kernel
theorem dX6_init_55 : decode cX6_init 55 = .ok (.aload_n 0, 1) := by decide +kernel
theorem dX6_init_56 : decode cX6_init 56 = .ok (.bipush 50, 2) := by decide +kernel
theorem dX6_init_58 : decode cX6_init 58 = .ok (.newarray .int, 2) := by decide +kernel
theorem dX6_init_60 : decode cX6_init 60 = .ok (.putfield 38, 3) := by decide +kernel
theorem dX6_init_63 : decode cX6_init 63 = .ok (.aload_n 0, 1) := by decide +kernel
theorem dX6_init_64 : decode cX6_init 64 = .ok (.bipush 96, 2) := by decide +kernel
theorem dX6_init_66 : decode cX6_init 66 = .ok (.newarray .int, 2) := by decide +kernel
theorem dX6_init_68 : decode cX6_init 68 = .ok (.putfield 41, 3) := by decide +kernel
theorem dX6_init_71 : decode cX6_init 71 = .ok (.aload_n 0, 1) := by decide +kernel
theorem dX6_init_72 : decode cX6_init 72 = .ok (.bipush 10, 2) := by decide +kernel
theorem dX6_init_74 : decode cX6_init 74 = .ok (.newarray .int, 2) := by decide +kernel
theorem dX6_init_76 : decode cX6_init 76 = .ok (.putfield 44, 3) := by decide +kernel
theorem dX6_init_79 : decode cX6_init 79 = .ok (.aload_n 0, 1) := by decide +kernel
theorem dX6_init_80 : decode cX6_init 80 = .ok (.bipush 7, 2) := by decide +kernel
theorem dX6_init_82 : decode cX6_init 82 = .ok (.newarray .int, 2) := by decide +kernel
theorem dX6_init_84 : decode cX6_init 84 = .ok (.putfield 47, 3) := by decide +kernel
theorem dX6_init_87 : decode cX6_init 87 = .ok (.aload_n 0, 1) := by decide +kernel
theorem dX6_init_88 : decode cX6_init 88 = .ok (.iconst 0, 1) := by decide +kernel
theorem dX6_init_89 : decode cX6_init 89 = .ok (.putfield 50, 3) := by decide +kernel
theorem dX6_init_92 : decode cX6_init 92 = .ok (.aload_n 0, 1) := by decide +kernel
theorem dX6_init_93 : decode cX6_init 93 = .ok (.iconst 0, 1) := by decide +kernel
theorem dX6_init_94 : decode cX6_init 94 = .ok (.putfield 53, 3) := by decide +kernel
theorem dX6_init_97 : decode cX6_init 97 = .ok (.aload_n 0, 1) := by decide +kernel
theorem dX6_init_98 : decode cX6_init 98 = .ok (.iconst 0, 1) := by decide +kernel
theorem dX6_init_99 : decode cX6_init 99 = .ok (.putfield 56, 3) := by decide +kernel
theorem dX6_init_102 : decode cX6_init 102 = .ok (.aload_n 0, 1) := by decide +kernel
theorem dX6_init_103 : decode cX6_init 103 = .ok (.iconst 0, 1) := by decide +kernel
theorem dX6_init_104 : decode cX6_init 104 = .ok (.putfield 59, 3) := by decide +kernel
theorem dX6_init_107 : decode cX6_init 107 = .ok (.aload_n 0, 1) := by decide +kernel
theorem dX6_init_108 : decode cX6_init 108 = .ok (.iconst 0, 1) := by decide +kernel
theorem dX6_init_109 : decode cX6_init 109 = .ok (.putfield 62, 3) := by decide +kernel
theorem dX6_init_112 : decode cX6_init 112 = .ok (.aload_n 0, 1) := by decide +kernel
theorem dX6_init_113 : decode cX6_init 113 = .ok (.iconst 5, 1) := by decide +kernel
theorem dX6_init_114 : decode cX6_init 114 = .ok (.newarray .int, 2) := by decide +kernel
theorem dX6_init_116 : decode cX6_init 116 = .ok (.putfield 65, 3) := by decide +kernel
theorem dX6_init_119 : decode cX6_init 119 = .ok (.aload_n 0, 1) := by decide +kernel
theorem dX6_init_120 : decode cX6_init 120 = .ok (.iconst 5, 1) := by decide +kernel
theorem dX6_init_121 : decode cX6_init 121 = .ok (.newarray .int, 2) := by decide +kernel
theorem dX6_init_123 : decode cX6_init 123 = .ok (.putfield 68, 3) := by decide +kernel
theorem dX6_init_126 : decode cX6_init 126 = .ok (.aload_n 0, 1) := by decide +kernel
theorem dX6_init_127 : decode cX6_init 127 = .ok (.bipush 10, 2) := by decide +kernel
theorem dX6_init_129 : decode cX6_init 129 = .ok (.newarray .int, 2) := by decide +kernel
theorem dX6_init_131 : decode cX6_init 131 = .ok (.putfield 71, 3) := by decide +kernel
theorem dX6_init_134 : decode cX6_init 134 = .ok (.aload_n 0, 1) := by decide +kernel
theorem dX6_init_135 : decode cX6_init 135 = .ok (.bipush 10, 2) := by decide +kernel
theorem dX6_init_137 : decode cX6_init 137 = .ok (.newarray .int, 2) := by decide +kernel
theorem dX6_init_139 : decode cX6_init 139 = .ok (.putfield 74, 3) := by decide +kernel
theorem dX6_init_142 : decode cX6_init 142 = .ok (.aload_n 0, 1) := by decide +kernel
theorem dX6_init_143 : decode cX6_init 143 = .ok (.iconst 5, 1) := by decide +kernel
theorem dX6_init_144 : decode cX6_init 144 = .ok (.newarray .int, 2) := by decide +kernel
theorem dX6_init_146 : decode cX6_init 146 = .ok (.putfield 77, 3) := by decide +kernel
theorem dX6_init_149 : decode cX6_init 149 = .ok (.aload_n 0, 1) := by decide +kernel
theorem dX6_init_150 : decode cX6_init 150 = .ok (.iconst 5, 1) := by decide +kernel
theorem dX6_init_151 : decode cX6_init 151 = .ok (.newarray .int, 2) := by decide +kernel
theorem dX6_init_153 : decode cX6_init 153 = .ok (.putfield 80, 3) := by decide +kernel
theorem dX6_init_156 : decode cX6_init 156 = .ok (.aload_n 0, 1) := by decide +kernel
theorem dX6_init_157 : decode cX6_init 157 = .ok (.iconst 0, 1) := by decide +kernel
theorem dX6_init_158 : decode cX6_init 158 = .ok (.putfield 83, 3) := by decide +kernel
theorem dX6_init_161 : decode cX6_init 161 = .ok (.aload_n 0, 1) := by decide +kernel
theorem dX6_init_162 : decode cX6_init 162 = .ok (.bipush 50, 2) := by decide +kernel
theorem dX6_init_164 : decode cX6_init 164 = .ok (.newarray .int, 2) := by decide +kernel
theorem dX6_init_166 : decode cX6_init 166 = .ok (.putfield 86, 3) := by decide +kernel
theorem dX6_init_169 : decode cX6_init 169 = .ok (.aload_n 0, 1) := by decide +kernel
theorem dX6_init_170 : decode cX6_init 170 = .ok (.iconst 0, 1) := by decide +kernel
theorem dX6_init_171 : decode cX6_init 171 = .ok (.putfield 89, 3) := by decide +kernel
theorem dX6_init_174 : decode cX6_init 174 = .ok (.aload_n 0, 1) := by decide +kernel
theorem dX6_init_175 : decode cX6_init 175 = .ok (.iconst 0, 1) := by decide +kernel
theorem dX6_init_176 : decode cX6_init 176 = .ok (.putfield 93, 3) := by decide +kernel
theorem dX6_init_179 : decode cX6_init 179 = .ok (.aload_n 0, 1) := by decide +kernel
theorem dX6_init_180 : decode cX6_init 180 = .ok (.iconst 0, 1) := by decide +kernel
theorem dX6_init_181 : decode cX6_init 181 = .ok (.putfield 96, 3) := by decide +kernel
theorem dX6_init_184 : decode cX6_init 184 = .ok (.aload_n 0, 1) := by decide +kernel
theorem dX6_init_185 : decode cX6_init 185 = .ok (.iconst 1, 1) := by decide +kernel
theorem dX6_init_186 : decode cX6_init 186 = .ok (.putfield 99, 3) := by decide +kernel
theorem dX6_init_189 : decode cX6_init 189 = .ok (.aload_n 0, 1) := by decide +kernel
theorem dX6_init_190 : decode cX6_init 190 = .ok (.iconst 0, 1) := by decide +kernel
theorem dX6_init_191 : decode cX6_init 191 = .ok (.putfield 102, 3) := by decide +kernel
theorem dX6_init_194 : decode cX6_init 194 = .ok (.aload_n 0, 1) := by decide +kernel
theorem dX6_init_195 : decode cX6_init 195 = .ok (.iconst 0, 1) := by decide +kernel
theorem dX6_init_196 : decode cX6_init 196 = .ok (.putfield 105, 3) := by decide +kernel
theorem dX6_init_199 : decode cX6_init 199 = .ok (.aload_n 0, 1) := by decide +kernel
theorem dX6_init_200 : decode cX6_init 200 = .ok (.bipush 10, 2) := by decide +kernel
theorem dX6_init_202 : decode cX6_init 202 = .ok (.newarray .int, 2) := by decide +kernel
theorem dX6_init_204 : decode cX6_init 204 = .ok (.putfield 108, 3) := by decide +kernel
theorem dX6_init_207 : decode cX6_init 207 = .ok (.aload_n 0, 1) := by decide +kernel
theorem dX6_init_208 : decode cX6_init 208 = .ok (.bipush 10, 2) := by decide +kernel
theorem dX6_init_210 : decode cX6_init 210 = .ok (.newarray .int, 2) := by decide +kernel
theorem dX6_init_212 : decode cX6_init 212 = .ok (.putfield 111, 3) := by decide +kernel
theorem dX6_init_215 : decode cX6_init 215 = .ok (.aload_n 0, 1) := by decide +kernel
theorem dX6_init_216 : decode cX6_init 216 = .ok (.bipush 50, 2) := by decide +kernel
theorem dX6_init_218 : decode cX6_init 218 = .ok (.newarray .int, 2) := by decide +kernel
theorem dX6_init_220 : decode cX6_init 220 = .ok (.putfield 114, 3) := by decide +kernel
theorem dX6_init_223 : decode cX6_init 223 = .ok (.return_, 1) := by decide +kernel
theorem dX6_in_0 : decode cX6_in 0 = .ok (.iload_n 1, 1) := by decide +kernel
theorem dX6_in_1 : decode cX6_in 1 = .ok (.iload_n 2, 1) := by decide +kernel
theorem dX6_in_2 : decode cX6_in 2 = .ok (.if_icmp .lt 12, 3) := by decide +kernel
theorem dX6_in_5 : decode cX6_in 5 = .ok (.iload_n 1, 1) := by decide +kernel
theorem dX6_in_6 : decode cX6_in 6 = .ok (.iload_n 3, 1) := by decide +kernel
theorem dX6_in_7 : decode cX6_in 7 = .ok (.if_icmp .gt 7, 3) := by decide +kernel
theorem dX6_in_10 : decode cX6_in 10 = .ok (.iconst 1, 1) := by decide +kernel
theorem dX6_in_11 : decode cX6_in 11 = .ok (.goto 4, 3) := by decide +kernel
theorem dX6_in_14 : decode cX6_in 14 = .ok (.iconst 0, 1) := by decide +kernel
theorem dX6_in_15 : decode cX6_in 15 = .ok (.ireturn, 1) := by decide +kernel
theorem dX6_has_0 : decode cX6_has 0 = .ok (.iload_n 1, 1) := by decide +kernel
theorem dX6_has_1 : decode cX6_has 1 = .ok (.iload_n 2, 1) := by decide +kernel
theorem dX6_has_2 : decode cX6_has 2 = .ok (.ishr, 1) := by decide +kernel
theorem dX6_has_3 : decode cX6_has 3 = .ok (.iconst 1, 1) := by decide +kernel
theorem dX6_has_4 : decode cX6_has 4 = .ok (.iand, 1) := by decide +kernel
theorem dX6_has_5 : decode cX6_has 5 = .ok (.iconst 1, 1) := by decide +kernel
theorem dX6_has_6 : decode cX6_has 6 = .ok (.if_icmp .ne 7, 3) := by decide +kernel
theorem dX6_has_9 : decode cX6_has 9 = .ok (.iconst 1, 1) := by decide +kernel
theorem dX6_has_10 : decode cX6_has 10 = .ok (.goto 4, 3) := by decide +kernel
theorem dX6_has_13 : decode cX6_has 13 = .ok (.iconst 0, 1) := by decide +kernel
theorem dX6_has_14 : decode cX6_has 14 = .ok (.ireturn, 1) := by decide +kernel
theorem dX6_no_0 : decode cX6_no 0 = .ok (.aload_n 0, 1) := by decide +kernel
theorem dX6_no_1 : decode cX6_no 1 = .ok (.getfield 47, 3) := by decide +kernel
theorem dX6_no_4 : decode cX6_no 4 = .ok (.iload_n 1, 1) := by decide +kernel
theorem dX6_no_5 : decode cX6_no 5 = .ok (.ineg, 1) := by decide +kernel
theorem dX6_no_6 : decode cX6_no 6 = .ok (.dup2, 1) := by decide +kernel
theorem dX6_no_7 : decode cX6_no 7 = .ok (.iaload, 1) := by decide +kernel
theorem dX6_no_8 : decode cX6_no 8 = .ok (.iconst 1, 1) := by decide +kernel
theorem dX6_no_9 : decode cX6_no 9 = .ok (.iadd, 1) := by decide +kernel
theorem dX6_no_10 : decode cX6_no 10 = .ok (.iastore, 1) := by decide +kernel
theorem dX6_no_11 : decode cX6_no 11 = .ok (.iload_n 1, 1) := by decide +kernel
theorem dX6_no_12 : decode cX6_no 12 = .ok (.ireturn, 1) := by decide +kernel
theorem dX6_isOf_0 : decode cX6_isOf 0 = .ok (.aload_n 0, 1) := by decide +kernel
theorem dX6_isOf_1 : decode cX6_isOf 1 = .ok (.iload_n 1, 1) := by decide +kernel
theorem dX6_isOf_2 : decode cX6_isOf 2 = .ok (.iconst 0, 1) := by decide +kernel
theorem dX6_isOf_3 : decode cX6_isOf 3 = .ok (.iload_n 2, 1) := by decide +kernel
theorem dX6_isOf_4 : decode cX6_isOf 4 = .ok (.iconst 1, 1) := by decide +kernel
theorem dX6_isOf_5 : decode cX6_isOf 5 = .ok (.isub, 1) := by decide +kernel
theorem dX6_isOf_6 : decode cX6_isOf 6 = .ok (.invokevirtual 117, 3) := by decide +kernel
theorem dX6_isOf_9 : decode cX6_isOf 9 = .ok (.ifCond .ne 15, 3) := by decide +kernel
theorem dX6_isOf_12 : decode cX6_isOf 12 = .ok (.aload_n 0, 1) := by decide +kernel
theorem dX6_isOf_13 : decode cX6_isOf 13 = .ok (.iload_n 1, 1) := by decide +kernel
theorem dX6_isOf_14 : decode cX6_isOf 14 = .ok (.iconst 5, 1) := by decide +kernel
theorem dX6_isOf_15 : decode cX6_isOf 15 = .ok (.iconst 4, 1) := by decide +kernel
theorem dX6_isOf_16 : decode cX6_isOf 16 = .ok (.iload_n 3, 1) := by decide +kernel
theorem dX6_isOf_17 : decode cX6_isOf 17 = .ok (.iadd, 1) := by decide +kernel
theorem dX6_isOf_18 : decode cX6_isOf 18 = .ok (.invokevirtual 117, 3) := by decide +kernel
theorem dX6_isOf_21 : decode cX6_isOf 21 = .ok (.ifCond .eq 7, 3) := by decide +kernel
theorem dX6_isOf_24 : decode cX6_isOf 24 = .ok (.iconst 1, 1) := by decide +kernel
theorem dX6_isOf_25 : decode cX6_isOf 25 = .ok (.goto 4, 3) := by decide +kernel
theorem dX6_isOf_28 : decode cX6_isOf 28 = .ok (.iconst 0, 1) := by decide +kernel
theorem dX6_isOf_29 : decode cX6_isOf 29 = .ok (.ireturn, 1) := by decide +kernel
theorem dX6_isPerson_0 : decode cX6_isPerson 0 = .ok (.aload_n 0, 1) := by decide +kernel
theorem dX6_isPerson_1 : decode cX6_isPerson 1 = .ok (.iload_n 1, 1) := by decide +kernel
theorem dX6_isPerson_2 : decode cX6_isPerson 2 = .ok (.aload_n 0, 1) := by decide +kernel
theorem dX6_isPerson_3 : decode cX6_isPerson 3 = .ok (.getfield 7, 3) := by decide +kernel
theorem dX6_isPerson_6 : decode cX6_isPerson 6 = .ok (.aload_n 0, 1) := by decide +kernel
theorem dX6_isPerson_7 : decode cX6_isPerson 7 = .ok (.getfield 13, 3) := by decide +kernel
theorem dX6_isPerson_10 : decode cX6_isPerson 10 = .ok (.invokevirtual 121, 3) := by decide +kernel
theorem dX6_isPerson_13 : decode cX6_isPerson 13 = .ok (.ireturn, 1) := by decide +kernel
theorem dX6_areTwo_0 : decode cX6_areTwo 0 = .ok (.aload_n 0, 1) := by decide +kernel
theorem dX6_areTwo_1 : decode cX6_areTwo 1 = .ok (.iload_n 1, 1) := by decide +kernel
theorem dX6_areTwo_2 : decode cX6_areTwo 2 = .ok (.invokevirtual 124, 3) := by decide +kernel
theorem dX6_areTwo_5 : decode cX6_areTwo 5 = .ok (.ifCond .eq 24, 3) := by decide +kernel
theorem dX6_areTwo_8 : decode cX6_areTwo 8 = .ok (.aload_n 0, 1) := by decide +kernel
theorem dX6_areTwo_9 : decode cX6_areTwo 9 = .ok (.iload_n 2, 1) := by decide +kernel
theorem dX6_areTwo_10 : decode cX6_areTwo 10 = .ok (.invokevirtual 124, 3) := by decide +kernel
theorem dX6_areTwo_13 : decode cX6_areTwo 13 = .ok (.ifCond .eq 16, 3) := by decide +kernel
theorem dX6_areTwo_16 : decode cX6_areTwo 16 = .ok (.iload_n 1, 1) := by decide +kernel
theorem dX6_areTwo_17 : decode cX6_areTwo 17 = .ok (.iconst 5, 1) := by decide +kernel
theorem dX6_areTwo_18 : decode cX6_areTwo 18 = .ok (.idiv, 1) := by decide +kernel
theorem dX6_areTwo_19 : decode cX6_areTwo 19 = .ok (.iload_n 2, 1) := by decide +kernel
theorem dX6_areTwo_20 : decode cX6_areTwo 20 = .ok (.iconst 5, 1) := by decide +kernel
theorem dX6_areTwo_21 : decode cX6_areTwo 21 = .ok (.idiv, 1) := by decide +kernel
theorem dX6_areTwo_22 : decode cX6_areTwo 22 = .ok (.if_icmp .eq 7, 3) := by decide +kernel
theorem dX6_areTwo_25 : decode cX6_areTwo 25 = .ok (.iconst 1, 1) := by decide +kernel
theorem dX6_areTwo_26 : decode cX6_areTwo 26 = .ok (.goto 4, 3) := by decide +kernel
theorem dX6_areTwo_29 : decode cX6_areTwo 29 = .ok (.iconst 0, 1) := by decide +kernel
theorem dX6_areTwo_30 : decode cX6_areTwo 30 = .ok (.ireturn, 1) := by decide +kernel
theorem dX6_likingOf_0 : decode cX6_likingOf 0 = .ok (.aload_n 0, 1) := by decide +kernel
theorem dX6_likingOf_1 : decode cX6_likingOf 1 = .ok (.getfield 38, 3) := by decide +kernel
theorem dX6_likingOf_4 : decode cX6_likingOf 4 = .ok (.iconst 5, 1) := by decide +kernel
theorem dX6_likingOf_5 : decode cX6_likingOf 5 = .ok (.iload_n 1, 1) := by decide +kernel
theorem dX6_likingOf_6 : decode cX6_likingOf 6 = .ok (.imul, 1) := by decide +kernel
theorem dX6_likingOf_7 : decode cX6_likingOf 7 = .ok (.iload_n 2, 1) := by decide +kernel
theorem dX6_likingOf_8 : decode cX6_likingOf 8 = .ok (.iconst 5, 1) := by decide +kernel
theorem dX6_likingOf_9 : decode cX6_likingOf 9 = .ok (.irem, 1) := by decide +kernel
theorem dX6_likingOf_10 : decode cX6_likingOf 10 = .ok (.iadd, 1) := by decide +kernel
theorem dX6_likingOf_11 : decode cX6_likingOf 11 = .ok (.iaload, 1) := by decide +kernel
theorem dX6_likingOf_12 : decode cX6_likingOf 12 = .ok (.ireturn, 1) := by decide +kernel
theorem dX6_others_0 : decode cX6_others 0 = .ok (.iload_n 1, 1) := by decide +kernel
theorem dX6_others_1 : decode cX6_others 1 = .ok (.iconst 5, 1) := by decide +kernel
theorem dX6_others_2 : decode cX6_others 2 = .ok (.if_icmp .ge 10, 3) := by decide +kernel
theorem dX6_others_5 : decode cX6_others 5 = .ok (.aload_n 0, 1) := by decide +kernel
theorem dX6_others_6 : decode cX6_others 6 = .ok (.getfield 13, 3) := by decide +kernel
theorem dX6_others_9 : decode cX6_others 9 = .ok (.goto 7, 3) := by decide +kernel
theorem dX6_others_12 : decode cX6_others 12 = .ok (.aload_n 0, 1) := by decide +kernel
theorem dX6_others_13 : decode cX6_others 13 = .ok (.getfield 7, 3) := by decide +kernel
theorem dX6_others_16 : decode cX6_others 16 = .ok (.ireturn, 1) := by decide +kernel
theorem dX6_otherOf_0 : decode cX6_otherOf 0 = .ok (.iload_n 1, 1) := by decide +kernel
theorem dX6_otherOf_1 : decode cX6_otherOf 1 = .ok (.iconst 5, 1) := by decide +kernel
theorem dX6_otherOf_2 : decode cX6_otherOf 2 = .ok (.if_icmp .ge 9, 3) := by decide +kernel
theorem dX6_otherOf_5 : decode cX6_otherOf 5 = .ok (.iconst 5, 1) := by decide +kernel
theorem dX6_otherOf_6 : decode cX6_otherOf 6 = .ok (.iload_n 2, 1) := by decide +kernel
theorem dX6_otherOf_7 : decode cX6_otherOf 7 = .ok (.iadd, 1) := by decide +kernel
theorem dX6_otherOf_8 : decode cX6_otherOf 8 = .ok (.goto 4, 3) := by decide +kernel
theorem dX6_otherOf_11 : decode cX6_otherOf 11 = .ok (.iload_n 2, 1) := by decide +kernel
theorem dX6_otherOf_12 : decode cX6_otherOf 12 = .ok (.ireturn, 1) := by decide +kernel
theorem dX6_letter_0 : decode cX6_letter 0 = .ok (.iload_n 1, 1) := by decide +kernel
theorem dX6_letter_1 : decode cX6_letter 1 = .ok (.ifCond .ge 10, 3) := by decide +kernel
theorem dX6_letter_4 : decode cX6_letter 4 = .ok (.aload_n 0, 1) := by decide +kernel
theorem dX6_letter_5 : decode cX6_letter 5 = .ok (.bipush (-4), 2) := by decide +kernel
theorem dX6_letter_7 : decode cX6_letter 7 = .ok (.invokevirtual 128, 3) := by decide +kernel
theorem dX6_letter_10 : decode cX6_letter 10 = .ok (.ireturn, 1) := by decide +kernel
theorem dX6_letter_11 : decode cX6_letter 11 = .ok (.iload_n 1, 1) := by decide +kernel
theorem dX6_letter_12 : decode cX6_letter 12 = .ok (.sipush 255, 3) := by decide +kernel
theorem dX6_letter_15 : decode cX6_letter 15 = .ok (.if_icmp .gt 12, 3) := by decide +kernel
theorem dX6_letter_18 : decode cX6_letter 18 = .ok (.aload_n 0, 1) := by decide +kernel
theorem dX6_letter_19 : decode cX6_letter 19 = .ok (.getfield 25, 3) := by decide +kernel
theorem dX6_letter_22 : decode cX6_letter 22 = .ok (.bipush 96, 2) := by decide +kernel
theorem dX6_letter_24 : decode cX6_letter 24 = .ok (.if_icmp .ne 10, 3) := by decide +kernel
theorem dX6_letter_27 : decode cX6_letter 27 = .ok (.aload_n 0, 1) := by decide +kernel
theorem dX6_letter_28 : decode cX6_letter 28 = .ok (.bipush (-6), 2) := by decide +kernel
theorem dX6_letter_30 : decode cX6_letter 30 = .ok (.invokevirtual 128, 3) := by decide +kernel
theorem dX6_letter_33 : decode cX6_letter 33 = .ok (.ireturn, 1) := by decide +kernel
theorem dX6_letter_34 : decode cX6_letter 34 = .ok (.aload_n 0, 1) := by decide +kernel
theorem dX6_letter_35 : decode cX6_letter 35 = .ok (.getfield 41, 3) := by decide +kernel
theorem dX6_letter_38 : decode cX6_letter 38 = .ok (.aload_n 0, 1) := by decide +kernel
theorem dX6_letter_39 : decode cX6_letter 39 = .ok (.getfield 25, 3) := by decide +kernel
theorem dX6_letter_42 : decode cX6_letter 42 = .ok (.iload_n 1, 1) := by decide +kernel
theorem dX6_letter_43 : decode cX6_letter 43 = .ok (.iastore, 1) := by decide +kernel
theorem dX6_letter_44 : decode cX6_letter 44 = .ok (.aload_n 0, 1) := by decide +kernel
theorem dX6_letter_45 : decode cX6_letter 45 = .ok (.dup, 1) := by decide +kernel
theorem dX6_letter_46 : decode cX6_letter 46 = .ok (.getfield 25, 3) := by decide +kernel
theorem dX6_letter_49 : decode cX6_letter 49 = .ok (.iconst 1, 1) := by decide +kernel
theorem dX6_letter_50 : decode cX6_letter 50 = .ok (.iadd, 1) := by decide +kernel
theorem dX6_letter_51 : decode cX6_letter 51 = .ok (.putfield 25, 3) := by decide +kernel
theorem dX6_letter_54 : decode cX6_letter 54 = .ok (.aload_n 0, 1) := by decide +kernel
theorem dX6_letter_55 : decode cX6_letter 55 = .ok (.getfield 25, 3) := by decide +kernel
theorem dX6_letter_58 : decode cX6_letter 58 = .ok (.ireturn, 1) := by decide +kernel
theorem dX6_next_0 : decode cX6_next 0 = .ok (.aload_n 0, 1) := by decide +kernel
theorem dX6_next_1 : decode cX6_next 1 = .ok (.getfield 50, 3) := by decide +kernel
theorem dX6_next_4 : decode cX6_next 4 = .ok (.aload_n 0, 1) := by decide +kernel
theorem dX6_next_5 : decode cX6_next 5 = .ok (.getfield 25, 3) := by decide +kernel
theorem dX6_next_8 : decode cX6_next 8 = .ok (.if_icmp .ge 15, 3) := by decide +kernel
theorem dX6_next_11 : decode cX6_next 11 = .ok (.aload_n 0, 1) := by decide +kernel
theorem dX6_next_12 : decode cX6_next 12 = .ok (.getfield 41, 3) := by decide +kernel
theorem dX6_next_15 : decode cX6_next 15 = .ok (.aload_n 0, 1) := by decide +kernel
theorem dX6_next_16 : decode cX6_next 16 = .ok (.getfield 50, 3) := by decide +kernel
theorem dX6_next_19 : decode cX6_next 19 = .ok (.iaload, 1) := by decide +kernel
theorem dX6_next_20 : decode cX6_next 20 = .ok (.goto 4, 3) := by decide +kernel
theorem dX6_next_23 : decode cX6_next 23 = .ok (.iconst (-1), 1) := by decide +kernel
theorem dX6_next_24 : decode cX6_next 24 = .ok (.ireturn, 1) := by decide +kernel
theorem dX6_takes_0 : decode cX6_takes 0 = .ok (.aload_n 0, 1) := by decide +kernel
theorem dX6_takes_1 : decode cX6_takes 1 = .ok (.invokevirtual 132, 3) := by decide +kernel
theorem dX6_takes_4 : decode cX6_takes 4 = .ok (.iload_n 1, 1) := by decide +kernel
theorem dX6_takes_5 : decode cX6_takes 5 = .ok (.if_icmp .eq 5, 3) := by decide +kernel
theorem dX6_takes_8 : decode cX6_takes 8 = .ok (.iconst 0, 1) := by decide +kernel
theorem dX6_takes_9 : decode cX6_takes 9 = .ok (.ireturn, 1) := by decide +kernel
theorem dX6_takes_10 : decode cX6_takes 10 = .ok (.aload_n 0, 1) := by decide +kernel
theorem dX6_takes_11 : decode cX6_takes 11 = .ok (.dup, 1) := by decide +kernel
theorem dX6_takes_12 : decode cX6_takes 12 = .ok (.getfield 50, 3) := by decide +kernel
theorem dX6_takes_15 : decode cX6_takes 15 = .ok (.iconst 1, 1) := by decide +kernel
theorem dX6_takes_16 : decode cX6_takes 16 = .ok (.iadd, 1) := by decide +kernel
theorem dX6_takes_17 : decode cX6_takes 17 = .ok (.putfield 50, 3) := by decide +kernel
theorem dX6_takes_20 : decode cX6_takes 20 = .ok (.iconst 1, 1) := by decide +kernel
theorem dX6_takes_21 : decode cX6_takes 21 = .ok (.ireturn, 1) := by decide +kernel
theorem dX6_digit_0 : decode cX6_digit 0 = .ok (.aload_n 0, 1) := by decide +kernel
theorem dX6_digit_1 : decode cX6_digit 1 = .ok (.aload_n 0, 1) := by decide +kernel
theorem dX6_digit_2 : decode cX6_digit 2 = .ok (.invokevirtual 132, 3) := by decide +kernel
theorem dX6_digit_5 : decode cX6_digit 5 = .ok (.bipush 48, 2) := by decide +kernel
theorem dX6_digit_7 : decode cX6_digit 7 = .ok (.bipush 57, 2) := by decide +kernel
theorem dX6_digit_9 : decode cX6_digit 9 = .ok (.invokevirtual 117, 3) := by decide +kernel
theorem dX6_digit_12 : decode cX6_digit 12 = .ok (.ifCond .ne 5, 3) := by decide +kernel
theorem dX6_digit_15 : decode cX6_digit 15 = .ok (.iconst (-1), 1) := by decide +kernel
theorem dX6_digit_16 : decode cX6_digit 16 = .ok (.ireturn, 1) := by decide +kernel
theorem dX6_digit_17 : decode cX6_digit 17 = .ok (.aload_n 0, 1) := by decide +kernel
theorem dX6_digit_18 : decode cX6_digit 18 = .ok (.dup, 1) := by decide +kernel
theorem dX6_digit_19 : decode cX6_digit 19 = .ok (.getfield 50, 3) := by decide +kernel
theorem dX6_digit_22 : decode cX6_digit 22 = .ok (.iconst 1, 1) := by decide +kernel
theorem dX6_digit_23 : decode cX6_digit 23 = .ok (.iadd, 1) := by decide +kernel
theorem dX6_digit_24 : decode cX6_digit 24 = .ok (.putfield 50, 3) := by decide +kernel
theorem dX6_digit_27 : decode cX6_digit 27 = .ok (.aload_n 0, 1) := by decide +kernel
theorem dX6_digit_28 : decode cX6_digit 28 = .ok (.getfield 41, 3) := by decide +kernel
theorem dX6_digit_31 : decode cX6_digit 31 = .ok (.aload_n 0, 1) := by decide +kernel
theorem dX6_digit_32 : decode cX6_digit 32 = .ok (.getfield 50, 3) := by decide +kernel
theorem dX6_digit_35 : decode cX6_digit 35 = .ok (.iconst 1, 1) := by decide +kernel
theorem dX6_digit_36 : decode cX6_digit 36 = .ok (.isub, 1) := by decide +kernel
theorem dX6_digit_37 : decode cX6_digit 37 = .ok (.iaload, 1) := by decide +kernel
theorem dX6_digit_38 : decode cX6_digit 38 = .ok (.bipush 48, 2) := by decide +kernel
theorem dX6_digit_40 : decode cX6_digit 40 = .ok (.isub, 1) := by decide +kernel
theorem dX6_digit_41 : decode cX6_digit 41 = .ok (.ireturn, 1) := by decide +kernel
theorem dX6_kindOf_0 : decode cX6_kindOf 0 = .ok (.iload_n 1, 1) := by decide +kernel
theorem dX6_kindOf_1 : decode cX6_kindOf 1 = .ok (.tableswitch 103 101 119 #[93, 103, 103, 99, 103, 103, 103, 103, 91, 103, 103, 103, 103, 103, 97, 95, 103, 103, 101], 91) := by decide +kernel
theorem dX6_kindOf_92 : decode cX6_kindOf 92 = .ok (.iconst 0, 1) := by decide +kernel
theorem dX6_kindOf_93 : decode cX6_kindOf 93 = .ok (.ireturn, 1) := by decide +kernel
theorem dX6_kindOf_94 : decode cX6_kindOf 94 = .ok (.iconst 1, 1) := by decide +kernel
theorem dX6_kindOf_95 : decode cX6_kindOf 95 = .ok (.ireturn, 1) := by decide +kernel
theorem dX6_kindOf_96 : decode cX6_kindOf 96 = .ok (.iconst 2, 1) := by decide +kernel
theorem dX6_kindOf_97 : decode cX6_kindOf 97 = .ok (.ireturn, 1) := by decide +kernel
theorem dX6_kindOf_98 : decode cX6_kindOf 98 = .ok (.iconst 3, 1) := by decide +kernel
theorem dX6_kindOf_99 : decode cX6_kindOf 99 = .ok (.ireturn, 1) := by decide +kernel
theorem dX6_kindOf_100 : decode cX6_kindOf 100 = .ok (.iconst 4, 1) := by decide +kernel
theorem dX6_kindOf_101 : decode cX6_kindOf 101 = .ok (.ireturn, 1) := by decide +kernel
theorem dX6_kindOf_102 : decode cX6_kindOf 102 = .ok (.iconst 5, 1) := by decide +kernel
theorem dX6_kindOf_103 : decode cX6_kindOf 103 = .ok (.ireturn, 1) := by decide +kernel
theorem dX6_kindOf_104 : decode cX6_kindOf 104 = .ok (.iconst (-1), 1) := by decide +kernel
theorem dX6_kindOf_105 : decode cX6_kindOf 105 = .ok (.ireturn, 1) := by decide +kernel
theorem dX6_takesKind_0 : decode cX6_takesKind 0 = .ok (.aload_n 0, 1) := by decide +kernel
theorem dX6_takesKind_1 : decode cX6_takesKind 1 = .ok (.aload_n 0, 1) := by decide +kernel
theorem dX6_takesKind_2 : decode cX6_takesKind 2 = .ok (.aload_n 0, 1) := by decide +kernel
theorem dX6_takesKind_3 : decode cX6_takesKind 3 = .ok (.invokevirtual 132, 3) := by decide +kernel
theorem dX6_takesKind_6 : decode cX6_takesKind 6 = .ok (.invokevirtual 136, 3) := by decide +kernel
theorem dX6_takesKind_9 : decode cX6_takesKind 9 = .ok (.putfield 62, 3) := by decide +kernel
theorem dX6_takesKind_12 : decode cX6_takesKind 12 = .ok (.aload_n 0, 1) := by decide +kernel
theorem dX6_takesKind_13 : decode cX6_takesKind 13 = .ok (.getfield 62, 3) := by decide +kernel
theorem dX6_takesKind_16 : decode cX6_takesKind 16 = .ok (.ifCond .ge 5, 3) := by decide +kernel
theorem dX6_takesKind_19 : decode cX6_takesKind 19 = .ok (.iconst 0, 1) := by decide +kernel
theorem dX6_takesKind_20 : decode cX6_takesKind 20 = .ok (.ireturn, 1) := by decide +kernel
theorem dX6_takesKind_21 : decode cX6_takesKind 21 = .ok (.aload_n 0, 1) := by decide +kernel
theorem dX6_takesKind_22 : decode cX6_takesKind 22 = .ok (.dup, 1) := by decide +kernel
theorem dX6_takesKind_23 : decode cX6_takesKind 23 = .ok (.getfield 50, 3) := by decide +kernel
theorem dX6_takesKind_26 : decode cX6_takesKind 26 = .ok (.iconst 1, 1) := by decide +kernel
theorem dX6_takesKind_27 : decode cX6_takesKind 27 = .ok (.iadd, 1) := by decide +kernel
theorem dX6_takesKind_28 : decode cX6_takesKind 28 = .ok (.putfield 50, 3) := by decide +kernel
theorem dX6_takesKind_31 : decode cX6_takesKind 31 = .ok (.iconst 1, 1) := by decide +kernel
theorem dX6_takesKind_32 : decode cX6_takesKind 32 = .ok (.ireturn, 1) := by decide +kernel
theorem dX6_takesOne_0 : decode cX6_takesOne 0 = .ok (.aload_n 0, 1) := by decide +kernel
theorem dX6_takesOne_1 : decode cX6_takesOne 1 = .ok (.aload_n 0, 1) := by decide +kernel
theorem dX6_takesOne_2 : decode cX6_takesOne 2 = .ok (.invokevirtual 139, 3) := by decide +kernel
theorem dX6_takesOne_5 : decode cX6_takesOne 5 = .ok (.putfield 53, 3) := by decide +kernel
theorem dX6_takesOne_8 : decode cX6_takesOne 8 = .ok (.aload_n 0, 1) := by decide +kernel
theorem dX6_takesOne_9 : decode cX6_takesOne 9 = .ok (.getfield 53, 3) := by decide +kernel
theorem dX6_takesOne_12 : decode cX6_takesOne 12 = .ok (.ifCond .lt 7, 3) := by decide +kernel
theorem dX6_takesOne_15 : decode cX6_takesOne 15 = .ok (.iconst 1, 1) := by decide +kernel
theorem dX6_takesOne_16 : decode cX6_takesOne 16 = .ok (.goto 4, 3) := by decide +kernel
theorem dX6_takesOne_19 : decode cX6_takesOne 19 = .ok (.iconst 0, 1) := by decide +kernel
theorem dX6_takesOne_20 : decode cX6_takesOne 20 = .ok (.ireturn, 1) := by decide +kernel
theorem dX6_takesTwo_0 : decode cX6_takesTwo 0 = .ok (.aload_n 0, 1) := by decide +kernel
theorem dX6_takesTwo_1 : decode cX6_takesTwo 1 = .ok (.invokevirtual 142, 3) := by decide +kernel
theorem dX6_takesTwo_4 : decode cX6_takesTwo 4 = .ok (.ifCond .ne 5, 3) := by decide +kernel
theorem dX6_takesTwo_7 : decode cX6_takesTwo 7 = .ok (.iconst 0, 1) := by decide +kernel
theorem dX6_takesTwo_8 : decode cX6_takesTwo 8 = .ok (.ireturn, 1) := by decide +kernel
theorem dX6_takesTwo_9 : decode cX6_takesTwo 9 = .ok (.aload_n 0, 1) := by decide +kernel
theorem dX6_takesTwo_10 : decode cX6_takesTwo 10 = .ok (.aload_n 0, 1) := by decide +kernel
theorem dX6_takesTwo_11 : decode cX6_takesTwo 11 = .ok (.invokevirtual 139, 3) := by decide +kernel
theorem dX6_takesTwo_14 : decode cX6_takesTwo 14 = .ok (.putfield 56, 3) := by decide +kernel
theorem dX6_takesTwo_17 : decode cX6_takesTwo 17 = .ok (.aload_n 0, 1) := by decide +kernel
theorem dX6_takesTwo_18 : decode cX6_takesTwo 18 = .ok (.getfield 56, 3) := by decide +kernel
theorem dX6_takesTwo_21 : decode cX6_takesTwo 21 = .ok (.ifCond .lt 7, 3) := by decide +kernel
theorem dX6_takesTwo_24 : decode cX6_takesTwo 24 = .ok (.iconst 1, 1) := by decide +kernel
theorem dX6_takesTwo_25 : decode cX6_takesTwo 25 = .ok (.goto 4, 3) := by decide +kernel
theorem dX6_takesTwo_28 : decode cX6_takesTwo 28 = .ok (.iconst 0, 1) := by decide +kernel
theorem dX6_takesTwo_29 : decode cX6_takesTwo 29 = .ok (.ireturn, 1) := by decide +kernel
theorem dX6_takesThree_0 : decode cX6_takesThree 0 = .ok (.aload_n 0, 1) := by decide +kernel
theorem dX6_takesThree_1 : decode cX6_takesThree 1 = .ok (.invokevirtual 146, 3) := by decide +kernel
theorem dX6_takesThree_4 : decode cX6_takesThree 4 = .ok (.ifCond .ne 5, 3) := by decide +kernel
theorem dX6_takesThree_7 : decode cX6_takesThree 7 = .ok (.iconst 0, 1) := by decide +kernel
theorem dX6_takesThree_8 : decode cX6_takesThree 8 = .ok (.ireturn, 1) := by decide +kernel
theorem dX6_takesThree_9 : decode cX6_takesThree 9 = .ok (.aload_n 0, 1) := by decide +kernel
theorem dX6_takesThree_10 : decode cX6_takesThree 10 = .ok (.aload_n 0, 1) := by decide +kernel
theorem dX6_takesThree_11 : decode cX6_takesThree 11 = .ok (.invokevirtual 139, 3) := by decide +kernel
theorem dX6_takesThree_14 : decode cX6_takesThree 14 = .ok (.putfield 59, 3) := by decide +kernel
theorem dX6_takesThree_17 : decode cX6_takesThree 17 = .ok (.aload_n 0, 1) := by decide +kernel
theorem dX6_takesThree_18 : decode cX6_takesThree 18 = .ok (.getfield 59, 3) := by decide +kernel
theorem dX6_takesThree_21 : decode cX6_takesThree 21 = .ok (.ifCond .lt 7, 3) := by decide +kernel
theorem dX6_takesThree_24 : decode cX6_takesThree 24 = .ok (.iconst 1, 1) := by decide +kernel
theorem dX6_takesThree_25 : decode cX6_takesThree 25 = .ok (.goto 4, 3) := by decide +kernel
theorem dX6_takesThree_28 : decode cX6_takesThree 28 = .ok (.iconst 0, 1) := by decide +kernel
theorem dX6_takesThree_29 : decode cX6_takesThree 29 = .ok (.ireturn, 1) := by decide +kernel
theorem dX6_takesRest_0 : decode cX6_takesRest 0 = .ok (.iload_n 1, 1) := by decide +kernel
theorem dX6_takesRest_1 : decode cX6_takesRest 1 = .ok (.tableswitch 77 107 114 #[67, 47, 77, 77, 72, 77, 77, 47], 47) := by decide +kernel
theorem dX6_takesRest_48 : decode cX6_takesRest 48 = .ok (.aload_n 0, 1) := by decide +kernel
theorem dX6_takesRest_49 : decode cX6_takesRest 49 = .ok (.invokevirtual 149, 3) := by decide +kernel
theorem dX6_takesRest_52 : decode cX6_takesRest 52 = .ok (.ifCond .eq 14, 3) := by decide +kernel
theorem dX6_takesRest_55 : decode cX6_takesRest 55 = .ok (.aload_n 0, 1) := by decide +kernel
theorem dX6_takesRest_56 : decode cX6_takesRest 56 = .ok (.invokevirtual 142, 3) := by decide +kernel
theorem dX6_takesRest_59 : decode cX6_takesRest 59 = .ok (.ifCond .eq 7, 3) := by decide +kernel
theorem dX6_takesRest_62 : decode cX6_takesRest 62 = .ok (.iconst 1, 1) := by decide +kernel
theorem dX6_takesRest_63 : decode cX6_takesRest 63 = .ok (.goto 4, 3) := by decide +kernel
theorem dX6_takesRest_66 : decode cX6_takesRest 66 = .ok (.iconst 0, 1) := by decide +kernel
theorem dX6_takesRest_67 : decode cX6_takesRest 67 = .ok (.ireturn, 1) := by decide +kernel
theorem dX6_takesRest_68 : decode cX6_takesRest 68 = .ok (.aload_n 0, 1) := by decide +kernel
theorem dX6_takesRest_69 : decode cX6_takesRest 69 = .ok (.invokevirtual 152, 3) := by decide +kernel
theorem dX6_takesRest_72 : decode cX6_takesRest 72 = .ok (.ireturn, 1) := by decide +kernel
theorem dX6_takesRest_73 : decode cX6_takesRest 73 = .ok (.aload_n 0, 1) := by decide +kernel
theorem dX6_takesRest_74 : decode cX6_takesRest 74 = .ok (.invokevirtual 146, 3) := by decide +kernel
theorem dX6_takesRest_77 : decode cX6_takesRest 77 = .ok (.ireturn, 1) := by decide +kernel
theorem dX6_takesRest_78 : decode cX6_takesRest 78 = .ok (.aload_n 0, 1) := by decide +kernel
theorem dX6_takesRest_79 : decode cX6_takesRest 79 = .ok (.invokevirtual 142, 3) := by decide +kernel
theorem dX6_takesRest_82 : decode cX6_takesRest 82 = .ok (.ireturn, 1) := by decide +kernel
theorem dX6_takesStatement_0 : decode cX6_takesStatement 0 = .ok (.aload_n 0, 1) := by decide +kernel
theorem dX6_takesStatement_1 : decode cX6_takesStatement 1 = .ok (.invokevirtual 132, 3) := by decide +kernel
theorem dX6_takesStatement_4 : decode cX6_takesStatement 4 = .ok (.istore_n 1, 1) := by decide +kernel
theorem dX6_takesStatement_5 : decode cX6_takesStatement 5 = .ok (.iload_n 1, 1) := by decide +kernel
theorem dX6_takesStatement_6 : decode cX6_takesStatement 6 = .ok (.bipush 108, 2) := by decide +kernel
theorem dX6_takesStatement_8 : decode cX6_takesStatement 8 = .ok (.if_icmp .eq 29, 3) := by decide +kernel
theorem dX6_takesStatement_11 : decode cX6_takesStatement 11 = .ok (.iload_n 1, 1) := by decide +kernel
theorem dX6_takesStatement_12 : decode cX6_takesStatement 12 = .ok (.bipush 114, 2) := by decide +kernel
theorem dX6_takesStatement_14 : decode cX6_takesStatement 14 = .ok (.if_icmp .eq 23, 3) := by decide +kernel
theorem dX6_takesStatement_17 : decode cX6_takesStatement 17 = .ok (.iload_n 1, 1) := by decide +kernel
theorem dX6_takesStatement_18 : decode cX6_takesStatement 18 = .ok (.bipush 107, 2) := by decide +kernel
theorem dX6_takesStatement_20 : decode cX6_takesStatement 20 = .ok (.if_icmp .eq 17, 3) := by decide +kernel
theorem dX6_takesStatement_23 : decode cX6_takesStatement 23 = .ok (.iload_n 1, 1) := by decide +kernel
theorem dX6_takesStatement_24 : decode cX6_takesStatement 24 = .ok (.bipush 111, 2) := by decide +kernel
theorem dX6_takesStatement_26 : decode cX6_takesStatement 26 = .ok (.if_icmp .eq 11, 3) := by decide +kernel
theorem dX6_takesStatement_29 : decode cX6_takesStatement 29 = .ok (.iload_n 1, 1) := by decide +kernel
theorem dX6_takesStatement_30 : decode cX6_takesStatement 30 = .ok (.bipush 119, 2) := by decide +kernel
theorem dX6_takesStatement_32 : decode cX6_takesStatement 32 = .ok (.if_icmp .eq 5, 3) := by decide +kernel
theorem dX6_takesStatement_35 : decode cX6_takesStatement 35 = .ok (.iconst 0, 1) := by decide +kernel
theorem dX6_takesStatement_36 : decode cX6_takesStatement 36 = .ok (.ireturn, 1) := by decide +kernel
theorem dX6_takesStatement_37 : decode cX6_takesStatement 37 = .ok (.aload_n 0, 1) := by decide +kernel
theorem dX6_takesStatement_38 : decode cX6_takesStatement 38 = .ok (.dup, 1) := by decide +kernel
theorem dX6_takesStatement_39 : decode cX6_takesStatement 39 = .ok (.getfield 50, 3) := by decide +kernel
theorem dX6_takesStatement_42 : decode cX6_takesStatement 42 = .ok (.iconst 1, 1) := by decide +kernel
theorem dX6_takesStatement_43 : decode cX6_takesStatement 43 = .ok (.iadd, 1) := by decide +kernel
theorem dX6_takesStatement_44 : decode cX6_takesStatement 44 = .ok (.putfield 50, 3) := by decide +kernel
theorem dX6_takesStatement_47 : decode cX6_takesStatement 47 = .ok (.aload_n 0, 1) := by decide +kernel
theorem dX6_takesStatement_48 : decode cX6_takesStatement 48 = .ok (.iload_n 1, 1) := by decide +kernel
theorem dX6_takesStatement_49 : decode cX6_takesStatement 49 = .ok (.invokevirtual 155, 3) := by decide +kernel
theorem dX6_takesStatement_52 : decode cX6_takesStatement 52 = .ok (.ifCond .eq 16, 3) := by decide +kernel
theorem dX6_takesStatement_55 : decode cX6_takesStatement 55 = .ok (.aload_n 0, 1) := by decide +kernel
theorem dX6_takesStatement_56 : decode cX6_takesStatement 56 = .ok (.bipush 59, 2) := by decide +kernel
theorem dX6_takesStatement_58 : decode cX6_takesStatement 58 = .ok (.invokevirtual 158, 3) := by decide +kernel
theorem dX6_takesStatement_61 : decode cX6_takesStatement 61 = .ok (.ifCond .eq 7, 3) := by decide +kernel
theorem dX6_takesStatement_64 : decode cX6_takesStatement 64 = .ok (.iconst 1, 1) := by decide +kernel
theorem dX6_takesStatement_65 : decode cX6_takesStatement 65 = .ok (.goto 4, 3) := by decide +kernel
theorem dX6_takesStatement_68 : decode cX6_takesStatement 68 = .ok (.iconst 0, 1) := by decide +kernel
theorem dX6_takesStatement_69 : decode cX6_takesStatement 69 = .ok (.ireturn, 1) := by decide +kernel
theorem dX6_isText_0 : decode cX6_isText 0 = .ok (.aload_n 0, 1) := by decide +kernel
theorem dX6_isText_1 : decode cX6_isText 1 = .ok (.iconst 0, 1) := by decide +kernel
theorem dX6_isText_2 : decode cX6_isText 2 = .ok (.putfield 50, 3) := by decide +kernel
theorem dX6_isText_5 : decode cX6_isText 5 = .ok (.aload_n 0, 1) := by decide +kernel
theorem dX6_isText_6 : decode cX6_isText 6 = .ok (.invokevirtual 161, 3) := by decide +kernel
theorem dX6_isText_9 : decode cX6_isText 9 = .ok (.istore_n 1, 1) := by decide +kernel
theorem dX6_isText_10 : decode cX6_isText 10 = .ok (.iload_n 1, 1) := by decide +kernel
theorem dX6_isText_11 : decode cX6_isText 11 = .ok (.ifCond .eq 22, 3) := by decide +kernel
theorem dX6_isText_14 : decode cX6_isText 14 = .ok (.aload_n 0, 1) := by decide +kernel
theorem dX6_isText_15 : decode cX6_isText 15 = .ok (.getfield 50, 3) := by decide +kernel
theorem dX6_isText_18 : decode cX6_isText 18 = .ok (.aload_n 0, 1) := by decide +kernel
theorem dX6_isText_19 : decode cX6_isText 19 = .ok (.getfield 25, 3) := by decide +kernel
theorem dX6_isText_22 : decode cX6_isText 22 = .ok (.if_icmp .ge 11, 3) := by decide +kernel
theorem dX6_isText_25 : decode cX6_isText 25 = .ok (.aload_n 0, 1) := by decide +kernel
theorem dX6_isText_26 : decode cX6_isText 26 = .ok (.invokevirtual 161, 3) := by decide +kernel
theorem dX6_isText_29 : decode cX6_isText 29 = .ok (.istore_n 1, 1) := by decide +kernel
theorem dX6_isText_30 : decode cX6_isText 30 = .ok (.goto (-20), 3) := by decide +kernel
theorem dX6_isText_33 : decode cX6_isText 33 = .ok (.iload_n 1, 1) := by decide +kernel
theorem dX6_isText_34 : decode cX6_isText 34 = .ok (.ireturn, 1) := by decide +kernel
theorem dX6_isGood_0 : decode cX6_isGood 0 = .ok (.iload_n 1, 1) := by decide +kernel
theorem dX6_isGood_1 : decode cX6_isGood 1 = .ok (.tableswitch 143 107 114 #[69, 47, 143, 143, 116, 143, 143, 58], 47) := by decide +kernel
theorem dX6_isGood_48 : decode cX6_isGood 48 = .ok (.iload_n 2, 1) := by decide +kernel
theorem dX6_isGood_49 : decode cX6_isGood 49 = .ok (.iconst 5, 1) := by decide +kernel
theorem dX6_isGood_50 : decode cX6_isGood 50 = .ok (.if_icmp .ge 7, 3) := by decide +kernel
theorem dX6_isGood_53 : decode cX6_isGood 53 = .ok (.iconst 1, 1) := by decide +kernel
theorem dX6_isGood_54 : decode cX6_isGood 54 = .ok (.goto 4, 3) := by decide +kernel
theorem dX6_isGood_57 : decode cX6_isGood 57 = .ok (.iconst 0, 1) := by decide +kernel
theorem dX6_isGood_58 : decode cX6_isGood 58 = .ok (.ireturn, 1) := by decide +kernel
theorem dX6_isGood_59 : decode cX6_isGood 59 = .ok (.iload_n 3, 1) := by decide +kernel
theorem dX6_isGood_60 : decode cX6_isGood 60 = .ok (.iconst 5, 1) := by decide +kernel
theorem dX6_isGood_61 : decode cX6_isGood 61 = .ok (.if_icmp .ge 7, 3) := by decide +kernel
theorem dX6_isGood_64 : decode cX6_isGood 64 = .ok (.iconst 1, 1) := by decide +kernel
theorem dX6_isGood_65 : decode cX6_isGood 65 = .ok (.goto 4, 3) := by decide +kernel
theorem dX6_isGood_68 : decode cX6_isGood 68 = .ok (.iconst 0, 1) := by decide +kernel
theorem dX6_isGood_69 : decode cX6_isGood 69 = .ok (.ireturn, 1) := by decide +kernel
theorem dX6_isGood_70 : decode cX6_isGood 70 = .ok (.aload_n 0, 1) := by decide +kernel
theorem dX6_isGood_71 : decode cX6_isGood 71 = .ok (.aload_n 0, 1) := by decide +kernel
theorem dX6_isGood_72 : decode cX6_isGood 72 = .ok (.getfield 53, 3) := by decide +kernel
theorem dX6_isGood_75 : decode cX6_isGood 75 = .ok (.iload_n 2, 1) := by decide +kernel
theorem dX6_isGood_76 : decode cX6_isGood 76 = .ok (.iload_n 3, 1) := by decide +kernel
theorem dX6_isGood_77 : decode cX6_isGood 77 = .ok (.invokevirtual 121, 3) := by decide +kernel
theorem dX6_isGood_80 : decode cX6_isGood 80 = .ok (.ifCond .eq 35, 3) := by decide +kernel
theorem dX6_isGood_83 : decode cX6_isGood 83 = .ok (.aload_n 0, 1) := by decide +kernel
theorem dX6_isGood_84 : decode cX6_isGood 84 = .ok (.aload_n 0, 1) := by decide +kernel
theorem dX6_isGood_85 : decode cX6_isGood 85 = .ok (.getfield 56, 3) := by decide +kernel
theorem dX6_isGood_88 : decode cX6_isGood 88 = .ok (.iload_n 2, 1) := by decide +kernel
theorem dX6_isGood_89 : decode cX6_isGood 89 = .ok (.iload_n 3, 1) := by decide +kernel
theorem dX6_isGood_90 : decode cX6_isGood 90 = .ok (.invokevirtual 121, 3) := by decide +kernel
theorem dX6_isGood_93 : decode cX6_isGood 93 = .ok (.ifCond .eq 22, 3) := by decide +kernel
theorem dX6_isGood_96 : decode cX6_isGood 96 = .ok (.aload_n 0, 1) := by decide +kernel
theorem dX6_isGood_97 : decode cX6_isGood 97 = .ok (.getfield 53, 3) := by decide +kernel
theorem dX6_isGood_100 : decode cX6_isGood 100 = .ok (.iconst 5, 1) := by decide +kernel
theorem dX6_isGood_101 : decode cX6_isGood 101 = .ok (.idiv, 1) := by decide +kernel
theorem dX6_isGood_102 : decode cX6_isGood 102 = .ok (.aload_n 0, 1) := by decide +kernel
theorem dX6_isGood_103 : decode cX6_isGood 103 = .ok (.getfield 56, 3) := by decide +kernel
theorem dX6_isGood_106 : decode cX6_isGood 106 = .ok (.iconst 5, 1) := by decide +kernel
theorem dX6_isGood_107 : decode cX6_isGood 107 = .ok (.idiv, 1) := by decide +kernel
theorem dX6_isGood_108 : decode cX6_isGood 108 = .ok (.if_icmp .eq 7, 3) := by decide +kernel
theorem dX6_isGood_111 : decode cX6_isGood 111 = .ok (.iconst 1, 1) := by decide +kernel
theorem dX6_isGood_112 : decode cX6_isGood 112 = .ok (.goto 4, 3) := by decide +kernel
theorem dX6_isGood_115 : decode cX6_isGood 115 = .ok (.iconst 0, 1) := by decide +kernel
theorem dX6_isGood_116 : decode cX6_isGood 116 = .ok (.ireturn, 1) := by decide +kernel
theorem dX6_isGood_117 : decode cX6_isGood 117 = .ok (.aload_n 0, 1) := by decide +kernel
theorem dX6_isGood_118 : decode cX6_isGood 118 = .ok (.aload_n 0, 1) := by decide +kernel
theorem dX6_isGood_119 : decode cX6_isGood 119 = .ok (.getfield 53, 3) := by decide +kernel
theorem dX6_isGood_122 : decode cX6_isGood 122 = .ok (.iconst 1, 1) := by decide +kernel
theorem dX6_isGood_123 : decode cX6_isGood 123 = .ok (.iconst 4, 1) := by decide +kernel
theorem dX6_isGood_124 : decode cX6_isGood 124 = .ok (.invokevirtual 117, 3) := by decide +kernel
theorem dX6_isGood_127 : decode cX6_isGood 127 = .ok (.ifCond .eq 15, 3) := by decide +kernel
theorem dX6_isGood_130 : decode cX6_isGood 130 = .ok (.aload_n 0, 1) := by decide +kernel
theorem dX6_isGood_131 : decode cX6_isGood 131 = .ok (.getfield 56, 3) := by decide +kernel
theorem dX6_isGood_134 : decode cX6_isGood 134 = .ok (.iconst 5, 1) := by decide +kernel
theorem dX6_isGood_135 : decode cX6_isGood 135 = .ok (.if_icmp .ge 7, 3) := by decide +kernel
theorem dX6_isGood_138 : decode cX6_isGood 138 = .ok (.iconst 1, 1) := by decide +kernel
theorem dX6_isGood_139 : decode cX6_isGood 139 = .ok (.goto 4, 3) := by decide +kernel
theorem dX6_isGood_142 : decode cX6_isGood 142 = .ok (.iconst 0, 1) := by decide +kernel
theorem dX6_isGood_143 : decode cX6_isGood 143 = .ok (.ireturn, 1) := by decide +kernel
theorem dX6_isGood_144 : decode cX6_isGood 144 = .ok (.aload_n 0, 1) := by decide +kernel
theorem dX6_isGood_145 : decode cX6_isGood 145 = .ok (.getfield 53, 3) := by decide +kernel
theorem dX6_isGood_148 : decode cX6_isGood 148 = .ok (.iconst 4, 1) := by decide +kernel
theorem dX6_isGood_149 : decode cX6_isGood 149 = .ok (.if_icmp .ge 7, 3) := by decide +kernel
theorem dX6_isGood_152 : decode cX6_isGood 152 = .ok (.iconst 1, 1) := by decide +kernel
theorem dX6_isGood_153 : decode cX6_isGood 153 = .ok (.goto 4, 3) := by decide +kernel
theorem dX6_isGood_156 : decode cX6_isGood 156 = .ok (.iconst 0, 1) := by decide +kernel
theorem dX6_isGood_157 : decode cX6_isGood 157 = .ok (.ireturn, 1) := by decide +kernel
theorem dX6_wrongPlace_0 : decode cX6_wrongPlace 0 = .ok (.aload_n 0, 1) := by decide +kernel
theorem dX6_wrongPlace_1 : decode cX6_wrongPlace 1 = .ok (.iconst 0, 1) := by decide +kernel
theorem dX6_wrongPlace_2 : decode cX6_wrongPlace 2 = .ok (.putfield 50, 3) := by decide +kernel
theorem dX6_wrongPlace_5 : decode cX6_wrongPlace 5 = .ok (.aload_n 0, 1) := by decide +kernel
theorem dX6_wrongPlace_6 : decode cX6_wrongPlace 6 = .ok (.getfield 7, 3) := by decide +kernel
theorem dX6_wrongPlace_9 : decode cX6_wrongPlace 9 = .ok (.istore_n 1, 1) := by decide +kernel
theorem dX6_wrongPlace_10 : decode cX6_wrongPlace 10 = .ok (.aload_n 0, 1) := by decide +kernel
theorem dX6_wrongPlace_11 : decode cX6_wrongPlace 11 = .ok (.getfield 13, 3) := by decide +kernel
theorem dX6_wrongPlace_14 : decode cX6_wrongPlace 14 = .ok (.istore_n 2, 1) := by decide +kernel
theorem dX6_wrongPlace_15 : decode cX6_wrongPlace 15 = .ok (.aload_n 0, 1) := by decide +kernel
theorem dX6_wrongPlace_16 : decode cX6_wrongPlace 16 = .ok (.getfield 50, 3) := by decide +kernel
theorem dX6_wrongPlace_19 : decode cX6_wrongPlace 19 = .ok (.aload_n 0, 1) := by decide +kernel
theorem dX6_wrongPlace_20 : decode cX6_wrongPlace 20 = .ok (.getfield 25, 3) := by decide +kernel
theorem dX6_wrongPlace_23 : decode cX6_wrongPlace 23 = .ok (.if_icmp .ge 72, 3) := by decide +kernel
theorem dX6_wrongPlace_26 : decode cX6_wrongPlace 26 = .ok (.aload_n 0, 1) := by decide +kernel
theorem dX6_wrongPlace_27 : decode cX6_wrongPlace 27 = .ok (.getfield 50, 3) := by decide +kernel
theorem dX6_wrongPlace_30 : decode cX6_wrongPlace 30 = .ok (.istore_n 3, 1) := by decide +kernel
theorem dX6_wrongPlace_31 : decode cX6_wrongPlace 31 = .ok (.aload_n 0, 1) := by decide +kernel
theorem dX6_wrongPlace_32 : decode cX6_wrongPlace 32 = .ok (.invokevirtual 161, 3) := by decide +kernel
theorem dX6_wrongPlace_35 : decode cX6_wrongPlace 35 = .ok (.istore 4, 2) := by decide +kernel
theorem dX6_wrongPlace_37 : decode cX6_wrongPlace 37 = .ok (.aload_n 0, 1) := by decide +kernel
theorem dX6_wrongPlace_38 : decode cX6_wrongPlace 38 = .ok (.aload_n 0, 1) := by decide +kernel
theorem dX6_wrongPlace_39 : decode cX6_wrongPlace 39 = .ok (.getfield 41, 3) := by decide +kernel
theorem dX6_wrongPlace_42 : decode cX6_wrongPlace 42 = .ok (.iload_n 3, 1) := by decide +kernel
theorem dX6_wrongPlace_43 : decode cX6_wrongPlace 43 = .ok (.iaload, 1) := by decide +kernel
theorem dX6_wrongPlace_44 : decode cX6_wrongPlace 44 = .ok (.iload_n 1, 1) := by decide +kernel
theorem dX6_wrongPlace_45 : decode cX6_wrongPlace 45 = .ok (.iload_n 2, 1) := by decide +kernel
theorem dX6_wrongPlace_46 : decode cX6_wrongPlace 46 = .ok (.invokevirtual 164, 3) := by decide +kernel
theorem dX6_wrongPlace_49 : decode cX6_wrongPlace 49 = .ok (.ifCond .ne 5, 3) := by decide +kernel
theorem dX6_wrongPlace_52 : decode cX6_wrongPlace 52 = .ok (.iload_n 3, 1) := by decide +kernel
theorem dX6_wrongPlace_53 : decode cX6_wrongPlace 53 = .ok (.ireturn, 1) := by decide +kernel
theorem dX6_wrongPlace_54 : decode cX6_wrongPlace 54 = .ok (.iload_n 1, 1) := by decide +kernel
theorem dX6_wrongPlace_55 : decode cX6_wrongPlace 55 = .ok (.aload_n 0, 1) := by decide +kernel
theorem dX6_wrongPlace_56 : decode cX6_wrongPlace 56 = .ok (.getfield 41, 3) := by decide +kernel
theorem dX6_wrongPlace_59 : decode cX6_wrongPlace 59 = .ok (.iload_n 3, 1) := by decide +kernel
theorem dX6_wrongPlace_60 : decode cX6_wrongPlace 60 = .ok (.iaload, 1) := by decide +kernel
theorem dX6_wrongPlace_61 : decode cX6_wrongPlace 61 = .ok (.bipush 108, 2) := by decide +kernel
theorem dX6_wrongPlace_63 : decode cX6_wrongPlace 63 = .ok (.if_icmp .ne 7, 3) := by decide +kernel
theorem dX6_wrongPlace_66 : decode cX6_wrongPlace 66 = .ok (.iconst 1, 1) := by decide +kernel
theorem dX6_wrongPlace_67 : decode cX6_wrongPlace 67 = .ok (.goto 4, 3) := by decide +kernel
theorem dX6_wrongPlace_70 : decode cX6_wrongPlace 70 = .ok (.iconst 0, 1) := by decide +kernel
theorem dX6_wrongPlace_71 : decode cX6_wrongPlace 71 = .ok (.iadd, 1) := by decide +kernel
theorem dX6_wrongPlace_72 : decode cX6_wrongPlace 72 = .ok (.istore_n 1, 1) := by decide +kernel
theorem dX6_wrongPlace_73 : decode cX6_wrongPlace 73 = .ok (.iload_n 2, 1) := by decide +kernel
theorem dX6_wrongPlace_74 : decode cX6_wrongPlace 74 = .ok (.aload_n 0, 1) := by decide +kernel
theorem dX6_wrongPlace_75 : decode cX6_wrongPlace 75 = .ok (.getfield 41, 3) := by decide +kernel
theorem dX6_wrongPlace_78 : decode cX6_wrongPlace 78 = .ok (.iload_n 3, 1) := by decide +kernel
theorem dX6_wrongPlace_79 : decode cX6_wrongPlace 79 = .ok (.iaload, 1) := by decide +kernel
theorem dX6_wrongPlace_80 : decode cX6_wrongPlace 80 = .ok (.bipush 114, 2) := by decide +kernel
theorem dX6_wrongPlace_82 : decode cX6_wrongPlace 82 = .ok (.if_icmp .ne 7, 3) := by decide +kernel
theorem dX6_wrongPlace_85 : decode cX6_wrongPlace 85 = .ok (.iconst 1, 1) := by decide +kernel
theorem dX6_wrongPlace_86 : decode cX6_wrongPlace 86 = .ok (.goto 4, 3) := by decide +kernel
theorem dX6_wrongPlace_89 : decode cX6_wrongPlace 89 = .ok (.iconst 0, 1) := by decide +kernel
theorem dX6_wrongPlace_90 : decode cX6_wrongPlace 90 = .ok (.iadd, 1) := by decide +kernel
theorem dX6_wrongPlace_91 : decode cX6_wrongPlace 91 = .ok (.istore_n 2, 1) := by decide +kernel
theorem dX6_wrongPlace_92 : decode cX6_wrongPlace 92 = .ok (.goto (-77), 3) := by decide +kernel
theorem dX6_wrongPlace_95 : decode cX6_wrongPlace 95 = .ok (.iconst (-1), 1) := by decide +kernel
theorem dX6_wrongPlace_96 : decode cX6_wrongPlace 96 = .ok (.ireturn, 1) := by decide +kernel
theorem dX6_newOne_0 : decode cX6_newOne 0 = .ok (.aload_n 0, 1) := by decide +kernel
theorem dX6_newOne_1 : decode cX6_newOne 1 = .ok (.getfield 31, 3) := by decide +kernel
theorem dX6_newOne_4 : decode cX6_newOne 4 = .ok (.iload_n 1, 1) := by decide +kernel
theorem dX6_newOne_5 : decode cX6_newOne 5 = .ok (.aload_n 0, 1) := by decide +kernel
theorem dX6_newOne_6 : decode cX6_newOne 6 = .ok (.getfield 62, 3) := by decide +kernel
theorem dX6_newOne_9 : decode cX6_newOne 9 = .ok (.iastore, 1) := by decide +kernel
theorem dX6_newOne_10 : decode cX6_newOne 10 = .ok (.aload_n 0, 1) := by decide +kernel
theorem dX6_newOne_11 : decode cX6_newOne 11 = .ok (.getfield 35, 3) := by decide +kernel
theorem dX6_newOne_14 : decode cX6_newOne 14 = .ok (.iload_n 1, 1) := by decide +kernel
theorem dX6_newOne_15 : decode cX6_newOne 15 = .ok (.aload_n 0, 1) := by decide +kernel
theorem dX6_newOne_16 : decode cX6_newOne 16 = .ok (.getfield 53, 3) := by decide +kernel
theorem dX6_newOne_19 : decode cX6_newOne 19 = .ok (.iastore, 1) := by decide +kernel
theorem dX6_newOne_20 : decode cX6_newOne 20 = .ok (.iconst 0, 1) := by decide +kernel
theorem dX6_newOne_21 : decode cX6_newOne 21 = .ok (.istore_n 2, 1) := by decide +kernel
theorem dX6_newOne_22 : decode cX6_newOne 22 = .ok (.iload_n 2, 1) := by decide +kernel
theorem dX6_newOne_23 : decode cX6_newOne 23 = .ok (.iconst 5, 1) := by decide +kernel
theorem dX6_newOne_24 : decode cX6_newOne 24 = .ok (.if_icmp .ge 38, 3) := by decide +kernel
theorem dX6_newOne_27 : decode cX6_newOne 27 = .ok (.aload_n 0, 1) := by decide +kernel
theorem dX6_newOne_28 : decode cX6_newOne 28 = .ok (.getfield 38, 3) := by decide +kernel
theorem dX6_newOne_31 : decode cX6_newOne 31 = .ok (.iconst 5, 1) := by decide +kernel
theorem dX6_newOne_32 : decode cX6_newOne 32 = .ok (.iload_n 1, 1) := by decide +kernel
theorem dX6_newOne_33 : decode cX6_newOne 33 = .ok (.imul, 1) := by decide +kernel
theorem dX6_newOne_34 : decode cX6_newOne 34 = .ok (.iload_n 2, 1) := by decide +kernel
theorem dX6_newOne_35 : decode cX6_newOne 35 = .ok (.iadd, 1) := by decide +kernel
theorem dX6_newOne_36 : decode cX6_newOne 36 = .ok (.iconst 5, 1) := by decide +kernel
theorem dX6_newOne_37 : decode cX6_newOne 37 = .ok (.iastore, 1) := by decide +kernel
theorem dX6_newOne_38 : decode cX6_newOne 38 = .ok (.aload_n 0, 1) := by decide +kernel
theorem dX6_newOne_39 : decode cX6_newOne 39 = .ok (.getfield 38, 3) := by decide +kernel
theorem dX6_newOne_42 : decode cX6_newOne 42 = .ok (.iconst 5, 1) := by decide +kernel
theorem dX6_newOne_43 : decode cX6_newOne 43 = .ok (.aload_n 0, 1) := by decide +kernel
theorem dX6_newOne_44 : decode cX6_newOne 44 = .ok (.iload_n 1, 1) := by decide +kernel
theorem dX6_newOne_45 : decode cX6_newOne 45 = .ok (.iload_n 2, 1) := by decide +kernel
theorem dX6_newOne_46 : decode cX6_newOne 46 = .ok (.invokevirtual 167, 3) := by decide +kernel
theorem dX6_newOne_49 : decode cX6_newOne 49 = .ok (.imul, 1) := by decide +kernel
theorem dX6_newOne_50 : decode cX6_newOne 50 = .ok (.iload_n 1, 1) := by decide +kernel
theorem dX6_newOne_51 : decode cX6_newOne 51 = .ok (.iconst 5, 1) := by decide +kernel
theorem dX6_newOne_52 : decode cX6_newOne 52 = .ok (.irem, 1) := by decide +kernel
theorem dX6_newOne_53 : decode cX6_newOne 53 = .ok (.iadd, 1) := by decide +kernel
theorem dX6_newOne_54 : decode cX6_newOne 54 = .ok (.iconst 5, 1) := by decide +kernel
theorem dX6_newOne_55 : decode cX6_newOne 55 = .ok (.iastore, 1) := by decide +kernel
theorem dX6_newOne_56 : decode cX6_newOne 56 = .ok (.iinc 2 1, 3) := by decide +kernel
theorem dX6_newOne_59 : decode cX6_newOne 59 = .ok (.goto (-37), 3) := by decide +kernel
theorem dX6_newOne_62 : decode cX6_newOne 62 = .ok (.return_, 1) := by decide +kernel
theorem dX6_comes_0 : decode cX6_comes 0 = .ok (.iload_n 1, 1) := by decide +kernel
theorem dX6_comes_1 : decode cX6_comes 1 = .ok (.tableswitch 135 107 114 #[91, 47, 135, 135, 116, 135, 135, 68], 47) := by decide +kernel
theorem dX6_comes_48 : decode cX6_comes 48 = .ok (.aload_n 0, 1) := by decide +kernel
theorem dX6_comes_49 : decode cX6_comes 49 = .ok (.aload_n 0, 1) := by decide +kernel
theorem dX6_comes_50 : decode cX6_comes 50 = .ok (.getfield 7, 3) := by decide +kernel
theorem dX6_comes_53 : decode cX6_comes 53 = .ok (.invokevirtual 171, 3) := by decide +kernel
theorem dX6_comes_56 : decode cX6_comes 56 = .ok (.aload_n 0, 1) := by decide +kernel
theorem dX6_comes_57 : decode cX6_comes 57 = .ok (.dup, 1) := by decide +kernel
theorem dX6_comes_58 : decode cX6_comes 58 = .ok (.getfield 7, 3) := by decide +kernel
theorem dX6_comes_61 : decode cX6_comes 61 = .ok (.iconst 1, 1) := by decide +kernel
theorem dX6_comes_62 : decode cX6_comes 62 = .ok (.iadd, 1) := by decide +kernel
theorem dX6_comes_63 : decode cX6_comes 63 = .ok (.putfield 7, 3) := by decide +kernel
theorem dX6_comes_66 : decode cX6_comes 66 = .ok (.goto 78, 3) := by decide +kernel
theorem dX6_comes_69 : decode cX6_comes 69 = .ok (.aload_n 0, 1) := by decide +kernel
theorem dX6_comes_70 : decode cX6_comes 70 = .ok (.iconst 5, 1) := by decide +kernel
theorem dX6_comes_71 : decode cX6_comes 71 = .ok (.aload_n 0, 1) := by decide +kernel
theorem dX6_comes_72 : decode cX6_comes 72 = .ok (.getfield 13, 3) := by decide +kernel
theorem dX6_comes_75 : decode cX6_comes 75 = .ok (.iadd, 1) := by decide +kernel
theorem dX6_comes_76 : decode cX6_comes 76 = .ok (.invokevirtual 171, 3) := by decide +kernel
theorem dX6_comes_79 : decode cX6_comes 79 = .ok (.aload_n 0, 1) := by decide +kernel
theorem dX6_comes_80 : decode cX6_comes 80 = .ok (.dup, 1) := by decide +kernel
theorem dX6_comes_81 : decode cX6_comes 81 = .ok (.getfield 13, 3) := by decide +kernel
theorem dX6_comes_84 : decode cX6_comes 84 = .ok (.iconst 1, 1) := by decide +kernel
theorem dX6_comes_85 : decode cX6_comes 85 = .ok (.iadd, 1) := by decide +kernel
theorem dX6_comes_86 : decode cX6_comes 86 = .ok (.putfield 13, 3) := by decide +kernel
theorem dX6_comes_89 : decode cX6_comes 89 = .ok (.goto 55, 3) := by decide +kernel
theorem dX6_comes_92 : decode cX6_comes 92 = .ok (.aload_n 0, 1) := by decide +kernel
theorem dX6_comes_93 : decode cX6_comes 93 = .ok (.getfield 38, 3) := by decide +kernel
theorem dX6_comes_96 : decode cX6_comes 96 = .ok (.iconst 5, 1) := by decide +kernel
theorem dX6_comes_97 : decode cX6_comes 97 = .ok (.aload_n 0, 1) := by decide +kernel
theorem dX6_comes_98 : decode cX6_comes 98 = .ok (.getfield 53, 3) := by decide +kernel
theorem dX6_comes_101 : decode cX6_comes 101 = .ok (.imul, 1) := by decide +kernel
theorem dX6_comes_102 : decode cX6_comes 102 = .ok (.aload_n 0, 1) := by decide +kernel
theorem dX6_comes_103 : decode cX6_comes 103 = .ok (.getfield 56, 3) := by decide +kernel
theorem dX6_comes_106 : decode cX6_comes 106 = .ok (.iconst 5, 1) := by decide +kernel
theorem dX6_comes_107 : decode cX6_comes 107 = .ok (.irem, 1) := by decide +kernel
theorem dX6_comes_108 : decode cX6_comes 108 = .ok (.iadd, 1) := by decide +kernel
theorem dX6_comes_109 : decode cX6_comes 109 = .ok (.aload_n 0, 1) := by decide +kernel
theorem dX6_comes_110 : decode cX6_comes 110 = .ok (.getfield 59, 3) := by decide +kernel
theorem dX6_comes_113 : decode cX6_comes 113 = .ok (.iastore, 1) := by decide +kernel
theorem dX6_comes_114 : decode cX6_comes 114 = .ok (.goto 30, 3) := by decide +kernel
theorem dX6_comes_117 : decode cX6_comes 117 = .ok (.aload_n 0, 1) := by decide +kernel
theorem dX6_comes_118 : decode cX6_comes 118 = .ok (.aload_n 0, 1) := by decide +kernel
theorem dX6_comes_119 : decode cX6_comes 119 = .ok (.getfield 53, 3) := by decide +kernel
theorem dX6_comes_122 : decode cX6_comes 122 = .ok (.putfield 16, 3) := by decide +kernel
theorem dX6_comes_125 : decode cX6_comes 125 = .ok (.aload_n 0, 1) := by decide +kernel
theorem dX6_comes_126 : decode cX6_comes 126 = .ok (.aload_n 0, 1) := by decide +kernel
theorem dX6_comes_127 : decode cX6_comes 127 = .ok (.getfield 56, 3) := by decide +kernel
theorem dX6_comes_130 : decode cX6_comes 130 = .ok (.putfield 19, 3) := by decide +kernel
theorem dX6_comes_133 : decode cX6_comes 133 = .ok (.goto 11, 3) := by decide +kernel
theorem dX6_comes_136 : decode cX6_comes 136 = .ok (.aload_n 0, 1) := by decide +kernel
theorem dX6_comes_137 : decode cX6_comes 137 = .ok (.aload_n 0, 1) := by decide +kernel
theorem dX6_comes_138 : decode cX6_comes 138 = .ok (.getfield 53, 3) := by decide +kernel
theorem dX6_comes_141 : decode cX6_comes 141 = .ok (.putfield 22, 3) := by decide +kernel
theorem dX6_comes_144 : decode cX6_comes 144 = .ok (.return_, 1) := by decide +kernel
theorem dX6_comesAll_0 : decode cX6_comesAll 0 = .ok (.aload_n 0, 1) := by decide +kernel
theorem dX6_comesAll_1 : decode cX6_comesAll 1 = .ok (.iconst 0, 1) := by decide +kernel
theorem dX6_comesAll_2 : decode cX6_comesAll 2 = .ok (.putfield 50, 3) := by decide +kernel
theorem dX6_comesAll_5 : decode cX6_comesAll 5 = .ok (.iconst 0, 1) := by decide +kernel
theorem dX6_comesAll_6 : decode cX6_comesAll 6 = .ok (.istore_n 1, 1) := by decide +kernel
theorem dX6_comesAll_7 : decode cX6_comesAll 7 = .ok (.aload_n 0, 1) := by decide +kernel
theorem dX6_comesAll_8 : decode cX6_comesAll 8 = .ok (.getfield 50, 3) := by decide +kernel
theorem dX6_comesAll_11 : decode cX6_comesAll 11 = .ok (.aload_n 0, 1) := by decide +kernel
theorem dX6_comesAll_12 : decode cX6_comesAll 12 = .ok (.getfield 25, 3) := by decide +kernel
theorem dX6_comesAll_15 : decode cX6_comesAll 15 = .ok (.if_icmp .ge 24, 3) := by decide +kernel
theorem dX6_comesAll_18 : decode cX6_comesAll 18 = .ok (.aload_n 0, 1) := by decide +kernel
theorem dX6_comesAll_19 : decode cX6_comesAll 19 = .ok (.invokevirtual 132, 3) := by decide +kernel
theorem dX6_comesAll_22 : decode cX6_comesAll 22 = .ok (.istore_n 2, 1) := by decide +kernel
theorem dX6_comesAll_23 : decode cX6_comesAll 23 = .ok (.aload_n 0, 1) := by decide +kernel
theorem dX6_comesAll_24 : decode cX6_comesAll 24 = .ok (.invokevirtual 161, 3) := by decide +kernel
theorem dX6_comesAll_27 : decode cX6_comesAll 27 = .ok (.istore_n 3, 1) := by decide +kernel
theorem dX6_comesAll_28 : decode cX6_comesAll 28 = .ok (.aload_n 0, 1) := by decide +kernel
theorem dX6_comesAll_29 : decode cX6_comesAll 29 = .ok (.iload_n 2, 1) := by decide +kernel
theorem dX6_comesAll_30 : decode cX6_comesAll 30 = .ok (.invokevirtual 175, 3) := by decide +kernel
theorem dX6_comesAll_33 : decode cX6_comesAll 33 = .ok (.iinc 1 1, 3) := by decide +kernel
theorem dX6_comesAll_36 : decode cX6_comesAll 36 = .ok (.goto (-29), 3) := by decide +kernel
theorem dX6_comesAll_39 : decode cX6_comesAll 39 = .ok (.iload_n 1, 1) := by decide +kernel
theorem dX6_comesAll_40 : decode cX6_comesAll 40 = .ok (.ireturn, 1) := by decide +kernel
theorem dX6_evening_0 : decode cX6_evening 0 = .ok (.aload_n 0, 1) := by decide +kernel
theorem dX6_evening_1 : decode cX6_evening 1 = .ok (.invokevirtual 178, 3) := by decide +kernel
theorem dX6_evening_4 : decode cX6_evening 4 = .ok (.ifCond .eq 7, 3) := by decide +kernel
theorem dX6_evening_7 : decode cX6_evening 7 = .ok (.iconst 0, 1) := by decide +kernel
theorem dX6_evening_8 : decode cX6_evening 8 = .ok (.goto 11, 3) := by decide +kernel
theorem dX6_evening_11 : decode cX6_evening 11 = .ok (.sipush (-1000), 3) := by decide +kernel
theorem dX6_evening_14 : decode cX6_evening 14 = .ok (.aload_n 0, 1) := by decide +kernel
theorem dX6_evening_15 : decode cX6_evening 15 = .ok (.getfield 50, 3) := by decide +kernel
theorem dX6_evening_18 : decode cX6_evening 18 = .ok (.isub, 1) := by decide +kernel
theorem dX6_evening_19 : decode cX6_evening 19 = .ok (.istore_n 1, 1) := by decide +kernel
theorem dX6_evening_20 : decode cX6_evening 20 = .ok (.iload_n 1, 1) := by decide +kernel
theorem dX6_evening_21 : decode cX6_evening 21 = .ok (.ifCond .ne 25, 3) := by decide +kernel
theorem dX6_evening_24 : decode cX6_evening 24 = .ok (.aload_n 0, 1) := by decide +kernel
theorem dX6_evening_25 : decode cX6_evening 25 = .ok (.invokevirtual 181, 3) := by decide +kernel
theorem dX6_evening_28 : decode cX6_evening 28 = .ok (.istore_n 2, 1) := by decide +kernel
theorem dX6_evening_29 : decode cX6_evening 29 = .ok (.iload_n 2, 1) := by decide +kernel
theorem dX6_evening_30 : decode cX6_evening 30 = .ok (.ifCond .ge 10, 3) := by decide +kernel
theorem dX6_evening_33 : decode cX6_evening 33 = .ok (.aload_n 0, 1) := by decide +kernel
theorem dX6_evening_34 : decode cX6_evening 34 = .ok (.invokevirtual 184, 3) := by decide +kernel
theorem dX6_evening_37 : decode cX6_evening 37 = .ok (.goto 8, 3) := by decide +kernel
theorem dX6_evening_40 : decode cX6_evening 40 = .ok (.sipush (-2000), 3) := by decide +kernel
theorem dX6_evening_43 : decode cX6_evening 43 = .ok (.iload_n 2, 1) := by decide +kernel
theorem dX6_evening_44 : decode cX6_evening 44 = .ok (.isub, 1) := by decide +kernel
theorem dX6_evening_45 : decode cX6_evening 45 = .ok (.istore_n 1, 1) := by decide +kernel
theorem dX6_evening_46 : decode cX6_evening 46 = .ok (.aload_n 0, 1) := by decide +kernel
theorem dX6_evening_47 : decode cX6_evening 47 = .ok (.iconst 0, 1) := by decide +kernel
theorem dX6_evening_48 : decode cX6_evening 48 = .ok (.putfield 25, 3) := by decide +kernel
theorem dX6_evening_51 : decode cX6_evening 51 = .ok (.iload_n 1, 1) := by decide +kernel
theorem dX6_evening_52 : decode cX6_evening 52 = .ok (.ireturn, 1) := by decide +kernel
theorem dX6_roundsNow_0 : decode cX6_roundsNow 0 = .ok (.aload_n 0, 1) := by decide +kernel
theorem dX6_roundsNow_1 : decode cX6_roundsNow 1 = .ok (.getfield 7, 3) := by decide +kernel
theorem dX6_roundsNow_4 : decode cX6_roundsNow 4 = .ok (.aload_n 0, 1) := by decide +kernel
theorem dX6_roundsNow_5 : decode cX6_roundsNow 5 = .ok (.getfield 13, 3) := by decide +kernel
theorem dX6_roundsNow_8 : decode cX6_roundsNow 8 = .ok (.if_icmp .le 10, 3) := by decide +kernel
theorem dX6_roundsNow_11 : decode cX6_roundsNow 11 = .ok (.aload_n 0, 1) := by decide +kernel
theorem dX6_roundsNow_12 : decode cX6_roundsNow 12 = .ok (.getfield 7, 3) := by decide +kernel
theorem dX6_roundsNow_15 : decode cX6_roundsNow 15 = .ok (.goto 7, 3) := by decide +kernel
theorem dX6_roundsNow_18 : decode cX6_roundsNow 18 = .ok (.aload_n 0, 1) := by decide +kernel
theorem dX6_roundsNow_19 : decode cX6_roundsNow 19 = .ok (.getfield 13, 3) := by decide +kernel
theorem dX6_roundsNow_22 : decode cX6_roundsNow 22 = .ok (.ireturn, 1) := by decide +kernel
theorem dX6_isRound_0 : decode cX6_isRound 0 = .ok (.aload_n 0, 1) := by decide +kernel
theorem dX6_isRound_1 : decode cX6_isRound 1 = .ok (.iload_n 1, 1) := by decide +kernel
theorem dX6_isRound_2 : decode cX6_isRound 2 = .ok (.iconst 0, 1) := by decide +kernel
theorem dX6_isRound_3 : decode cX6_isRound 3 = .ok (.aload_n 0, 1) := by decide +kernel
theorem dX6_isRound_4 : decode cX6_isRound 4 = .ok (.invokevirtual 187, 3) := by decide +kernel
theorem dX6_isRound_7 : decode cX6_isRound 7 = .ok (.iconst 1, 1) := by decide +kernel
theorem dX6_isRound_8 : decode cX6_isRound 8 = .ok (.isub, 1) := by decide +kernel
theorem dX6_isRound_9 : decode cX6_isRound 9 = .ok (.invokevirtual 117, 3) := by decide +kernel
theorem dX6_isRound_12 : decode cX6_isRound 12 = .ok (.ireturn, 1) := by decide +kernel
theorem dX6_metBy_0 : decode cX6_metBy 0 = .ok (.aload_n 0, 1) := by decide +kernel
theorem dX6_metBy_1 : decode cX6_metBy 1 = .ok (.invokevirtual 187, 3) := by decide +kernel
theorem dX6_metBy_4 : decode cX6_metBy 4 = .ok (.istore_n 3, 1) := by decide +kernel
theorem dX6_metBy_5 : decode cX6_metBy 5 = .ok (.iload_n 1, 1) := by decide +kernel
theorem dX6_metBy_6 : decode cX6_metBy 6 = .ok (.iconst 5, 1) := by decide +kernel
theorem dX6_metBy_7 : decode cX6_metBy 7 = .ok (.if_icmp .ge 39, 3) := by decide +kernel
theorem dX6_metBy_10 : decode cX6_metBy 10 = .ok (.iload_n 1, 1) := by decide +kernel
theorem dX6_metBy_11 : decode cX6_metBy 11 = .ok (.aload_n 0, 1) := by decide +kernel
theorem dX6_metBy_12 : decode cX6_metBy 12 = .ok (.getfield 19, 3) := by decide +kernel
theorem dX6_metBy_15 : decode cX6_metBy 15 = .ok (.iadd, 1) := by decide +kernel
theorem dX6_metBy_16 : decode cX6_metBy 16 = .ok (.iload_n 2, 1) := by decide +kernel
theorem dX6_metBy_17 : decode cX6_metBy 17 = .ok (.aload_n 0, 1) := by decide +kernel
theorem dX6_metBy_18 : decode cX6_metBy 18 = .ok (.getfield 16, 3) := by decide +kernel
theorem dX6_metBy_21 : decode cX6_metBy 21 = .ok (.imul, 1) := by decide +kernel
theorem dX6_metBy_22 : decode cX6_metBy 22 = .ok (.iadd, 1) := by decide +kernel
theorem dX6_metBy_23 : decode cX6_metBy 23 = .ok (.iload_n 3, 1) := by decide +kernel
theorem dX6_metBy_24 : decode cX6_metBy 24 = .ok (.irem, 1) := by decide +kernel
theorem dX6_metBy_25 : decode cX6_metBy 25 = .ok (.istore 4, 2) := by decide +kernel
theorem dX6_metBy_27 : decode cX6_metBy 27 = .ok (.iload 4, 2) := by decide +kernel
theorem dX6_metBy_29 : decode cX6_metBy 29 = .ok (.aload_n 0, 1) := by decide +kernel
theorem dX6_metBy_30 : decode cX6_metBy 30 = .ok (.getfield 13, 3) := by decide +kernel
theorem dX6_metBy_33 : decode cX6_metBy 33 = .ok (.if_icmp .ge 10, 3) := by decide +kernel
theorem dX6_metBy_36 : decode cX6_metBy 36 = .ok (.iconst 5, 1) := by decide +kernel
theorem dX6_metBy_37 : decode cX6_metBy 37 = .ok (.iload 4, 2) := by decide +kernel
theorem dX6_metBy_39 : decode cX6_metBy 39 = .ok (.iadd, 1) := by decide +kernel
theorem dX6_metBy_40 : decode cX6_metBy 40 = .ok (.goto 5, 3) := by decide +kernel
theorem dX6_metBy_43 : decode cX6_metBy 43 = .ok (.bipush (-9), 2) := by decide +kernel
theorem dX6_metBy_45 : decode cX6_metBy 45 = .ok (.ireturn, 1) := by decide +kernel
theorem dX6_metBy_46 : decode cX6_metBy 46 = .ok (.iconst 0, 1) := by decide +kernel
theorem dX6_metBy_47 : decode cX6_metBy 47 = .ok (.istore 4, 2) := by decide +kernel
theorem dX6_metBy_49 : decode cX6_metBy 49 = .ok (.iload 4, 2) := by decide +kernel
theorem dX6_metBy_51 : decode cX6_metBy 51 = .ok (.aload_n 0, 1) := by decide +kernel
theorem dX6_metBy_52 : decode cX6_metBy 52 = .ok (.getfield 7, 3) := by decide +kernel
theorem dX6_metBy_55 : decode cX6_metBy 55 = .ok (.if_icmp .ge 34, 3) := by decide +kernel
theorem dX6_metBy_58 : decode cX6_metBy 58 = .ok (.iload 4, 2) := by decide +kernel
theorem dX6_metBy_60 : decode cX6_metBy 60 = .ok (.aload_n 0, 1) := by decide +kernel
theorem dX6_metBy_61 : decode cX6_metBy 61 = .ok (.getfield 19, 3) := by decide +kernel
theorem dX6_metBy_64 : decode cX6_metBy 64 = .ok (.iadd, 1) := by decide +kernel
theorem dX6_metBy_65 : decode cX6_metBy 65 = .ok (.iload_n 2, 1) := by decide +kernel
theorem dX6_metBy_66 : decode cX6_metBy 66 = .ok (.aload_n 0, 1) := by decide +kernel
theorem dX6_metBy_67 : decode cX6_metBy 67 = .ok (.getfield 16, 3) := by decide +kernel
theorem dX6_metBy_70 : decode cX6_metBy 70 = .ok (.imul, 1) := by decide +kernel
theorem dX6_metBy_71 : decode cX6_metBy 71 = .ok (.iadd, 1) := by decide +kernel
theorem dX6_metBy_72 : decode cX6_metBy 72 = .ok (.iload_n 3, 1) := by decide +kernel
theorem dX6_metBy_73 : decode cX6_metBy 73 = .ok (.irem, 1) := by decide +kernel
theorem dX6_metBy_74 : decode cX6_metBy 74 = .ok (.iload_n 1, 1) := by decide +kernel
theorem dX6_metBy_75 : decode cX6_metBy 75 = .ok (.iconst 5, 1) := by decide +kernel
theorem dX6_metBy_76 : decode cX6_metBy 76 = .ok (.isub, 1) := by decide +kernel
theorem dX6_metBy_77 : decode cX6_metBy 77 = .ok (.if_icmp .ne 6, 3) := by decide +kernel
theorem dX6_metBy_80 : decode cX6_metBy 80 = .ok (.iload 4, 2) := by decide +kernel
theorem dX6_metBy_82 : decode cX6_metBy 82 = .ok (.ireturn, 1) := by decide +kernel
theorem dX6_metBy_83 : decode cX6_metBy 83 = .ok (.iinc 4 1, 3) := by decide +kernel
theorem dX6_metBy_86 : decode cX6_metBy 86 = .ok (.goto (-37), 3) := by decide +kernel
theorem dX6_metBy_89 : decode cX6_metBy 89 = .ok (.bipush (-9), 2) := by decide +kernel
theorem dX6_metBy_91 : decode cX6_metBy 91 = .ok (.ireturn, 1) := by decide +kernel
theorem dX6_behindOf_0 : decode cX6_behindOf 0 = .ok (.iload_n 2, 1) := by decide +kernel
theorem dX6_behindOf_1 : decode cX6_behindOf 1 = .ok (.ifCond .ne 8, 3) := by decide +kernel
theorem dX6_behindOf_4 : decode cX6_behindOf 4 = .ok (.bipush (-9), 2) := by decide +kernel
theorem dX6_behindOf_6 : decode cX6_behindOf 6 = .ok (.goto 11, 3) := by decide +kernel
theorem dX6_behindOf_9 : decode cX6_behindOf 9 = .ok (.aload_n 0, 1) := by decide +kernel
theorem dX6_behindOf_10 : decode cX6_behindOf 10 = .ok (.iload_n 1, 1) := by decide +kernel
theorem dX6_behindOf_11 : decode cX6_behindOf 11 = .ok (.iload_n 2, 1) := by decide +kernel
theorem dX6_behindOf_12 : decode cX6_behindOf 12 = .ok (.iconst 1, 1) := by decide +kernel
theorem dX6_behindOf_13 : decode cX6_behindOf 13 = .ok (.isub, 1) := by decide +kernel
theorem dX6_behindOf_14 : decode cX6_behindOf 14 = .ok (.invokevirtual 190, 3) := by decide +kernel
theorem dX6_behindOf_17 : decode cX6_behindOf 17 = .ok (.ireturn, 1) := by decide +kernel
theorem dX6_tired_0 : decode cX6_tired 0 = .ok (.aload_n 0, 1) := by decide +kernel
theorem dX6_tired_1 : decode cX6_tired 1 = .ok (.iload_n 1, 1) := by decide +kernel
theorem dX6_tired_2 : decode cX6_tired 2 = .ok (.iload_n 2, 1) := by decide +kernel
theorem dX6_tired_3 : decode cX6_tired 3 = .ok (.invokevirtual 193, 3) := by decide +kernel
theorem dX6_tired_6 : decode cX6_tired 6 = .ok (.iload_n 3, 1) := by decide +kernel
theorem dX6_tired_7 : decode cX6_tired 7 = .ok (.iconst 2, 1) := by decide +kernel
theorem dX6_tired_8 : decode cX6_tired 8 = .ok (.idiv, 1) := by decide +kernel
theorem dX6_tired_9 : decode cX6_tired 9 = .ok (.isub, 1) := by decide +kernel
theorem dX6_tired_10 : decode cX6_tired 10 = .ok (.ireturn, 1) := by decide +kernel
theorem dX6_feels_0 : decode cX6_feels 0 = .ok (.aload_n 0, 1) := by decide +kernel
theorem dX6_feels_1 : decode cX6_feels 1 = .ok (.iload_n 1, 1) := by decide +kernel
theorem dX6_feels_2 : decode cX6_feels 2 = .ok (.iload_n 2, 1) := by decide +kernel
theorem dX6_feels_3 : decode cX6_feels 3 = .ok (.invokevirtual 193, 3) := by decide +kernel
theorem dX6_feels_6 : decode cX6_feels 6 = .ok (.istore 4, 2) := by decide +kernel
theorem dX6_feels_8 : decode cX6_feels 8 = .ok (.aload_n 0, 1) := by decide +kernel
theorem dX6_feels_9 : decode cX6_feels 9 = .ok (.getfield 31, 3) := by decide +kernel
theorem dX6_feels_12 : decode cX6_feels 12 = .ok (.iload_n 1, 1) := by decide +kernel
theorem dX6_feels_13 : decode cX6_feels 13 = .ok (.iaload, 1) := by decide +kernel
theorem dX6_feels_14 : decode cX6_feels 14 = .ok (.tableswitch 146 1 5 #[34, 48, 56, 91, 113], 34) := by decide +kernel
theorem dX6_feels_48 : decode cX6_feels 48 = .ok (.iload_n 3, 1) := by decide +kernel
theorem dX6_feels_49 : decode cX6_feels 49 = .ok (.ifCond .ne 10, 3) := by decide +kernel
theorem dX6_feels_52 : decode cX6_feels 52 = .ok (.iload 4, 2) := by decide +kernel
theorem dX6_feels_54 : decode cX6_feels 54 = .ok (.iconst 2, 1) := by decide +kernel
theorem dX6_feels_55 : decode cX6_feels 55 = .ok (.isub, 1) := by decide +kernel
theorem dX6_feels_56 : decode cX6_feels 56 = .ok (.goto 5, 3) := by decide +kernel
theorem dX6_feels_59 : decode cX6_feels 59 = .ok (.iload 4, 2) := by decide +kernel
theorem dX6_feels_61 : decode cX6_feels 61 = .ok (.ireturn, 1) := by decide +kernel
theorem dX6_feels_62 : decode cX6_feels 62 = .ok (.aload_n 0, 1) := by decide +kernel
theorem dX6_feels_63 : decode cX6_feels 63 = .ok (.iload_n 1, 1) := by decide +kernel
theorem dX6_feels_64 : decode cX6_feels 64 = .ok (.iload_n 2, 1) := by decide +kernel
theorem dX6_feels_65 : decode cX6_feels 65 = .ok (.iload_n 3, 1) := by decide +kernel
theorem dX6_feels_66 : decode cX6_feels 66 = .ok (.invokevirtual 196, 3) := by decide +kernel
theorem dX6_feels_69 : decode cX6_feels 69 = .ok (.ireturn, 1) := by decide +kernel
theorem dX6_feels_70 : decode cX6_feels 70 = .ok (.aload_n 0, 1) := by decide +kernel
theorem dX6_feels_71 : decode cX6_feels 71 = .ok (.iload_n 1, 1) := by decide +kernel
theorem dX6_feels_72 : decode cX6_feels 72 = .ok (.iload_n 3, 1) := by decide +kernel
theorem dX6_feels_73 : decode cX6_feels 73 = .ok (.invokevirtual 200, 3) := by decide +kernel
theorem dX6_feels_76 : decode cX6_feels 76 = .ok (.istore 5, 2) := by decide +kernel
theorem dX6_feels_78 : decode cX6_feels 78 = .ok (.iload 5, 2) := by decide +kernel
theorem dX6_feels_80 : decode cX6_feels 80 = .ok (.ifCond .lt 22, 3) := by decide +kernel
theorem dX6_feels_83 : decode cX6_feels 83 = .ok (.aload_n 0, 1) := by decide +kernel
theorem dX6_feels_84 : decode cX6_feels 84 = .ok (.iload_n 1, 1) := by decide +kernel
theorem dX6_feels_85 : decode cX6_feels 85 = .ok (.iload 5, 2) := by decide +kernel
theorem dX6_feels_87 : decode cX6_feels 87 = .ok (.invokevirtual 193, 3) := by decide +kernel
theorem dX6_feels_90 : decode cX6_feels 90 = .ok (.iload 4, 2) := by decide +kernel
theorem dX6_feels_92 : decode cX6_feels 92 = .ok (.if_icmp .le 10, 3) := by decide +kernel
theorem dX6_feels_95 : decode cX6_feels 95 = .ok (.iload 4, 2) := by decide +kernel
theorem dX6_feels_97 : decode cX6_feels 97 = .ok (.iconst 3, 1) := by decide +kernel
theorem dX6_feels_98 : decode cX6_feels 98 = .ok (.isub, 1) := by decide +kernel
theorem dX6_feels_99 : decode cX6_feels 99 = .ok (.goto 5, 3) := by decide +kernel
theorem dX6_feels_102 : decode cX6_feels 102 = .ok (.iload 4, 2) := by decide +kernel
theorem dX6_feels_104 : decode cX6_feels 104 = .ok (.ireturn, 1) := by decide +kernel
theorem dX6_feels_105 : decode cX6_feels 105 = .ok (.aload_n 0, 1) := by decide +kernel
theorem dX6_feels_106 : decode cX6_feels 106 = .ok (.iload_n 2, 1) := by decide +kernel
theorem dX6_feels_107 : decode cX6_feels 107 = .ok (.iload_n 1, 1) := by decide +kernel
theorem dX6_feels_108 : decode cX6_feels 108 = .ok (.invokevirtual 193, 3) := by decide +kernel
theorem dX6_feels_111 : decode cX6_feels 111 = .ok (.iconst 4, 1) := by decide +kernel
theorem dX6_feels_112 : decode cX6_feels 112 = .ok (.if_icmp .le 10, 3) := by decide +kernel
theorem dX6_feels_115 : decode cX6_feels 115 = .ok (.iload 4, 2) := by decide +kernel
theorem dX6_feels_117 : decode cX6_feels 117 = .ok (.iconst 1, 1) := by decide +kernel
theorem dX6_feels_118 : decode cX6_feels 118 = .ok (.iadd, 1) := by decide +kernel
theorem dX6_feels_119 : decode cX6_feels 119 = .ok (.goto 7, 3) := by decide +kernel
theorem dX6_feels_122 : decode cX6_feels 122 = .ok (.iload 4, 2) := by decide +kernel
theorem dX6_feels_124 : decode cX6_feels 124 = .ok (.iconst 1, 1) := by decide +kernel
theorem dX6_feels_125 : decode cX6_feels 125 = .ok (.isub, 1) := by decide +kernel
theorem dX6_feels_126 : decode cX6_feels 126 = .ok (.ireturn, 1) := by decide +kernel
theorem dX6_feels_127 : decode cX6_feels 127 = .ok (.iload_n 3, 1) := by decide +kernel
theorem dX6_feels_128 : decode cX6_feels 128 = .ok (.ifCond .le 24, 3) := by decide +kernel
theorem dX6_feels_131 : decode cX6_feels 131 = .ok (.aload_n 0, 1) := by decide +kernel
theorem dX6_feels_132 : decode cX6_feels 132 = .ok (.iload_n 1, 1) := by decide +kernel
theorem dX6_feels_133 : decode cX6_feels 133 = .ok (.iload_n 3, 1) := by decide +kernel
theorem dX6_feels_134 : decode cX6_feels 134 = .ok (.invokevirtual 200, 3) := by decide +kernel
theorem dX6_feels_137 : decode cX6_feels 137 = .ok (.ifCond .ge 15, 3) := by decide +kernel
theorem dX6_feels_140 : decode cX6_feels 140 = .ok (.aload_n 0, 1) := by decide +kernel
theorem dX6_feels_141 : decode cX6_feels 141 = .ok (.iload_n 1, 1) := by decide +kernel
theorem dX6_feels_142 : decode cX6_feels 142 = .ok (.iload_n 2, 1) := by decide +kernel
theorem dX6_feels_143 : decode cX6_feels 143 = .ok (.iload_n 3, 1) := by decide +kernel
theorem dX6_feels_144 : decode cX6_feels 144 = .ok (.invokevirtual 196, 3) := by decide +kernel
theorem dX6_feels_147 : decode cX6_feels 147 = .ok (.iconst 1, 1) := by decide +kernel
theorem dX6_feels_148 : decode cX6_feels 148 = .ok (.isub, 1) := by decide +kernel
theorem dX6_feels_149 : decode cX6_feels 149 = .ok (.goto 10, 3) := by decide +kernel
theorem dX6_feels_152 : decode cX6_feels 152 = .ok (.aload_n 0, 1) := by decide +kernel
theorem dX6_feels_153 : decode cX6_feels 153 = .ok (.iload_n 1, 1) := by decide +kernel
theorem dX6_feels_154 : decode cX6_feels 154 = .ok (.iload_n 2, 1) := by decide +kernel
theorem dX6_feels_155 : decode cX6_feels 155 = .ok (.iload_n 3, 1) := by decide +kernel
theorem dX6_feels_156 : decode cX6_feels 156 = .ok (.invokevirtual 196, 3) := by decide +kernel
theorem dX6_feels_159 : decode cX6_feels 159 = .ok (.ireturn, 1) := by decide +kernel
theorem dX6_feels_160 : decode cX6_feels 160 = .ok (.iload 4, 2) := by decide +kernel
theorem dX6_feels_162 : decode cX6_feels 162 = .ok (.ireturn, 1) := by decide +kernel
theorem dX6_saysYes_0 : decode cX6_saysYes 0 = .ok (.iconst 0, 1) := by decide +kernel
theorem dX6_saysYes_1 : decode cX6_saysYes 1 = .ok (.istore_n 3, 1) := by decide +kernel
theorem dX6_saysYes_2 : decode cX6_saysYes 2 = .ok (.iload_n 3, 1) := by decide +kernel
theorem dX6_saysYes_3 : decode cX6_saysYes 3 = .ok (.aload_n 0, 1) := by decide +kernel
theorem dX6_saysYes_4 : decode cX6_saysYes 4 = .ok (.invokevirtual 187, 3) := by decide +kernel
theorem dX6_saysYes_7 : decode cX6_saysYes 7 = .ok (.if_icmp .ge 37, 3) := by decide +kernel
theorem dX6_saysYes_10 : decode cX6_saysYes 10 = .ok (.aload_n 0, 1) := by decide +kernel
theorem dX6_saysYes_11 : decode cX6_saysYes 11 = .ok (.iload_n 1, 1) := by decide +kernel
theorem dX6_saysYes_12 : decode cX6_saysYes 12 = .ok (.iload_n 3, 1) := by decide +kernel
theorem dX6_saysYes_13 : decode cX6_saysYes 13 = .ok (.invokevirtual 190, 3) := by decide +kernel
theorem dX6_saysYes_16 : decode cX6_saysYes 16 = .ok (.iload_n 2, 1) := by decide +kernel
theorem dX6_saysYes_17 : decode cX6_saysYes 17 = .ok (.if_icmp .ne 21, 3) := by decide +kernel
theorem dX6_saysYes_20 : decode cX6_saysYes 20 = .ok (.aload_n 0, 1) := by decide +kernel
theorem dX6_saysYes_21 : decode cX6_saysYes 21 = .ok (.iload_n 1, 1) := by decide +kernel
theorem dX6_saysYes_22 : decode cX6_saysYes 22 = .ok (.iload_n 2, 1) := by decide +kernel
theorem dX6_saysYes_23 : decode cX6_saysYes 23 = .ok (.iload_n 3, 1) := by decide +kernel
theorem dX6_saysYes_24 : decode cX6_saysYes 24 = .ok (.invokevirtual 203, 3) := by decide +kernel
theorem dX6_saysYes_27 : decode cX6_saysYes 27 = .ok (.aload_n 0, 1) := by decide +kernel
theorem dX6_saysYes_28 : decode cX6_saysYes 28 = .ok (.getfield 35, 3) := by decide +kernel
theorem dX6_saysYes_31 : decode cX6_saysYes 31 = .ok (.iload_n 1, 1) := by decide +kernel
theorem dX6_saysYes_32 : decode cX6_saysYes 32 = .ok (.iaload, 1) := by decide +kernel
theorem dX6_saysYes_33 : decode cX6_saysYes 33 = .ok (.if_icmp .lt 5, 3) := by decide +kernel
theorem dX6_saysYes_36 : decode cX6_saysYes 36 = .ok (.iconst 1, 1) := by decide +kernel
theorem dX6_saysYes_37 : decode cX6_saysYes 37 = .ok (.ireturn, 1) := by decide +kernel
theorem dX6_saysYes_38 : decode cX6_saysYes 38 = .ok (.iinc 3 1, 3) := by decide +kernel
theorem dX6_saysYes_41 : decode cX6_saysYes 41 = .ok (.goto (-39), 3) := by decide +kernel
theorem dX6_saysYes_44 : decode cX6_saysYes 44 = .ok (.iconst 0, 1) := by decide +kernel
theorem dX6_saysYes_45 : decode cX6_saysYes 45 = .ok (.ireturn, 1) := by decide +kernel
theorem dX6_yesesOf_0 : decode cX6_yesesOf 0 = .ok (.iconst 0, 1) := by decide +kernel
theorem dX6_yesesOf_1 : decode cX6_yesesOf 1 = .ok (.istore_n 2, 1) := by decide +kernel
theorem dX6_yesesOf_2 : decode cX6_yesesOf 2 = .ok (.iconst 0, 1) := by decide +kernel
theorem dX6_yesesOf_3 : decode cX6_yesesOf 3 = .ok (.istore_n 3, 1) := by decide +kernel
theorem dX6_yesesOf_4 : decode cX6_yesesOf 4 = .ok (.iload_n 3, 1) := by decide +kernel
theorem dX6_yesesOf_5 : decode cX6_yesesOf 5 = .ok (.aload_n 0, 1) := by decide +kernel
theorem dX6_yesesOf_6 : decode cX6_yesesOf 6 = .ok (.iload_n 1, 1) := by decide +kernel
theorem dX6_yesesOf_7 : decode cX6_yesesOf 7 = .ok (.invokevirtual 206, 3) := by decide +kernel
theorem dX6_yesesOf_10 : decode cX6_yesesOf 10 = .ok (.if_icmp .ge 33, 3) := by decide +kernel
theorem dX6_yesesOf_13 : decode cX6_yesesOf 13 = .ok (.iload_n 2, 1) := by decide +kernel
theorem dX6_yesesOf_14 : decode cX6_yesesOf 14 = .ok (.aload_n 0, 1) := by decide +kernel
theorem dX6_yesesOf_15 : decode cX6_yesesOf 15 = .ok (.iload_n 1, 1) := by decide +kernel
theorem dX6_yesesOf_16 : decode cX6_yesesOf 16 = .ok (.aload_n 0, 1) := by decide +kernel
theorem dX6_yesesOf_17 : decode cX6_yesesOf 17 = .ok (.iload_n 1, 1) := by decide +kernel
theorem dX6_yesesOf_18 : decode cX6_yesesOf 18 = .ok (.iload_n 3, 1) := by decide +kernel
theorem dX6_yesesOf_19 : decode cX6_yesesOf 19 = .ok (.invokevirtual 167, 3) := by decide +kernel
theorem dX6_yesesOf_22 : decode cX6_yesesOf 22 = .ok (.invokevirtual 209, 3) := by decide +kernel
theorem dX6_yesesOf_25 : decode cX6_yesesOf 25 = .ok (.ifCond .eq 9, 3) := by decide +kernel
theorem dX6_yesesOf_28 : decode cX6_yesesOf 28 = .ok (.iconst 1, 1) := by decide +kernel
theorem dX6_yesesOf_29 : decode cX6_yesesOf 29 = .ok (.iload_n 3, 1) := by decide +kernel
theorem dX6_yesesOf_30 : decode cX6_yesesOf 30 = .ok (.ishl, 1) := by decide +kernel
theorem dX6_yesesOf_31 : decode cX6_yesesOf 31 = .ok (.goto 4, 3) := by decide +kernel
theorem dX6_yesesOf_34 : decode cX6_yesesOf 34 = .ok (.iconst 0, 1) := by decide +kernel
theorem dX6_yesesOf_35 : decode cX6_yesesOf 35 = .ok (.ior, 1) := by decide +kernel
theorem dX6_yesesOf_36 : decode cX6_yesesOf 36 = .ok (.istore_n 2, 1) := by decide +kernel
theorem dX6_yesesOf_37 : decode cX6_yesesOf 37 = .ok (.iinc 3 1, 3) := by decide +kernel
theorem dX6_yesesOf_40 : decode cX6_yesesOf 40 = .ok (.goto (-36), 3) := by decide +kernel
theorem dX6_yesesOf_43 : decode cX6_yesesOf 43 = .ok (.iload_n 2, 1) := by decide +kernel
theorem dX6_yesesOf_44 : decode cX6_yesesOf 44 = .ok (.ireturn, 1) := by decide +kernel
theorem dX6_yesesTo_0 : decode cX6_yesesTo 0 = .ok (.iconst 0, 1) := by decide +kernel
theorem dX6_yesesTo_1 : decode cX6_yesesTo 1 = .ok (.istore_n 2, 1) := by decide +kernel
theorem dX6_yesesTo_2 : decode cX6_yesesTo 2 = .ok (.iconst 0, 1) := by decide +kernel
theorem dX6_yesesTo_3 : decode cX6_yesesTo 3 = .ok (.istore_n 3, 1) := by decide +kernel
theorem dX6_yesesTo_4 : decode cX6_yesesTo 4 = .ok (.iload_n 3, 1) := by decide +kernel
theorem dX6_yesesTo_5 : decode cX6_yesesTo 5 = .ok (.aload_n 0, 1) := by decide +kernel
theorem dX6_yesesTo_6 : decode cX6_yesesTo 6 = .ok (.iload_n 1, 1) := by decide +kernel
theorem dX6_yesesTo_7 : decode cX6_yesesTo 7 = .ok (.invokevirtual 206, 3) := by decide +kernel
theorem dX6_yesesTo_10 : decode cX6_yesesTo 10 = .ok (.if_icmp .ge 33, 3) := by decide +kernel
theorem dX6_yesesTo_13 : decode cX6_yesesTo 13 = .ok (.iload_n 2, 1) := by decide +kernel
theorem dX6_yesesTo_14 : decode cX6_yesesTo 14 = .ok (.aload_n 0, 1) := by decide +kernel
theorem dX6_yesesTo_15 : decode cX6_yesesTo 15 = .ok (.aload_n 0, 1) := by decide +kernel
theorem dX6_yesesTo_16 : decode cX6_yesesTo 16 = .ok (.iload_n 1, 1) := by decide +kernel
theorem dX6_yesesTo_17 : decode cX6_yesesTo 17 = .ok (.iload_n 3, 1) := by decide +kernel
theorem dX6_yesesTo_18 : decode cX6_yesesTo 18 = .ok (.invokevirtual 167, 3) := by decide +kernel
theorem dX6_yesesTo_21 : decode cX6_yesesTo 21 = .ok (.iload_n 1, 1) := by decide +kernel
theorem dX6_yesesTo_22 : decode cX6_yesesTo 22 = .ok (.invokevirtual 209, 3) := by decide +kernel
theorem dX6_yesesTo_25 : decode cX6_yesesTo 25 = .ok (.ifCond .eq 9, 3) := by decide +kernel
theorem dX6_yesesTo_28 : decode cX6_yesesTo 28 = .ok (.iconst 1, 1) := by decide +kernel
theorem dX6_yesesTo_29 : decode cX6_yesesTo 29 = .ok (.iload_n 3, 1) := by decide +kernel
theorem dX6_yesesTo_30 : decode cX6_yesesTo 30 = .ok (.ishl, 1) := by decide +kernel
theorem dX6_yesesTo_31 : decode cX6_yesesTo 31 = .ok (.goto 4, 3) := by decide +kernel
theorem dX6_yesesTo_34 : decode cX6_yesesTo 34 = .ok (.iconst 0, 1) := by decide +kernel
theorem dX6_yesesTo_35 : decode cX6_yesesTo 35 = .ok (.ior, 1) := by decide +kernel
theorem dX6_yesesTo_36 : decode cX6_yesesTo 36 = .ok (.istore_n 2, 1) := by decide +kernel
theorem dX6_yesesTo_37 : decode cX6_yesesTo 37 = .ok (.iinc 3 1, 3) := by decide +kernel
theorem dX6_yesesTo_40 : decode cX6_yesesTo 40 = .ok (.goto (-36), 3) := by decide +kernel
theorem dX6_yesesTo_43 : decode cX6_yesesTo 43 = .ok (.iload_n 2, 1) := by decide +kernel
theorem dX6_yesesTo_44 : decode cX6_yesesTo 44 = .ok (.ireturn, 1) := by decide +kernel
theorem dX6_gapsOf_0 : decode cX6_gapsOf 0 = .ok (.iconst 0, 1) := by decide +kernel
theorem dX6_gapsOf_1 : decode cX6_gapsOf 1 = .ok (.istore_n 2, 1) := by decide +kernel
theorem dX6_gapsOf_2 : decode cX6_gapsOf 2 = .ok (.iconst 0, 1) := by decide +kernel
theorem dX6_gapsOf_3 : decode cX6_gapsOf 3 = .ok (.istore_n 3, 1) := by decide +kernel
theorem dX6_gapsOf_4 : decode cX6_gapsOf 4 = .ok (.iload_n 3, 1) := by decide +kernel
theorem dX6_gapsOf_5 : decode cX6_gapsOf 5 = .ok (.aload_n 0, 1) := by decide +kernel
theorem dX6_gapsOf_6 : decode cX6_gapsOf 6 = .ok (.invokevirtual 187, 3) := by decide +kernel
theorem dX6_gapsOf_9 : decode cX6_gapsOf 9 = .ok (.if_icmp .ge 26, 3) := by decide +kernel
theorem dX6_gapsOf_12 : decode cX6_gapsOf 12 = .ok (.iload_n 2, 1) := by decide +kernel
theorem dX6_gapsOf_13 : decode cX6_gapsOf 13 = .ok (.aload_n 0, 1) := by decide +kernel
theorem dX6_gapsOf_14 : decode cX6_gapsOf 14 = .ok (.iload_n 1, 1) := by decide +kernel
theorem dX6_gapsOf_15 : decode cX6_gapsOf 15 = .ok (.iload_n 3, 1) := by decide +kernel
theorem dX6_gapsOf_16 : decode cX6_gapsOf 16 = .ok (.invokevirtual 190, 3) := by decide +kernel
theorem dX6_gapsOf_19 : decode cX6_gapsOf 19 = .ok (.ifCond .ge 7, 3) := by decide +kernel
theorem dX6_gapsOf_22 : decode cX6_gapsOf 22 = .ok (.iconst 1, 1) := by decide +kernel
theorem dX6_gapsOf_23 : decode cX6_gapsOf 23 = .ok (.goto 4, 3) := by decide +kernel
theorem dX6_gapsOf_26 : decode cX6_gapsOf 26 = .ok (.iconst 0, 1) := by decide +kernel
theorem dX6_gapsOf_27 : decode cX6_gapsOf 27 = .ok (.iadd, 1) := by decide +kernel
theorem dX6_gapsOf_28 : decode cX6_gapsOf 28 = .ok (.istore_n 2, 1) := by decide +kernel
theorem dX6_gapsOf_29 : decode cX6_gapsOf 29 = .ok (.iinc 3 1, 3) := by decide +kernel
theorem dX6_gapsOf_32 : decode cX6_gapsOf 32 = .ok (.goto (-28), 3) := by decide +kernel
theorem dX6_gapsOf_35 : decode cX6_gapsOf 35 = .ok (.iload_n 2, 1) := by decide +kernel
theorem dX6_gapsOf_36 : decode cX6_gapsOf 36 = .ok (.ireturn, 1) := by decide +kernel
theorem dX6_person_0 : decode cX6_person 0 = .ok (.aload_n 0, 1) := by decide +kernel
theorem dX6_person_1 : decode cX6_person 1 = .ok (.iload_n 1, 1) := by decide +kernel
theorem dX6_person_2 : decode cX6_person 2 = .ok (.invokevirtual 124, 3) := by decide +kernel
theorem dX6_person_5 : decode cX6_person 5 = .ok (.ifCond .ne 9, 3) := by decide +kernel
theorem dX6_person_8 : decode cX6_person 8 = .ok (.aload_n 0, 1) := by decide +kernel
theorem dX6_person_9 : decode cX6_person 9 = .ok (.iconst (-1), 1) := by decide +kernel
theorem dX6_person_10 : decode cX6_person 10 = .ok (.invokevirtual 128, 3) := by decide +kernel
theorem dX6_person_13 : decode cX6_person 13 = .ok (.ireturn, 1) := by decide +kernel
theorem dX6_person_14 : decode cX6_person 14 = .ok (.iload_n 2, 1) := by decide +kernel
theorem dX6_person_15 : decode cX6_person 15 = .ok (.tableswitch 45 0 2 #[25, 32, 39], 25) := by decide +kernel
theorem dX6_person_40 : decode cX6_person 40 = .ok (.aload_n 0, 1) := by decide +kernel
theorem dX6_person_41 : decode cX6_person 41 = .ok (.getfield 31, 3) := by decide +kernel
theorem dX6_person_44 : decode cX6_person 44 = .ok (.iload_n 1, 1) := by decide +kernel
theorem dX6_person_45 : decode cX6_person 45 = .ok (.iaload, 1) := by decide +kernel
theorem dX6_person_46 : decode cX6_person 46 = .ok (.ireturn, 1) := by decide +kernel
theorem dX6_person_47 : decode cX6_person 47 = .ok (.aload_n 0, 1) := by decide +kernel
theorem dX6_person_48 : decode cX6_person 48 = .ok (.getfield 35, 3) := by decide +kernel
end
section
theorem dX6_person_51 : decode cX6_person 51 = .ok (.iload_n 1, 1) := by decide +kernel
theorem dX6_person_52 : decode cX6_person 52 = .ok (.iaload, 1) := by decide +kernel
theorem dX6_person_53 : decode cX6_person 53 = .ok (.ireturn, 1) := by decide +kernel
theorem dX6_person_54 : decode cX6_person 54 = .ok (.aload_n 0, 1) := by decide +kernel
theorem dX6_person_55 : decode cX6_person 55 = .ok (.iload_n 1, 1) := by decide +kernel
theorem dX6_person_56 : decode cX6_person 56 = .ok (.invokevirtual 213, 3) := by decide +kernel
theorem dX6_person_59 : decode cX6_person 59 = .ok (.ireturn, 1) := by decide +kernel
theorem dX6_person_60 : decode cX6_person 60 = .ok (.aload_n 0, 1) := by decide +kernel
theorem dX6_person_61 : decode cX6_person 61 = .ok (.bipush (-2), 2) := by decide +kernel
theorem dX6_person_63 : decode cX6_person 63 = .ok (.invokevirtual 128, 3) := by decide +kernel
theorem dX6_person_66 : decode cX6_person 66 = .ok (.ireturn, 1) := by decide +kernel
theorem dX6_liking_0 : decode cX6_liking 0 = .ok (.aload_n 0, 1) := by decide +kernel
theorem dX6_liking_1 : decode cX6_liking 1 = .ok (.iload_n 1, 1) := by decide +kernel
theorem dX6_liking_2 : decode cX6_liking 2 = .ok (.iload_n 2, 1) := by decide +kernel
theorem dX6_liking_3 : decode cX6_liking 3 = .ok (.invokevirtual 216, 3) := by decide +kernel
theorem dX6_liking_6 : decode cX6_liking 6 = .ok (.ifCond .eq 12, 3) := by decide +kernel
theorem dX6_liking_9 : decode cX6_liking 9 = .ok (.aload_n 0, 1) := by decide +kernel
theorem dX6_liking_10 : decode cX6_liking 10 = .ok (.iload_n 1, 1) := by decide +kernel
theorem dX6_liking_11 : decode cX6_liking 11 = .ok (.iload_n 2, 1) := by decide +kernel
theorem dX6_liking_12 : decode cX6_liking 12 = .ok (.invokevirtual 193, 3) := by decide +kernel
theorem dX6_liking_15 : decode cX6_liking 15 = .ok (.goto 8, 3) := by decide +kernel
theorem dX6_liking_18 : decode cX6_liking 18 = .ok (.aload_n 0, 1) := by decide +kernel
theorem dX6_liking_19 : decode cX6_liking 19 = .ok (.iconst (-1), 1) := by decide +kernel
theorem dX6_liking_20 : decode cX6_liking 20 = .ok (.invokevirtual 128, 3) := by decide +kernel
theorem dX6_liking_23 : decode cX6_liking 23 = .ok (.ireturn, 1) := by decide +kernel
theorem dX6_like_0 : decode cX6_like 0 = .ok (.aload_n 0, 1) := by decide +kernel
theorem dX6_like_1 : decode cX6_like 1 = .ok (.iload_n 1, 1) := by decide +kernel
theorem dX6_like_2 : decode cX6_like 2 = .ok (.iload_n 2, 1) := by decide +kernel
theorem dX6_like_3 : decode cX6_like 3 = .ok (.invokevirtual 216, 3) := by decide +kernel
theorem dX6_like_6 : decode cX6_like 6 = .ok (.ifCond .ne 9, 3) := by decide +kernel
theorem dX6_like_9 : decode cX6_like 9 = .ok (.aload_n 0, 1) := by decide +kernel
theorem dX6_like_10 : decode cX6_like 10 = .ok (.iconst (-1), 1) := by decide +kernel
theorem dX6_like_11 : decode cX6_like 11 = .ok (.invokevirtual 128, 3) := by decide +kernel
theorem dX6_like_14 : decode cX6_like 14 = .ok (.ireturn, 1) := by decide +kernel
theorem dX6_like_15 : decode cX6_like 15 = .ok (.iload_n 3, 1) := by decide +kernel
theorem dX6_like_16 : decode cX6_like 16 = .ok (.ifCond .ge 10, 3) := by decide +kernel
theorem dX6_like_19 : decode cX6_like 19 = .ok (.aload_n 0, 1) := by decide +kernel
theorem dX6_like_20 : decode cX6_like 20 = .ok (.bipush (-4), 2) := by decide +kernel
theorem dX6_like_22 : decode cX6_like 22 = .ok (.invokevirtual 128, 3) := by decide +kernel
theorem dX6_like_25 : decode cX6_like 25 = .ok (.ireturn, 1) := by decide +kernel
theorem dX6_like_26 : decode cX6_like 26 = .ok (.iload_n 3, 1) := by decide +kernel
theorem dX6_like_27 : decode cX6_like 27 = .ok (.bipush 9, 2) := by decide +kernel
theorem dX6_like_29 : decode cX6_like 29 = .ok (.if_icmp .le 10, 3) := by decide +kernel
theorem dX6_like_32 : decode cX6_like 32 = .ok (.aload_n 0, 1) := by decide +kernel
theorem dX6_like_33 : decode cX6_like 33 = .ok (.bipush (-6), 2) := by decide +kernel
theorem dX6_like_35 : decode cX6_like 35 = .ok (.invokevirtual 128, 3) := by decide +kernel
theorem dX6_like_38 : decode cX6_like 38 = .ok (.ireturn, 1) := by decide +kernel
theorem dX6_like_39 : decode cX6_like 39 = .ok (.aload_n 0, 1) := by decide +kernel
theorem dX6_like_40 : decode cX6_like 40 = .ok (.iload_n 1, 1) := by decide +kernel
theorem dX6_like_41 : decode cX6_like 41 = .ok (.iload_n 2, 1) := by decide +kernel
theorem dX6_like_42 : decode cX6_like 42 = .ok (.invokevirtual 193, 3) := by decide +kernel
theorem dX6_like_45 : decode cX6_like 45 = .ok (.istore 4, 2) := by decide +kernel
theorem dX6_like_47 : decode cX6_like 47 = .ok (.aload_n 0, 1) := by decide +kernel
theorem dX6_like_48 : decode cX6_like 48 = .ok (.getfield 38, 3) := by decide +kernel
theorem dX6_like_51 : decode cX6_like 51 = .ok (.iconst 5, 1) := by decide +kernel
theorem dX6_like_52 : decode cX6_like 52 = .ok (.iload_n 1, 1) := by decide +kernel
theorem dX6_like_53 : decode cX6_like 53 = .ok (.imul, 1) := by decide +kernel
theorem dX6_like_54 : decode cX6_like 54 = .ok (.iload_n 2, 1) := by decide +kernel
theorem dX6_like_55 : decode cX6_like 55 = .ok (.iconst 5, 1) := by decide +kernel
theorem dX6_like_56 : decode cX6_like 56 = .ok (.irem, 1) := by decide +kernel
theorem dX6_like_57 : decode cX6_like 57 = .ok (.iadd, 1) := by decide +kernel
theorem dX6_like_58 : decode cX6_like 58 = .ok (.iload_n 3, 1) := by decide +kernel
theorem dX6_like_59 : decode cX6_like 59 = .ok (.iastore, 1) := by decide +kernel
theorem dX6_like_60 : decode cX6_like 60 = .ok (.iload 4, 2) := by decide +kernel
theorem dX6_like_62 : decode cX6_like 62 = .ok (.ireturn, 1) := by decide +kernel
theorem dX6_order_0 : decode cX6_order 0 = .ok (.iload_n 1, 1) := by decide +kernel
theorem dX6_order_1 : decode cX6_order 1 = .ok (.iconst 1, 1) := by decide +kernel
theorem dX6_order_2 : decode cX6_order 2 = .ok (.if_icmp .lt 7, 3) := by decide +kernel
theorem dX6_order_5 : decode cX6_order 5 = .ok (.iload_n 2, 1) := by decide +kernel
theorem dX6_order_6 : decode cX6_order 6 = .ok (.ifCond .ge 10, 3) := by decide +kernel
theorem dX6_order_9 : decode cX6_order 9 = .ok (.aload_n 0, 1) := by decide +kernel
theorem dX6_order_10 : decode cX6_order 10 = .ok (.bipush (-4), 2) := by decide +kernel
theorem dX6_order_12 : decode cX6_order 12 = .ok (.invokevirtual 128, 3) := by decide +kernel
theorem dX6_order_15 : decode cX6_order 15 = .ok (.ireturn, 1) := by decide +kernel
theorem dX6_order_16 : decode cX6_order 16 = .ok (.iload_n 1, 1) := by decide +kernel
theorem dX6_order_17 : decode cX6_order 17 = .ok (.iconst 4, 1) := by decide +kernel
theorem dX6_order_18 : decode cX6_order 18 = .ok (.if_icmp .gt 8, 3) := by decide +kernel
theorem dX6_order_21 : decode cX6_order 21 = .ok (.iload_n 2, 1) := by decide +kernel
theorem dX6_order_22 : decode cX6_order 22 = .ok (.iconst 4, 1) := by decide +kernel
theorem dX6_order_23 : decode cX6_order 23 = .ok (.if_icmp .le 10, 3) := by decide +kernel
theorem dX6_order_26 : decode cX6_order 26 = .ok (.aload_n 0, 1) := by decide +kernel
theorem dX6_order_27 : decode cX6_order 27 = .ok (.bipush (-6), 2) := by decide +kernel
theorem dX6_order_29 : decode cX6_order 29 = .ok (.invokevirtual 128, 3) := by decide +kernel
theorem dX6_order_32 : decode cX6_order 32 = .ok (.ireturn, 1) := by decide +kernel
theorem dX6_order_33 : decode cX6_order 33 = .ok (.bipush 10, 2) := by decide +kernel
theorem dX6_order_35 : decode cX6_order 35 = .ok (.aload_n 0, 1) := by decide +kernel
theorem dX6_order_36 : decode cX6_order 36 = .ok (.getfield 16, 3) := by decide +kernel
theorem dX6_order_39 : decode cX6_order 39 = .ok (.imul, 1) := by decide +kernel
theorem dX6_order_40 : decode cX6_order 40 = .ok (.aload_n 0, 1) := by decide +kernel
theorem dX6_order_41 : decode cX6_order 41 = .ok (.getfield 19, 3) := by decide +kernel
theorem dX6_order_44 : decode cX6_order 44 = .ok (.iadd, 1) := by decide +kernel
theorem dX6_order_45 : decode cX6_order 45 = .ok (.istore_n 3, 1) := by decide +kernel
theorem dX6_order_46 : decode cX6_order 46 = .ok (.aload_n 0, 1) := by decide +kernel
theorem dX6_order_47 : decode cX6_order 47 = .ok (.iload_n 1, 1) := by decide +kernel
theorem dX6_order_48 : decode cX6_order 48 = .ok (.putfield 16, 3) := by decide +kernel
theorem dX6_order_51 : decode cX6_order 51 = .ok (.aload_n 0, 1) := by decide +kernel
theorem dX6_order_52 : decode cX6_order 52 = .ok (.iload_n 2, 1) := by decide +kernel
theorem dX6_order_53 : decode cX6_order 53 = .ok (.putfield 19, 3) := by decide +kernel
theorem dX6_order_56 : decode cX6_order 56 = .ok (.iload_n 3, 1) := by decide +kernel
theorem dX6_order_57 : decode cX6_order 57 = .ok (.ireturn, 1) := by decide +kernel
theorem dX6_law_0 : decode cX6_law 0 = .ok (.aload_n 0, 1) := by decide +kernel
theorem dX6_law_1 : decode cX6_law 1 = .ok (.iload_n 1, 1) := by decide +kernel
theorem dX6_law_2 : decode cX6_law 2 = .ok (.iconst 0, 1) := by decide +kernel
theorem dX6_law_3 : decode cX6_law 3 = .ok (.iconst 3, 1) := by decide +kernel
theorem dX6_law_4 : decode cX6_law 4 = .ok (.invokevirtual 117, 3) := by decide +kernel
theorem dX6_law_7 : decode cX6_law 7 = .ok (.ifCond .ne 10, 3) := by decide +kernel
theorem dX6_law_10 : decode cX6_law 10 = .ok (.aload_n 0, 1) := by decide +kernel
theorem dX6_law_11 : decode cX6_law 11 = .ok (.bipush (-2), 2) := by decide +kernel
theorem dX6_law_13 : decode cX6_law 13 = .ok (.invokevirtual 128, 3) := by decide +kernel
theorem dX6_law_16 : decode cX6_law 16 = .ok (.ireturn, 1) := by decide +kernel
theorem dX6_law_17 : decode cX6_law 17 = .ok (.aload_n 0, 1) := by decide +kernel
theorem dX6_law_18 : decode cX6_law 18 = .ok (.getfield 22, 3) := by decide +kernel
theorem dX6_law_21 : decode cX6_law 21 = .ok (.istore_n 2, 1) := by decide +kernel
theorem dX6_law_22 : decode cX6_law 22 = .ok (.aload_n 0, 1) := by decide +kernel
theorem dX6_law_23 : decode cX6_law 23 = .ok (.iload_n 1, 1) := by decide +kernel
theorem dX6_law_24 : decode cX6_law 24 = .ok (.putfield 22, 3) := by decide +kernel
theorem dX6_law_27 : decode cX6_law 27 = .ok (.iload_n 2, 1) := by decide +kernel
theorem dX6_law_28 : decode cX6_law 28 = .ok (.ireturn, 1) := by decide +kernel
theorem dX6_meets_0 : decode cX6_meets 0 = .ok (.aload_n 0, 1) := by decide +kernel
theorem dX6_meets_1 : decode cX6_meets 1 = .ok (.iload_n 1, 1) := by decide +kernel
theorem dX6_meets_2 : decode cX6_meets 2 = .ok (.invokevirtual 124, 3) := by decide +kernel
theorem dX6_meets_5 : decode cX6_meets 5 = .ok (.ifCond .eq 20, 3) := by decide +kernel
theorem dX6_meets_8 : decode cX6_meets 8 = .ok (.aload_n 0, 1) := by decide +kernel
theorem dX6_meets_9 : decode cX6_meets 9 = .ok (.iload_n 2, 1) := by decide +kernel
theorem dX6_meets_10 : decode cX6_meets 10 = .ok (.invokevirtual 219, 3) := by decide +kernel
theorem dX6_meets_13 : decode cX6_meets 13 = .ok (.ifCond .eq 12, 3) := by decide +kernel
theorem dX6_meets_16 : decode cX6_meets 16 = .ok (.aload_n 0, 1) := by decide +kernel
theorem dX6_meets_17 : decode cX6_meets 17 = .ok (.iload_n 1, 1) := by decide +kernel
theorem dX6_meets_18 : decode cX6_meets 18 = .ok (.iload_n 2, 1) := by decide +kernel
theorem dX6_meets_19 : decode cX6_meets 19 = .ok (.invokevirtual 190, 3) := by decide +kernel
theorem dX6_meets_22 : decode cX6_meets 22 = .ok (.goto 8, 3) := by decide +kernel
theorem dX6_meets_25 : decode cX6_meets 25 = .ok (.aload_n 0, 1) := by decide +kernel
theorem dX6_meets_26 : decode cX6_meets 26 = .ok (.iconst (-1), 1) := by decide +kernel
theorem dX6_meets_27 : decode cX6_meets 27 = .ok (.invokevirtual 128, 3) := by decide +kernel
theorem dX6_meets_30 : decode cX6_meets 30 = .ok (.ireturn, 1) := by decide +kernel
theorem dX6_felt_0 : decode cX6_felt 0 = .ok (.aload_n 0, 1) := by decide +kernel
theorem dX6_felt_1 : decode cX6_felt 1 = .ok (.iload_n 1, 1) := by decide +kernel
theorem dX6_felt_2 : decode cX6_felt 2 = .ok (.invokevirtual 124, 3) := by decide +kernel
theorem dX6_felt_5 : decode cX6_felt 5 = .ok (.ifCond .eq 11, 3) := by decide +kernel
theorem dX6_felt_8 : decode cX6_felt 8 = .ok (.aload_n 0, 1) := by decide +kernel
theorem dX6_felt_9 : decode cX6_felt 9 = .ok (.iload_n 2, 1) := by decide +kernel
theorem dX6_felt_10 : decode cX6_felt 10 = .ok (.invokevirtual 219, 3) := by decide +kernel
theorem dX6_felt_13 : decode cX6_felt 13 = .ok (.ifCond .ne 12, 3) := by decide +kernel
theorem dX6_felt_16 : decode cX6_felt 16 = .ok (.ldc 222, 2) := by decide +kernel
theorem dX6_felt_18 : decode cX6_felt 18 = .ok (.aload_n 0, 1) := by decide +kernel
theorem dX6_felt_19 : decode cX6_felt 19 = .ok (.iconst (-1), 1) := by decide +kernel
theorem dX6_felt_20 : decode cX6_felt 20 = .ok (.invokevirtual 128, 3) := by decide +kernel
theorem dX6_felt_23 : decode cX6_felt 23 = .ok (.isub, 1) := by decide +kernel
theorem dX6_felt_24 : decode cX6_felt 24 = .ok (.ireturn, 1) := by decide +kernel
theorem dX6_felt_25 : decode cX6_felt 25 = .ok (.aload_n 0, 1) := by decide +kernel
theorem dX6_felt_26 : decode cX6_felt 26 = .ok (.iload_n 1, 1) := by decide +kernel
theorem dX6_felt_27 : decode cX6_felt 27 = .ok (.iload_n 2, 1) := by decide +kernel
theorem dX6_felt_28 : decode cX6_felt 28 = .ok (.invokevirtual 190, 3) := by decide +kernel
theorem dX6_felt_31 : decode cX6_felt 31 = .ok (.istore_n 3, 1) := by decide +kernel
theorem dX6_felt_32 : decode cX6_felt 32 = .ok (.iload_n 3, 1) := by decide +kernel
theorem dX6_felt_33 : decode cX6_felt 33 = .ok (.ifCond .ge 9, 3) := by decide +kernel
theorem dX6_felt_36 : decode cX6_felt 36 = .ok (.sipush 999, 3) := by decide +kernel
theorem dX6_felt_39 : decode cX6_felt 39 = .ok (.goto 10, 3) := by decide +kernel
theorem dX6_felt_42 : decode cX6_felt 42 = .ok (.aload_n 0, 1) := by decide +kernel
theorem dX6_felt_43 : decode cX6_felt 43 = .ok (.iload_n 1, 1) := by decide +kernel
theorem dX6_felt_44 : decode cX6_felt 44 = .ok (.iload_n 3, 1) := by decide +kernel
theorem dX6_felt_45 : decode cX6_felt 45 = .ok (.iload_n 2, 1) := by decide +kernel
theorem dX6_felt_46 : decode cX6_felt 46 = .ok (.invokevirtual 203, 3) := by decide +kernel
theorem dX6_felt_49 : decode cX6_felt 49 = .ok (.ireturn, 1) := by decide +kernel
theorem dX6_yeses_0 : decode cX6_yeses 0 = .ok (.aload_n 0, 1) := by decide +kernel
theorem dX6_yeses_1 : decode cX6_yeses 1 = .ok (.iload_n 1, 1) := by decide +kernel
theorem dX6_yeses_2 : decode cX6_yeses 2 = .ok (.invokevirtual 124, 3) := by decide +kernel
theorem dX6_yeses_5 : decode cX6_yeses 5 = .ok (.ifCond .ne 9, 3) := by decide +kernel
theorem dX6_yeses_8 : decode cX6_yeses 8 = .ok (.aload_n 0, 1) := by decide +kernel
theorem dX6_yeses_9 : decode cX6_yeses 9 = .ok (.iconst (-1), 1) := by decide +kernel
theorem dX6_yeses_10 : decode cX6_yeses 10 = .ok (.invokevirtual 128, 3) := by decide +kernel
theorem dX6_yeses_13 : decode cX6_yeses 13 = .ok (.ireturn, 1) := by decide +kernel
theorem dX6_yeses_14 : decode cX6_yeses 14 = .ok (.iload_n 2, 1) := by decide +kernel
theorem dX6_yeses_15 : decode cX6_yeses 15 = .ok (.ifCond .ne 11, 3) := by decide +kernel
theorem dX6_yeses_18 : decode cX6_yeses 18 = .ok (.aload_n 0, 1) := by decide +kernel
theorem dX6_yeses_19 : decode cX6_yeses 19 = .ok (.iload_n 1, 1) := by decide +kernel
theorem dX6_yeses_20 : decode cX6_yeses 20 = .ok (.invokevirtual 223, 3) := by decide +kernel
theorem dX6_yeses_23 : decode cX6_yeses 23 = .ok (.goto 22, 3) := by decide +kernel
theorem dX6_yeses_26 : decode cX6_yeses 26 = .ok (.iload_n 2, 1) := by decide +kernel
theorem dX6_yeses_27 : decode cX6_yeses 27 = .ok (.iconst 1, 1) := by decide +kernel
theorem dX6_yeses_28 : decode cX6_yeses 28 = .ok (.if_icmp .ne 11, 3) := by decide +kernel
theorem dX6_yeses_31 : decode cX6_yeses 31 = .ok (.aload_n 0, 1) := by decide +kernel
theorem dX6_yeses_32 : decode cX6_yeses 32 = .ok (.iload_n 1, 1) := by decide +kernel
theorem dX6_yeses_33 : decode cX6_yeses 33 = .ok (.invokevirtual 226, 3) := by decide +kernel
theorem dX6_yeses_36 : decode cX6_yeses 36 = .ok (.goto 9, 3) := by decide +kernel
theorem dX6_yeses_39 : decode cX6_yeses 39 = .ok (.aload_n 0, 1) := by decide +kernel
theorem dX6_yeses_40 : decode cX6_yeses 40 = .ok (.bipush (-2), 2) := by decide +kernel
theorem dX6_yeses_42 : decode cX6_yeses 42 = .ok (.invokevirtual 128, 3) := by decide +kernel
theorem dX6_yeses_45 : decode cX6_yeses 45 = .ok (.ireturn, 1) := by decide +kernel
theorem dX6_dearest_0 : decode cX6_dearest 0 = .ok (.iconst (-1), 1) := by decide +kernel
theorem dX6_dearest_1 : decode cX6_dearest 1 = .ok (.istore_n 3, 1) := by decide +kernel
theorem dX6_dearest_2 : decode cX6_dearest 2 = .ok (.iconst 0, 1) := by decide +kernel
theorem dX6_dearest_3 : decode cX6_dearest 3 = .ok (.istore 4, 2) := by decide +kernel
theorem dX6_dearest_5 : decode cX6_dearest 5 = .ok (.iload 4, 2) := by decide +kernel
theorem dX6_dearest_7 : decode cX6_dearest 7 = .ok (.iconst 5, 1) := by decide +kernel
theorem dX6_dearest_8 : decode cX6_dearest 8 = .ok (.if_icmp .ge 50, 3) := by decide +kernel
theorem dX6_dearest_11 : decode cX6_dearest 11 = .ok (.aload_n 0, 1) := by decide +kernel
theorem dX6_dearest_12 : decode cX6_dearest 12 = .ok (.iload_n 2, 1) := by decide +kernel
theorem dX6_dearest_13 : decode cX6_dearest 13 = .ok (.iload 4, 2) := by decide +kernel
theorem dX6_dearest_15 : decode cX6_dearest 15 = .ok (.invokevirtual 229, 3) := by decide +kernel
theorem dX6_dearest_18 : decode cX6_dearest 18 = .ok (.ifCond .eq 34, 3) := by decide +kernel
theorem dX6_dearest_21 : decode cX6_dearest 21 = .ok (.iload_n 3, 1) := by decide +kernel
theorem dX6_dearest_22 : decode cX6_dearest 22 = .ok (.ifCond .lt 27, 3) := by decide +kernel
theorem dX6_dearest_25 : decode cX6_dearest 25 = .ok (.aload_n 0, 1) := by decide +kernel
theorem dX6_dearest_26 : decode cX6_dearest 26 = .ok (.getfield 38, 3) := by decide +kernel
theorem dX6_dearest_29 : decode cX6_dearest 29 = .ok (.iconst 5, 1) := by decide +kernel
theorem dX6_dearest_30 : decode cX6_dearest 30 = .ok (.iload_n 1, 1) := by decide +kernel
theorem dX6_dearest_31 : decode cX6_dearest 31 = .ok (.imul, 1) := by decide +kernel
theorem dX6_dearest_32 : decode cX6_dearest 32 = .ok (.iload 4, 2) := by decide +kernel
theorem dX6_dearest_34 : decode cX6_dearest 34 = .ok (.iadd, 1) := by decide +kernel
theorem dX6_dearest_35 : decode cX6_dearest 35 = .ok (.iaload, 1) := by decide +kernel
theorem dX6_dearest_36 : decode cX6_dearest 36 = .ok (.aload_n 0, 1) := by decide +kernel
theorem dX6_dearest_37 : decode cX6_dearest 37 = .ok (.getfield 38, 3) := by decide +kernel
theorem dX6_dearest_40 : decode cX6_dearest 40 = .ok (.iconst 5, 1) := by decide +kernel
theorem dX6_dearest_41 : decode cX6_dearest 41 = .ok (.iload_n 1, 1) := by decide +kernel
theorem dX6_dearest_42 : decode cX6_dearest 42 = .ok (.imul, 1) := by decide +kernel
theorem dX6_dearest_43 : decode cX6_dearest 43 = .ok (.iload_n 3, 1) := by decide +kernel
theorem dX6_dearest_44 : decode cX6_dearest 44 = .ok (.iadd, 1) := by decide +kernel
theorem dX6_dearest_45 : decode cX6_dearest 45 = .ok (.iaload, 1) := by decide +kernel
theorem dX6_dearest_46 : decode cX6_dearest 46 = .ok (.if_icmp .le 6, 3) := by decide +kernel
theorem dX6_dearest_49 : decode cX6_dearest 49 = .ok (.iload 4, 2) := by decide +kernel
theorem dX6_dearest_51 : decode cX6_dearest 51 = .ok (.istore_n 3, 1) := by decide +kernel
theorem dX6_dearest_52 : decode cX6_dearest 52 = .ok (.iinc 4 1, 3) := by decide +kernel
theorem dX6_dearest_55 : decode cX6_dearest 55 = .ok (.goto (-50), 3) := by decide +kernel
theorem dX6_dearest_58 : decode cX6_dearest 58 = .ok (.iload_n 3, 1) := by decide +kernel
theorem dX6_dearest_59 : decode cX6_dearest 59 = .ok (.ireturn, 1) := by decide +kernel
theorem dX6_isRather_0 : decode cX6_isRather 0 = .ok (.aload_n 0, 1) := by decide +kernel
theorem dX6_isRather_1 : decode cX6_isRather 1 = .ok (.getfield 38, 3) := by decide +kernel
theorem dX6_isRather_4 : decode cX6_isRather 4 = .ok (.iconst 5, 1) := by decide +kernel
theorem dX6_isRather_5 : decode cX6_isRather 5 = .ok (.iload_n 1, 1) := by decide +kernel
theorem dX6_isRather_6 : decode cX6_isRather 6 = .ok (.imul, 1) := by decide +kernel
theorem dX6_isRather_7 : decode cX6_isRather 7 = .ok (.iload_n 2, 1) := by decide +kernel
theorem dX6_isRather_8 : decode cX6_isRather 8 = .ok (.iadd, 1) := by decide +kernel
theorem dX6_isRather_9 : decode cX6_isRather 9 = .ok (.iaload, 1) := by decide +kernel
theorem dX6_isRather_10 : decode cX6_isRather 10 = .ok (.aload_n 0, 1) := by decide +kernel
theorem dX6_isRather_11 : decode cX6_isRather 11 = .ok (.getfield 38, 3) := by decide +kernel
theorem dX6_isRather_14 : decode cX6_isRather 14 = .ok (.iconst 5, 1) := by decide +kernel
theorem dX6_isRather_15 : decode cX6_isRather 15 = .ok (.iload_n 1, 1) := by decide +kernel
theorem dX6_isRather_16 : decode cX6_isRather 16 = .ok (.imul, 1) := by decide +kernel
theorem dX6_isRather_17 : decode cX6_isRather 17 = .ok (.iload_n 3, 1) := by decide +kernel
theorem dX6_isRather_18 : decode cX6_isRather 18 = .ok (.iadd, 1) := by decide +kernel
theorem dX6_isRather_19 : decode cX6_isRather 19 = .ok (.iaload, 1) := by decide +kernel
theorem dX6_isRather_20 : decode cX6_isRather 20 = .ok (.if_icmp .gt 31, 3) := by decide +kernel
theorem dX6_isRather_23 : decode cX6_isRather 23 = .ok (.aload_n 0, 1) := by decide +kernel
theorem dX6_isRather_24 : decode cX6_isRather 24 = .ok (.getfield 38, 3) := by decide +kernel
theorem dX6_isRather_27 : decode cX6_isRather 27 = .ok (.iconst 5, 1) := by decide +kernel
theorem dX6_isRather_28 : decode cX6_isRather 28 = .ok (.iload_n 1, 1) := by decide +kernel
theorem dX6_isRather_29 : decode cX6_isRather 29 = .ok (.imul, 1) := by decide +kernel
theorem dX6_isRather_30 : decode cX6_isRather 30 = .ok (.iload_n 2, 1) := by decide +kernel
theorem dX6_isRather_31 : decode cX6_isRather 31 = .ok (.iadd, 1) := by decide +kernel
theorem dX6_isRather_32 : decode cX6_isRather 32 = .ok (.iaload, 1) := by decide +kernel
theorem dX6_isRather_33 : decode cX6_isRather 33 = .ok (.aload_n 0, 1) := by decide +kernel
theorem dX6_isRather_34 : decode cX6_isRather 34 = .ok (.getfield 38, 3) := by decide +kernel
theorem dX6_isRather_37 : decode cX6_isRather 37 = .ok (.iconst 5, 1) := by decide +kernel
theorem dX6_isRather_38 : decode cX6_isRather 38 = .ok (.iload_n 1, 1) := by decide +kernel
theorem dX6_isRather_39 : decode cX6_isRather 39 = .ok (.imul, 1) := by decide +kernel
theorem dX6_isRather_40 : decode cX6_isRather 40 = .ok (.iload_n 3, 1) := by decide +kernel
theorem dX6_isRather_41 : decode cX6_isRather 41 = .ok (.iadd, 1) := by decide +kernel
theorem dX6_isRather_42 : decode cX6_isRather 42 = .ok (.iaload, 1) := by decide +kernel
theorem dX6_isRather_43 : decode cX6_isRather 43 = .ok (.if_icmp .ne 12, 3) := by decide +kernel
theorem dX6_isRather_46 : decode cX6_isRather 46 = .ok (.iload_n 2, 1) := by decide +kernel
theorem dX6_isRather_47 : decode cX6_isRather 47 = .ok (.iload_n 3, 1) := by decide +kernel
theorem dX6_isRather_48 : decode cX6_isRather 48 = .ok (.if_icmp .ge 7, 3) := by decide +kernel
theorem dX6_isRather_51 : decode cX6_isRather 51 = .ok (.iconst 1, 1) := by decide +kernel
theorem dX6_isRather_52 : decode cX6_isRather 52 = .ok (.goto 4, 3) := by decide +kernel
theorem dX6_isRather_55 : decode cX6_isRather 55 = .ok (.iconst 0, 1) := by decide +kernel
theorem dX6_isRather_56 : decode cX6_isRather 56 = .ok (.ireturn, 1) := by decide +kernel
theorem dX6_nextAsker_0 : decode cX6_nextAsker 0 = .ok (.iconst 0, 1) := by decide +kernel
theorem dX6_nextAsker_1 : decode cX6_nextAsker 1 = .ok (.istore 4, 2) := by decide +kernel
theorem dX6_nextAsker_3 : decode cX6_nextAsker 3 = .ok (.iload 4, 2) := by decide +kernel
theorem dX6_nextAsker_5 : decode cX6_nextAsker 5 = .ok (.iload_n 2, 1) := by decide +kernel
theorem dX6_nextAsker_6 : decode cX6_nextAsker 6 = .ok (.if_icmp .ge 70, 3) := by decide +kernel
theorem dX6_nextAsker_9 : decode cX6_nextAsker 9 = .ok (.iconst 0, 1) := by decide +kernel
theorem dX6_nextAsker_10 : decode cX6_nextAsker 10 = .ok (.istore 5, 2) := by decide +kernel
theorem dX6_nextAsker_12 : decode cX6_nextAsker 12 = .ok (.iconst 0, 1) := by decide +kernel
theorem dX6_nextAsker_13 : decode cX6_nextAsker 13 = .ok (.istore 6, 2) := by decide +kernel
theorem dX6_nextAsker_15 : decode cX6_nextAsker 15 = .ok (.iload 6, 2) := by decide +kernel
theorem dX6_nextAsker_17 : decode cX6_nextAsker 17 = .ok (.iconst 5, 1) := by decide +kernel
theorem dX6_nextAsker_18 : decode cX6_nextAsker 18 = .ok (.if_icmp .ge 33, 3) := by decide +kernel
theorem dX6_nextAsker_21 : decode cX6_nextAsker 21 = .ok (.iload 5, 2) := by decide +kernel
theorem dX6_nextAsker_23 : decode cX6_nextAsker 23 = .ok (.ifCond .ne 15, 3) := by decide +kernel
theorem dX6_nextAsker_26 : decode cX6_nextAsker 26 = .ok (.aload_n 0, 1) := by decide +kernel
theorem dX6_nextAsker_27 : decode cX6_nextAsker 27 = .ok (.getfield 68, 3) := by decide +kernel
theorem dX6_nextAsker_30 : decode cX6_nextAsker 30 = .ok (.iload 6, 2) := by decide +kernel
theorem dX6_nextAsker_32 : decode cX6_nextAsker 32 = .ok (.iaload, 1) := by decide +kernel
theorem dX6_nextAsker_33 : decode cX6_nextAsker 33 = .ok (.iload 4, 2) := by decide +kernel
theorem dX6_nextAsker_35 : decode cX6_nextAsker 35 = .ok (.if_icmp .ne 7, 3) := by decide +kernel
theorem dX6_nextAsker_38 : decode cX6_nextAsker 38 = .ok (.iconst 1, 1) := by decide +kernel
theorem dX6_nextAsker_39 : decode cX6_nextAsker 39 = .ok (.goto 4, 3) := by decide +kernel
theorem dX6_nextAsker_42 : decode cX6_nextAsker 42 = .ok (.iconst 0, 1) := by decide +kernel
theorem dX6_nextAsker_43 : decode cX6_nextAsker 43 = .ok (.istore 5, 2) := by decide +kernel
theorem dX6_nextAsker_45 : decode cX6_nextAsker 45 = .ok (.iinc 6 1, 3) := by decide +kernel
theorem dX6_nextAsker_48 : decode cX6_nextAsker 48 = .ok (.goto (-33), 3) := by decide +kernel
theorem dX6_nextAsker_51 : decode cX6_nextAsker 51 = .ok (.iload 5, 2) := by decide +kernel
theorem dX6_nextAsker_53 : decode cX6_nextAsker 53 = .ok (.ifCond .ne 17, 3) := by decide +kernel
theorem dX6_nextAsker_56 : decode cX6_nextAsker 56 = .ok (.aload_n 0, 1) := by decide +kernel
theorem dX6_nextAsker_57 : decode cX6_nextAsker 57 = .ok (.getfield 65, 3) := by decide +kernel
theorem dX6_nextAsker_60 : decode cX6_nextAsker 60 = .ok (.iload 4, 2) := by decide +kernel
theorem dX6_nextAsker_62 : decode cX6_nextAsker 62 = .ok (.iaload, 1) := by decide +kernel
theorem dX6_nextAsker_63 : decode cX6_nextAsker 63 = .ok (.iload_n 3, 1) := by decide +kernel
theorem dX6_nextAsker_64 : decode cX6_nextAsker 64 = .ok (.if_icmp .eq 6, 3) := by decide +kernel
theorem dX6_nextAsker_67 : decode cX6_nextAsker 67 = .ok (.iload 4, 2) := by decide +kernel
theorem dX6_nextAsker_69 : decode cX6_nextAsker 69 = .ok (.ireturn, 1) := by decide +kernel
theorem dX6_nextAsker_70 : decode cX6_nextAsker 70 = .ok (.iinc 4 1, 3) := by decide +kernel
theorem dX6_nextAsker_73 : decode cX6_nextAsker 73 = .ok (.goto (-70), 3) := by decide +kernel
theorem dX6_nextAsker_76 : decode cX6_nextAsker 76 = .ok (.iconst (-1), 1) := by decide +kernel
theorem dX6_nextAsker_77 : decode cX6_nextAsker 77 = .ok (.ireturn, 1) := by decide +kernel
theorem dX6_layRanks_0 : decode cX6_layRanks 0 = .ok (.iload_n 1, 1) := by decide +kernel
theorem dX6_layRanks_1 : decode cX6_layRanks 1 = .ok (.ifCond .ne 10, 3) := by decide +kernel
theorem dX6_layRanks_4 : decode cX6_layRanks 4 = .ok (.aload_n 0, 1) := by decide +kernel
theorem dX6_layRanks_5 : decode cX6_layRanks 5 = .ok (.getfield 7, 3) := by decide +kernel
theorem dX6_layRanks_8 : decode cX6_layRanks 8 = .ok (.goto 7, 3) := by decide +kernel
theorem dX6_layRanks_11 : decode cX6_layRanks 11 = .ok (.aload_n 0, 1) := by decide +kernel
theorem dX6_layRanks_12 : decode cX6_layRanks 12 = .ok (.getfield 13, 3) := by decide +kernel
theorem dX6_layRanks_15 : decode cX6_layRanks 15 = .ok (.istore_n 2, 1) := by decide +kernel
theorem dX6_layRanks_16 : decode cX6_layRanks 16 = .ok (.iconst 1, 1) := by decide +kernel
theorem dX6_layRanks_17 : decode cX6_layRanks 17 = .ok (.iload_n 1, 1) := by decide +kernel
theorem dX6_layRanks_18 : decode cX6_layRanks 18 = .ok (.ifCond .ne 10, 3) := by decide +kernel
theorem dX6_layRanks_21 : decode cX6_layRanks 21 = .ok (.aload_n 0, 1) := by decide +kernel
theorem dX6_layRanks_22 : decode cX6_layRanks 22 = .ok (.getfield 13, 3) := by decide +kernel
theorem dX6_layRanks_25 : decode cX6_layRanks 25 = .ok (.goto 7, 3) := by decide +kernel
theorem dX6_layRanks_28 : decode cX6_layRanks 28 = .ok (.aload_n 0, 1) := by decide +kernel
theorem dX6_layRanks_29 : decode cX6_layRanks 29 = .ok (.getfield 7, 3) := by decide +kernel
theorem dX6_layRanks_32 : decode cX6_layRanks 32 = .ok (.ishl, 1) := by decide +kernel
theorem dX6_layRanks_33 : decode cX6_layRanks 33 = .ok (.iconst 1, 1) := by decide +kernel
theorem dX6_layRanks_34 : decode cX6_layRanks 34 = .ok (.isub, 1) := by decide +kernel
theorem dX6_layRanks_35 : decode cX6_layRanks 35 = .ok (.istore_n 3, 1) := by decide +kernel
theorem dX6_layRanks_36 : decode cX6_layRanks 36 = .ok (.iconst 0, 1) := by decide +kernel
theorem dX6_layRanks_37 : decode cX6_layRanks 37 = .ok (.istore 4, 2) := by decide +kernel
theorem dX6_layRanks_39 : decode cX6_layRanks 39 = .ok (.iload 4, 2) := by decide +kernel
theorem dX6_layRanks_41 : decode cX6_layRanks 41 = .ok (.iconst 5, 1) := by decide +kernel
theorem dX6_layRanks_42 : decode cX6_layRanks 42 = .ok (.if_icmp .ge 25, 3) := by decide +kernel
theorem dX6_layRanks_45 : decode cX6_layRanks 45 = .ok (.aload_n 0, 1) := by decide +kernel
theorem dX6_layRanks_46 : decode cX6_layRanks 46 = .ok (.getfield 65, 3) := by decide +kernel
theorem dX6_layRanks_49 : decode cX6_layRanks 49 = .ok (.iload 4, 2) := by decide +kernel
theorem dX6_layRanks_51 : decode cX6_layRanks 51 = .ok (.iconst 0, 1) := by decide +kernel
theorem dX6_layRanks_52 : decode cX6_layRanks 52 = .ok (.iastore, 1) := by decide +kernel
theorem dX6_layRanks_53 : decode cX6_layRanks 53 = .ok (.aload_n 0, 1) := by decide +kernel
theorem dX6_layRanks_54 : decode cX6_layRanks 54 = .ok (.getfield 68, 3) := by decide +kernel
theorem dX6_layRanks_57 : decode cX6_layRanks 57 = .ok (.iload 4, 2) := by decide +kernel
theorem dX6_layRanks_59 : decode cX6_layRanks 59 = .ok (.iconst (-1), 1) := by decide +kernel
theorem dX6_layRanks_60 : decode cX6_layRanks 60 = .ok (.iastore, 1) := by decide +kernel
theorem dX6_layRanks_61 : decode cX6_layRanks 61 = .ok (.iinc 4 1, 3) := by decide +kernel
theorem dX6_layRanks_64 : decode cX6_layRanks 64 = .ok (.goto (-25), 3) := by decide +kernel
theorem dX6_layRanks_67 : decode cX6_layRanks 67 = .ok (.aload_n 0, 1) := by decide +kernel
theorem dX6_layRanks_68 : decode cX6_layRanks 68 = .ok (.iload_n 1, 1) := by decide +kernel
theorem dX6_layRanks_69 : decode cX6_layRanks 69 = .ok (.iload_n 2, 1) := by decide +kernel
theorem dX6_layRanks_70 : decode cX6_layRanks 70 = .ok (.iload_n 3, 1) := by decide +kernel
theorem dX6_layRanks_71 : decode cX6_layRanks 71 = .ok (.invokevirtual 232, 3) := by decide +kernel
theorem dX6_layRanks_74 : decode cX6_layRanks 74 = .ok (.istore 4, 2) := by decide +kernel
theorem dX6_layRanks_76 : decode cX6_layRanks 76 = .ok (.iload 4, 2) := by decide +kernel
theorem dX6_layRanks_78 : decode cX6_layRanks 78 = .ok (.ifCond .lt 91, 3) := by decide +kernel
theorem dX6_layRanks_81 : decode cX6_layRanks 81 = .ok (.aload_n 0, 1) := by decide +kernel
theorem dX6_layRanks_82 : decode cX6_layRanks 82 = .ok (.iload_n 1, 1) := by decide +kernel
theorem dX6_layRanks_83 : decode cX6_layRanks 83 = .ok (.iload 4, 2) := by decide +kernel
theorem dX6_layRanks_85 : decode cX6_layRanks 85 = .ok (.iadd, 1) := by decide +kernel
theorem dX6_layRanks_86 : decode cX6_layRanks 86 = .ok (.iload_n 3, 1) := by decide +kernel
theorem dX6_layRanks_87 : decode cX6_layRanks 87 = .ok (.aload_n 0, 1) := by decide +kernel
theorem dX6_layRanks_88 : decode cX6_layRanks 88 = .ok (.getfield 65, 3) := by decide +kernel
theorem dX6_layRanks_91 : decode cX6_layRanks 91 = .ok (.iload 4, 2) := by decide +kernel
theorem dX6_layRanks_93 : decode cX6_layRanks 93 = .ok (.iaload, 1) := by decide +kernel
theorem dX6_layRanks_94 : decode cX6_layRanks 94 = .ok (.iconst (-1), 1) := by decide +kernel
theorem dX6_layRanks_95 : decode cX6_layRanks 95 = .ok (.ixor, 1) := by decide +kernel
theorem dX6_layRanks_96 : decode cX6_layRanks 96 = .ok (.iand, 1) := by decide +kernel
theorem dX6_layRanks_97 : decode cX6_layRanks 97 = .ok (.invokevirtual 235, 3) := by decide +kernel
theorem dX6_layRanks_100 : decode cX6_layRanks 100 = .ok (.istore 5, 2) := by decide +kernel
theorem dX6_layRanks_102 : decode cX6_layRanks 102 = .ok (.aload_n 0, 1) := by decide +kernel
theorem dX6_layRanks_103 : decode cX6_layRanks 103 = .ok (.getfield 65, 3) := by decide +kernel
theorem dX6_layRanks_106 : decode cX6_layRanks 106 = .ok (.iload 4, 2) := by decide +kernel
theorem dX6_layRanks_108 : decode cX6_layRanks 108 = .ok (.dup2, 1) := by decide +kernel
theorem dX6_layRanks_109 : decode cX6_layRanks 109 = .ok (.iaload, 1) := by decide +kernel
theorem dX6_layRanks_110 : decode cX6_layRanks 110 = .ok (.iconst 1, 1) := by decide +kernel
theorem dX6_layRanks_111 : decode cX6_layRanks 111 = .ok (.iload 5, 2) := by decide +kernel
theorem dX6_layRanks_113 : decode cX6_layRanks 113 = .ok (.ishl, 1) := by decide +kernel
theorem dX6_layRanks_114 : decode cX6_layRanks 114 = .ok (.ior, 1) := by decide +kernel
theorem dX6_layRanks_115 : decode cX6_layRanks 115 = .ok (.iastore, 1) := by decide +kernel
theorem dX6_layRanks_116 : decode cX6_layRanks 116 = .ok (.aload_n 0, 1) := by decide +kernel
theorem dX6_layRanks_117 : decode cX6_layRanks 117 = .ok (.getfield 68, 3) := by decide +kernel
theorem dX6_layRanks_120 : decode cX6_layRanks 120 = .ok (.iload 5, 2) := by decide +kernel
theorem dX6_layRanks_122 : decode cX6_layRanks 122 = .ok (.iaload, 1) := by decide +kernel
theorem dX6_layRanks_123 : decode cX6_layRanks 123 = .ok (.ifCond .lt 25, 3) := by decide +kernel
theorem dX6_layRanks_126 : decode cX6_layRanks 126 = .ok (.aload_n 0, 1) := by decide +kernel
theorem dX6_layRanks_127 : decode cX6_layRanks 127 = .ok (.iconst 5, 1) := by decide +kernel
theorem dX6_layRanks_128 : decode cX6_layRanks 128 = .ok (.iload_n 1, 1) := by decide +kernel
theorem dX6_layRanks_129 : decode cX6_layRanks 129 = .ok (.isub, 1) := by decide +kernel
theorem dX6_layRanks_130 : decode cX6_layRanks 130 = .ok (.iload 5, 2) := by decide +kernel
theorem dX6_layRanks_132 : decode cX6_layRanks 132 = .ok (.iadd, 1) := by decide +kernel
theorem dX6_layRanks_133 : decode cX6_layRanks 133 = .ok (.iload 4, 2) := by decide +kernel
theorem dX6_layRanks_135 : decode cX6_layRanks 135 = .ok (.aload_n 0, 1) := by decide +kernel
theorem dX6_layRanks_136 : decode cX6_layRanks 136 = .ok (.getfield 68, 3) := by decide +kernel
theorem dX6_layRanks_139 : decode cX6_layRanks 139 = .ok (.iload 5, 2) := by decide +kernel
theorem dX6_layRanks_141 : decode cX6_layRanks 141 = .ok (.iaload, 1) := by decide +kernel
theorem dX6_layRanks_142 : decode cX6_layRanks 142 = .ok (.invokevirtual 238, 3) := by decide +kernel
theorem dX6_layRanks_145 : decode cX6_layRanks 145 = .ok (.ifCond .eq 12, 3) := by decide +kernel
theorem dX6_layRanks_148 : decode cX6_layRanks 148 = .ok (.aload_n 0, 1) := by decide +kernel
theorem dX6_layRanks_149 : decode cX6_layRanks 149 = .ok (.getfield 68, 3) := by decide +kernel
theorem dX6_layRanks_152 : decode cX6_layRanks 152 = .ok (.iload 5, 2) := by decide +kernel
theorem dX6_layRanks_154 : decode cX6_layRanks 154 = .ok (.iload 4, 2) := by decide +kernel
theorem dX6_layRanks_156 : decode cX6_layRanks 156 = .ok (.iastore, 1) := by decide +kernel
theorem dX6_layRanks_157 : decode cX6_layRanks 157 = .ok (.aload_n 0, 1) := by decide +kernel
theorem dX6_layRanks_158 : decode cX6_layRanks 158 = .ok (.iload_n 1, 1) := by decide +kernel
theorem dX6_layRanks_159 : decode cX6_layRanks 159 = .ok (.iload_n 2, 1) := by decide +kernel
theorem dX6_layRanks_160 : decode cX6_layRanks 160 = .ok (.iload_n 3, 1) := by decide +kernel
theorem dX6_layRanks_161 : decode cX6_layRanks 161 = .ok (.invokevirtual 232, 3) := by decide +kernel
theorem dX6_layRanks_164 : decode cX6_layRanks 164 = .ok (.istore 4, 2) := by decide +kernel
theorem dX6_layRanks_166 : decode cX6_layRanks 166 = .ok (.goto (-90), 3) := by decide +kernel
theorem dX6_layRanks_169 : decode cX6_layRanks 169 = .ok (.iconst 0, 1) := by decide +kernel
theorem dX6_layRanks_170 : decode cX6_layRanks 170 = .ok (.istore 5, 2) := by decide +kernel
theorem dX6_layRanks_172 : decode cX6_layRanks 172 = .ok (.iload 5, 2) := by decide +kernel
theorem dX6_layRanks_174 : decode cX6_layRanks 174 = .ok (.bipush 10, 2) := by decide +kernel
theorem dX6_layRanks_176 : decode cX6_layRanks 176 = .ok (.if_icmp .ge 18, 3) := by decide +kernel
theorem dX6_layRanks_179 : decode cX6_layRanks 179 = .ok (.aload_n 0, 1) := by decide +kernel
theorem dX6_layRanks_180 : decode cX6_layRanks 180 = .ok (.getfield 71, 3) := by decide +kernel
theorem dX6_layRanks_183 : decode cX6_layRanks 183 = .ok (.iload 5, 2) := by decide +kernel
theorem dX6_layRanks_185 : decode cX6_layRanks 185 = .ok (.bipush (-9), 2) := by decide +kernel
theorem dX6_layRanks_187 : decode cX6_layRanks 187 = .ok (.iastore, 1) := by decide +kernel
theorem dX6_layRanks_188 : decode cX6_layRanks 188 = .ok (.iinc 5 1, 3) := by decide +kernel
theorem dX6_layRanks_191 : decode cX6_layRanks 191 = .ok (.goto (-19), 3) := by decide +kernel
theorem dX6_layRanks_194 : decode cX6_layRanks 194 = .ok (.iconst 0, 1) := by decide +kernel
theorem dX6_layRanks_195 : decode cX6_layRanks 195 = .ok (.istore 5, 2) := by decide +kernel
theorem dX6_layRanks_197 : decode cX6_layRanks 197 = .ok (.iload 5, 2) := by decide +kernel
theorem dX6_layRanks_199 : decode cX6_layRanks 199 = .ok (.iconst 5, 1) := by decide +kernel
theorem dX6_layRanks_200 : decode cX6_layRanks 200 = .ok (.if_icmp .ge 62, 3) := by decide +kernel
theorem dX6_layRanks_203 : decode cX6_layRanks 203 = .ok (.aload_n 0, 1) := by decide +kernel
theorem dX6_layRanks_204 : decode cX6_layRanks 204 = .ok (.getfield 68, 3) := by decide +kernel
theorem dX6_layRanks_207 : decode cX6_layRanks 207 = .ok (.iload 5, 2) := by decide +kernel
theorem dX6_layRanks_209 : decode cX6_layRanks 209 = .ok (.iaload, 1) := by decide +kernel
theorem dX6_layRanks_210 : decode cX6_layRanks 210 = .ok (.ifCond .ge 6, 3) := by decide +kernel
theorem dX6_layRanks_213 : decode cX6_layRanks 213 = .ok (.goto 43, 3) := by decide +kernel
theorem dX6_layRanks_216 : decode cX6_layRanks 216 = .ok (.aload_n 0, 1) := by decide +kernel
theorem dX6_layRanks_217 : decode cX6_layRanks 217 = .ok (.getfield 71, 3) := by decide +kernel
theorem dX6_layRanks_220 : decode cX6_layRanks 220 = .ok (.iconst 5, 1) := by decide +kernel
theorem dX6_layRanks_221 : decode cX6_layRanks 221 = .ok (.iload_n 1, 1) := by decide +kernel
theorem dX6_layRanks_222 : decode cX6_layRanks 222 = .ok (.isub, 1) := by decide +kernel
theorem dX6_layRanks_223 : decode cX6_layRanks 223 = .ok (.iload 5, 2) := by decide +kernel
theorem dX6_layRanks_225 : decode cX6_layRanks 225 = .ok (.iadd, 1) := by decide +kernel
theorem dX6_layRanks_226 : decode cX6_layRanks 226 = .ok (.iload_n 1, 1) := by decide +kernel
theorem dX6_layRanks_227 : decode cX6_layRanks 227 = .ok (.aload_n 0, 1) := by decide +kernel
theorem dX6_layRanks_228 : decode cX6_layRanks 228 = .ok (.getfield 68, 3) := by decide +kernel
theorem dX6_layRanks_231 : decode cX6_layRanks 231 = .ok (.iload 5, 2) := by decide +kernel
theorem dX6_layRanks_233 : decode cX6_layRanks 233 = .ok (.iaload, 1) := by decide +kernel
theorem dX6_layRanks_234 : decode cX6_layRanks 234 = .ok (.iadd, 1) := by decide +kernel
theorem dX6_layRanks_235 : decode cX6_layRanks 235 = .ok (.iastore, 1) := by decide +kernel
theorem dX6_layRanks_236 : decode cX6_layRanks 236 = .ok (.aload_n 0, 1) := by decide +kernel
theorem dX6_layRanks_237 : decode cX6_layRanks 237 = .ok (.getfield 71, 3) := by decide +kernel
theorem dX6_layRanks_240 : decode cX6_layRanks 240 = .ok (.iload_n 1, 1) := by decide +kernel
theorem dX6_layRanks_241 : decode cX6_layRanks 241 = .ok (.aload_n 0, 1) := by decide +kernel
theorem dX6_layRanks_242 : decode cX6_layRanks 242 = .ok (.getfield 68, 3) := by decide +kernel
theorem dX6_layRanks_245 : decode cX6_layRanks 245 = .ok (.iload 5, 2) := by decide +kernel
theorem dX6_layRanks_247 : decode cX6_layRanks 247 = .ok (.iaload, 1) := by decide +kernel
theorem dX6_layRanks_248 : decode cX6_layRanks 248 = .ok (.iadd, 1) := by decide +kernel
theorem dX6_layRanks_249 : decode cX6_layRanks 249 = .ok (.iconst 5, 1) := by decide +kernel
theorem dX6_layRanks_250 : decode cX6_layRanks 250 = .ok (.iload_n 1, 1) := by decide +kernel
theorem dX6_layRanks_251 : decode cX6_layRanks 251 = .ok (.isub, 1) := by decide +kernel
theorem dX6_layRanks_252 : decode cX6_layRanks 252 = .ok (.iload 5, 2) := by decide +kernel
theorem dX6_layRanks_254 : decode cX6_layRanks 254 = .ok (.iadd, 1) := by decide +kernel
theorem dX6_layRanks_255 : decode cX6_layRanks 255 = .ok (.iastore, 1) := by decide +kernel
theorem dX6_layRanks_256 : decode cX6_layRanks 256 = .ok (.iinc 5 1, 3) := by decide +kernel
theorem dX6_layRanks_259 : decode cX6_layRanks 259 = .ok (.goto (-62), 3) := by decide +kernel
theorem dX6_layRanks_262 : decode cX6_layRanks 262 = .ok (.return_, 1) := by decide +kernel
theorem dX6_ranks_0 : decode cX6_ranks 0 = .ok (.aload_n 0, 1) := by decide +kernel
theorem dX6_ranks_1 : decode cX6_ranks 1 = .ok (.iload_n 1, 1) := by decide +kernel
theorem dX6_ranks_2 : decode cX6_ranks 2 = .ok (.invokevirtual 124, 3) := by decide +kernel
theorem dX6_ranks_5 : decode cX6_ranks 5 = .ok (.ifCond .ne 9, 3) := by decide +kernel
theorem dX6_ranks_8 : decode cX6_ranks 8 = .ok (.aload_n 0, 1) := by decide +kernel
theorem dX6_ranks_9 : decode cX6_ranks 9 = .ok (.iconst (-1), 1) := by decide +kernel
theorem dX6_ranks_10 : decode cX6_ranks 10 = .ok (.invokevirtual 128, 3) := by decide +kernel
theorem dX6_ranks_13 : decode cX6_ranks 13 = .ok (.ireturn, 1) := by decide +kernel
theorem dX6_ranks_14 : decode cX6_ranks 14 = .ok (.aload_n 0, 1) := by decide +kernel
theorem dX6_ranks_15 : decode cX6_ranks 15 = .ok (.iconst 0, 1) := by decide +kernel
theorem dX6_ranks_16 : decode cX6_ranks 16 = .ok (.invokevirtual 241, 3) := by decide +kernel
theorem dX6_ranks_19 : decode cX6_ranks 19 = .ok (.aload_n 0, 1) := by decide +kernel
theorem dX6_ranks_20 : decode cX6_ranks 20 = .ok (.getfield 71, 3) := by decide +kernel
theorem dX6_ranks_23 : decode cX6_ranks 23 = .ok (.iload_n 1, 1) := by decide +kernel
theorem dX6_ranks_24 : decode cX6_ranks 24 = .ok (.iaload, 1) := by decide +kernel
theorem dX6_ranks_25 : decode cX6_ranks 25 = .ok (.ireturn, 1) := by decide +kernel
theorem dX6_asked_0 : decode cX6_asked 0 = .ok (.aload_n 0, 1) := by decide +kernel
theorem dX6_asked_1 : decode cX6_asked 1 = .ok (.iload_n 1, 1) := by decide +kernel
theorem dX6_asked_2 : decode cX6_asked 2 = .ok (.invokevirtual 124, 3) := by decide +kernel
theorem dX6_asked_5 : decode cX6_asked 5 = .ok (.ifCond .ne 9, 3) := by decide +kernel
theorem dX6_asked_8 : decode cX6_asked 8 = .ok (.aload_n 0, 1) := by decide +kernel
theorem dX6_asked_9 : decode cX6_asked 9 = .ok (.iconst (-1), 1) := by decide +kernel
theorem dX6_asked_10 : decode cX6_asked 10 = .ok (.invokevirtual 128, 3) := by decide +kernel
theorem dX6_asked_13 : decode cX6_asked 13 = .ok (.ireturn, 1) := by decide +kernel
theorem dX6_asked_14 : decode cX6_asked 14 = .ok (.aload_n 0, 1) := by decide +kernel
theorem dX6_asked_15 : decode cX6_asked 15 = .ok (.iconst 5, 1) := by decide +kernel
theorem dX6_asked_16 : decode cX6_asked 16 = .ok (.invokevirtual 241, 3) := by decide +kernel
theorem dX6_asked_19 : decode cX6_asked 19 = .ok (.aload_n 0, 1) := by decide +kernel
theorem dX6_asked_20 : decode cX6_asked 20 = .ok (.getfield 71, 3) := by decide +kernel
theorem dX6_asked_23 : decode cX6_asked 23 = .ok (.iload_n 1, 1) := by decide +kernel
theorem dX6_asked_24 : decode cX6_asked 24 = .ok (.iaload, 1) := by decide +kernel
theorem dX6_asked_25 : decode cX6_asked 25 = .ok (.ireturn, 1) := by decide +kernel
theorem dX6_layCounts_0 : decode cX6_layCounts 0 = .ok (.iconst 0, 1) := by decide +kernel
theorem dX6_layCounts_1 : decode cX6_layCounts 1 = .ok (.istore_n 2, 1) := by decide +kernel
theorem dX6_layCounts_2 : decode cX6_layCounts 2 = .ok (.iload_n 2, 1) := by decide +kernel
theorem dX6_layCounts_3 : decode cX6_layCounts 3 = .ok (.bipush 10, 2) := by decide +kernel
theorem dX6_layCounts_5 : decode cX6_layCounts 5 = .ok (.if_icmp .ge 16, 3) := by decide +kernel
theorem dX6_layCounts_8 : decode cX6_layCounts 8 = .ok (.aload_n 0, 1) := by decide +kernel
theorem dX6_layCounts_9 : decode cX6_layCounts 9 = .ok (.getfield 74, 3) := by decide +kernel
theorem dX6_layCounts_12 : decode cX6_layCounts 12 = .ok (.iload_n 2, 1) := by decide +kernel
theorem dX6_layCounts_13 : decode cX6_layCounts 13 = .ok (.iconst 0, 1) := by decide +kernel
theorem dX6_layCounts_14 : decode cX6_layCounts 14 = .ok (.iastore, 1) := by decide +kernel
theorem dX6_layCounts_15 : decode cX6_layCounts 15 = .ok (.iinc 2 1, 3) := by decide +kernel
theorem dX6_layCounts_18 : decode cX6_layCounts 18 = .ok (.goto (-16), 3) := by decide +kernel
theorem dX6_layCounts_21 : decode cX6_layCounts 21 = .ok (.iconst 0, 1) := by decide +kernel
theorem dX6_layCounts_22 : decode cX6_layCounts 22 = .ok (.istore_n 2, 1) := by decide +kernel
theorem dX6_layCounts_23 : decode cX6_layCounts 23 = .ok (.iload_n 2, 1) := by decide +kernel
theorem dX6_layCounts_24 : decode cX6_layCounts 24 = .ok (.bipush 10, 2) := by decide +kernel
theorem dX6_layCounts_26 : decode cX6_layCounts 26 = .ok (.if_icmp .ge 97, 3) := by decide +kernel
theorem dX6_layCounts_29 : decode cX6_layCounts 29 = .ok (.aload_n 0, 1) := by decide +kernel
theorem dX6_layCounts_30 : decode cX6_layCounts 30 = .ok (.iload_n 2, 1) := by decide +kernel
theorem dX6_layCounts_31 : decode cX6_layCounts 31 = .ok (.invokevirtual 124, 3) := by decide +kernel
theorem dX6_layCounts_34 : decode cX6_layCounts 34 = .ok (.ifCond .ne 6, 3) := by decide +kernel
theorem dX6_layCounts_37 : decode cX6_layCounts 37 = .ok (.goto 80, 3) := by decide +kernel
theorem dX6_layCounts_40 : decode cX6_layCounts 40 = .ok (.aload_n 0, 1) := by decide +kernel
theorem dX6_layCounts_41 : decode cX6_layCounts 41 = .ok (.iload_n 2, 1) := by decide +kernel
theorem dX6_layCounts_42 : decode cX6_layCounts 42 = .ok (.invokevirtual 223, 3) := by decide +kernel
theorem dX6_layCounts_45 : decode cX6_layCounts 45 = .ok (.istore_n 3, 1) := by decide +kernel
theorem dX6_layCounts_46 : decode cX6_layCounts 46 = .ok (.iload_n 1, 1) := by decide +kernel
theorem dX6_layCounts_47 : decode cX6_layCounts 47 = .ok (.iconst 1, 1) := by decide +kernel
theorem dX6_layCounts_48 : decode cX6_layCounts 48 = .ok (.if_icmp .ne 7, 3) := by decide +kernel
theorem dX6_layCounts_51 : decode cX6_layCounts 51 = .ok (.iconst 3, 1) := by decide +kernel
theorem dX6_layCounts_52 : decode cX6_layCounts 52 = .ok (.goto 13, 3) := by decide +kernel
theorem dX6_layCounts_55 : decode cX6_layCounts 55 = .ok (.iload_n 1, 1) := by decide +kernel
theorem dX6_layCounts_56 : decode cX6_layCounts 56 = .ok (.iconst 2, 1) := by decide +kernel
theorem dX6_layCounts_57 : decode cX6_layCounts 57 = .ok (.if_icmp .ne 7, 3) := by decide +kernel
theorem dX6_layCounts_60 : decode cX6_layCounts 60 = .ok (.iconst 1, 1) := by decide +kernel
theorem dX6_layCounts_61 : decode cX6_layCounts 61 = .ok (.goto 4, 3) := by decide +kernel
theorem dX6_layCounts_64 : decode cX6_layCounts 64 = .ok (.iconst 5, 1) := by decide +kernel
theorem dX6_layCounts_65 : decode cX6_layCounts 65 = .ok (.istore 4, 2) := by decide +kernel
theorem dX6_layCounts_67 : decode cX6_layCounts 67 = .ok (.iconst 0, 1) := by decide +kernel
theorem dX6_layCounts_68 : decode cX6_layCounts 68 = .ok (.istore 5, 2) := by decide +kernel
theorem dX6_layCounts_70 : decode cX6_layCounts 70 = .ok (.iload 5, 2) := by decide +kernel
theorem dX6_layCounts_72 : decode cX6_layCounts 72 = .ok (.iload 4, 2) := by decide +kernel
theorem dX6_layCounts_74 : decode cX6_layCounts 74 = .ok (.if_icmp .ge 43, 3) := by decide +kernel
theorem dX6_layCounts_77 : decode cX6_layCounts 77 = .ok (.iload_n 3, 1) := by decide +kernel
theorem dX6_layCounts_78 : decode cX6_layCounts 78 = .ok (.ifCond .eq 39, 3) := by decide +kernel
theorem dX6_layCounts_81 : decode cX6_layCounts 81 = .ok (.aload_n 0, 1) := by decide +kernel
theorem dX6_layCounts_82 : decode cX6_layCounts 82 = .ok (.iload_n 2, 1) := by decide +kernel
theorem dX6_layCounts_83 : decode cX6_layCounts 83 = .ok (.iload_n 3, 1) := by decide +kernel
theorem dX6_layCounts_84 : decode cX6_layCounts 84 = .ok (.invokevirtual 235, 3) := by decide +kernel
theorem dX6_layCounts_87 : decode cX6_layCounts 87 = .ok (.istore 6, 2) := by decide +kernel
theorem dX6_layCounts_89 : decode cX6_layCounts 89 = .ok (.aload_n 0, 1) := by decide +kernel
theorem dX6_layCounts_90 : decode cX6_layCounts 90 = .ok (.getfield 74, 3) := by decide +kernel
theorem dX6_layCounts_93 : decode cX6_layCounts 93 = .ok (.iload_n 2, 1) := by decide +kernel
theorem dX6_layCounts_94 : decode cX6_layCounts 94 = .ok (.dup2, 1) := by decide +kernel
theorem dX6_layCounts_95 : decode cX6_layCounts 95 = .ok (.iaload, 1) := by decide +kernel
theorem dX6_layCounts_96 : decode cX6_layCounts 96 = .ok (.iconst 1, 1) := by decide +kernel
theorem dX6_layCounts_97 : decode cX6_layCounts 97 = .ok (.iload 6, 2) := by decide +kernel
theorem dX6_layCounts_99 : decode cX6_layCounts 99 = .ok (.ishl, 1) := by decide +kernel
theorem dX6_layCounts_100 : decode cX6_layCounts 100 = .ok (.ior, 1) := by decide +kernel
theorem dX6_layCounts_101 : decode cX6_layCounts 101 = .ok (.iastore, 1) := by decide +kernel
theorem dX6_layCounts_102 : decode cX6_layCounts 102 = .ok (.iload_n 3, 1) := by decide +kernel
theorem dX6_layCounts_103 : decode cX6_layCounts 103 = .ok (.iconst 1, 1) := by decide +kernel
theorem dX6_layCounts_104 : decode cX6_layCounts 104 = .ok (.iload 6, 2) := by decide +kernel
theorem dX6_layCounts_106 : decode cX6_layCounts 106 = .ok (.ishl, 1) := by decide +kernel
theorem dX6_layCounts_107 : decode cX6_layCounts 107 = .ok (.iconst (-1), 1) := by decide +kernel
theorem dX6_layCounts_108 : decode cX6_layCounts 108 = .ok (.ixor, 1) := by decide +kernel
theorem dX6_layCounts_109 : decode cX6_layCounts 109 = .ok (.iand, 1) := by decide +kernel
theorem dX6_layCounts_110 : decode cX6_layCounts 110 = .ok (.istore_n 3, 1) := by decide +kernel
theorem dX6_layCounts_111 : decode cX6_layCounts 111 = .ok (.iinc 5 1, 3) := by decide +kernel
theorem dX6_layCounts_114 : decode cX6_layCounts 114 = .ok (.goto (-44), 3) := by decide +kernel
theorem dX6_layCounts_117 : decode cX6_layCounts 117 = .ok (.iinc 2 1, 3) := by decide +kernel
theorem dX6_layCounts_120 : decode cX6_layCounts 120 = .ok (.goto (-97), 3) := by decide +kernel
theorem dX6_layCounts_123 : decode cX6_layCounts 123 = .ok (.iload_n 1, 1) := by decide +kernel
theorem dX6_layCounts_124 : decode cX6_layCounts 124 = .ok (.iconst 3, 1) := by decide +kernel
theorem dX6_layCounts_125 : decode cX6_layCounts 125 = .ok (.if_icmp .eq 4, 3) := by decide +kernel
theorem dX6_layCounts_128 : decode cX6_layCounts 128 = .ok (.return_, 1) := by decide +kernel
theorem dX6_layCounts_129 : decode cX6_layCounts 129 = .ok (.aload_n 0, 1) := by decide +kernel
theorem dX6_layCounts_130 : decode cX6_layCounts 130 = .ok (.iconst 0, 1) := by decide +kernel
theorem dX6_layCounts_131 : decode cX6_layCounts 131 = .ok (.invokevirtual 241, 3) := by decide +kernel
theorem dX6_layCounts_134 : decode cX6_layCounts 134 = .ok (.iconst 0, 1) := by decide +kernel
theorem dX6_layCounts_135 : decode cX6_layCounts 135 = .ok (.istore_n 2, 1) := by decide +kernel
theorem dX6_layCounts_136 : decode cX6_layCounts 136 = .ok (.iload_n 2, 1) := by decide +kernel
theorem dX6_layCounts_137 : decode cX6_layCounts 137 = .ok (.bipush 10, 2) := by decide +kernel
theorem dX6_layCounts_139 : decode cX6_layCounts 139 = .ok (.if_icmp .ge 41, 3) := by decide +kernel
theorem dX6_layCounts_142 : decode cX6_layCounts 142 = .ok (.aload_n 0, 1) := by decide +kernel
theorem dX6_layCounts_143 : decode cX6_layCounts 143 = .ok (.getfield 74, 3) := by decide +kernel
theorem dX6_layCounts_146 : decode cX6_layCounts 146 = .ok (.iload_n 2, 1) := by decide +kernel
theorem dX6_layCounts_147 : decode cX6_layCounts 147 = .ok (.dup2, 1) := by decide +kernel
theorem dX6_layCounts_148 : decode cX6_layCounts 148 = .ok (.iaload, 1) := by decide +kernel
theorem dX6_layCounts_149 : decode cX6_layCounts 149 = .ok (.aload_n 0, 1) := by decide +kernel
theorem dX6_layCounts_150 : decode cX6_layCounts 150 = .ok (.getfield 71, 3) := by decide +kernel
theorem dX6_layCounts_153 : decode cX6_layCounts 153 = .ok (.iload_n 2, 1) := by decide +kernel
theorem dX6_layCounts_154 : decode cX6_layCounts 154 = .ok (.iaload, 1) := by decide +kernel
theorem dX6_layCounts_155 : decode cX6_layCounts 155 = .ok (.ifCond .ge 7, 3) := by decide +kernel
theorem dX6_layCounts_158 : decode cX6_layCounts 158 = .ok (.iconst 0, 1) := by decide +kernel
theorem dX6_layCounts_159 : decode cX6_layCounts 159 = .ok (.goto 13, 3) := by decide +kernel
theorem dX6_layCounts_162 : decode cX6_layCounts 162 = .ok (.iconst 1, 1) := by decide +kernel
theorem dX6_layCounts_163 : decode cX6_layCounts 163 = .ok (.aload_n 0, 1) := by decide +kernel
theorem dX6_layCounts_164 : decode cX6_layCounts 164 = .ok (.getfield 71, 3) := by decide +kernel
theorem dX6_layCounts_167 : decode cX6_layCounts 167 = .ok (.iload_n 2, 1) := by decide +kernel
theorem dX6_layCounts_168 : decode cX6_layCounts 168 = .ok (.iaload, 1) := by decide +kernel
theorem dX6_layCounts_169 : decode cX6_layCounts 169 = .ok (.iconst 5, 1) := by decide +kernel
theorem dX6_layCounts_170 : decode cX6_layCounts 170 = .ok (.irem, 1) := by decide +kernel
theorem dX6_layCounts_171 : decode cX6_layCounts 171 = .ok (.ishl, 1) := by decide +kernel
theorem dX6_layCounts_172 : decode cX6_layCounts 172 = .ok (.iand, 1) := by decide +kernel
theorem dX6_layCounts_173 : decode cX6_layCounts 173 = .ok (.iastore, 1) := by decide +kernel
theorem dX6_layCounts_174 : decode cX6_layCounts 174 = .ok (.iinc 2 1, 3) := by decide +kernel
theorem dX6_layCounts_177 : decode cX6_layCounts 177 = .ok (.goto (-41), 3) := by decide +kernel
theorem dX6_layCounts_180 : decode cX6_layCounts 180 = .ok (.return_, 1) := by decide +kernel
theorem dX6_pairsOf_0 : decode cX6_pairsOf 0 = .ok (.iconst 0, 1) := by decide +kernel
theorem dX6_pairsOf_1 : decode cX6_pairsOf 1 = .ok (.istore_n 2, 1) := by decide +kernel
theorem dX6_pairsOf_2 : decode cX6_pairsOf 2 = .ok (.iconst 0, 1) := by decide +kernel
theorem dX6_pairsOf_3 : decode cX6_pairsOf 3 = .ok (.istore_n 3, 1) := by decide +kernel
theorem dX6_pairsOf_4 : decode cX6_pairsOf 4 = .ok (.iload_n 3, 1) := by decide +kernel
theorem dX6_pairsOf_5 : decode cX6_pairsOf 5 = .ok (.aload_n 0, 1) := by decide +kernel
theorem dX6_pairsOf_6 : decode cX6_pairsOf 6 = .ok (.iload_n 1, 1) := by decide +kernel
theorem dX6_pairsOf_7 : decode cX6_pairsOf 7 = .ok (.invokevirtual 206, 3) := by decide +kernel
theorem dX6_pairsOf_10 : decode cX6_pairsOf 10 = .ok (.if_icmp .ge 54, 3) := by decide +kernel
theorem dX6_pairsOf_13 : decode cX6_pairsOf 13 = .ok (.iload_n 2, 1) := by decide +kernel
theorem dX6_pairsOf_14 : decode cX6_pairsOf 14 = .ok (.aload_n 0, 1) := by decide +kernel
theorem dX6_pairsOf_15 : decode cX6_pairsOf 15 = .ok (.aload_n 0, 1) := by decide +kernel
theorem dX6_pairsOf_16 : decode cX6_pairsOf 16 = .ok (.getfield 74, 3) := by decide +kernel
theorem dX6_pairsOf_19 : decode cX6_pairsOf 19 = .ok (.iload_n 1, 1) := by decide +kernel
theorem dX6_pairsOf_20 : decode cX6_pairsOf 20 = .ok (.iaload, 1) := by decide +kernel
theorem dX6_pairsOf_21 : decode cX6_pairsOf 21 = .ok (.iload_n 3, 1) := by decide +kernel
theorem dX6_pairsOf_22 : decode cX6_pairsOf 22 = .ok (.invokevirtual 229, 3) := by decide +kernel
theorem dX6_pairsOf_25 : decode cX6_pairsOf 25 = .ok (.ifCond .eq 30, 3) := by decide +kernel
theorem dX6_pairsOf_28 : decode cX6_pairsOf 28 = .ok (.aload_n 0, 1) := by decide +kernel
theorem dX6_pairsOf_29 : decode cX6_pairsOf 29 = .ok (.aload_n 0, 1) := by decide +kernel
theorem dX6_pairsOf_30 : decode cX6_pairsOf 30 = .ok (.getfield 74, 3) := by decide +kernel
theorem dX6_pairsOf_33 : decode cX6_pairsOf 33 = .ok (.aload_n 0, 1) := by decide +kernel
theorem dX6_pairsOf_34 : decode cX6_pairsOf 34 = .ok (.iload_n 1, 1) := by decide +kernel
theorem dX6_pairsOf_35 : decode cX6_pairsOf 35 = .ok (.iload_n 3, 1) := by decide +kernel
theorem dX6_pairsOf_36 : decode cX6_pairsOf 36 = .ok (.invokevirtual 167, 3) := by decide +kernel
theorem dX6_pairsOf_39 : decode cX6_pairsOf 39 = .ok (.iaload, 1) := by decide +kernel
theorem dX6_pairsOf_40 : decode cX6_pairsOf 40 = .ok (.iload_n 1, 1) := by decide +kernel
theorem dX6_pairsOf_41 : decode cX6_pairsOf 41 = .ok (.iconst 5, 1) := by decide +kernel
theorem dX6_pairsOf_42 : decode cX6_pairsOf 42 = .ok (.irem, 1) := by decide +kernel
theorem dX6_pairsOf_43 : decode cX6_pairsOf 43 = .ok (.invokevirtual 229, 3) := by decide +kernel
theorem dX6_pairsOf_46 : decode cX6_pairsOf 46 = .ok (.ifCond .eq 9, 3) := by decide +kernel
theorem dX6_pairsOf_49 : decode cX6_pairsOf 49 = .ok (.iconst 1, 1) := by decide +kernel
theorem dX6_pairsOf_50 : decode cX6_pairsOf 50 = .ok (.iload_n 3, 1) := by decide +kernel
theorem dX6_pairsOf_51 : decode cX6_pairsOf 51 = .ok (.ishl, 1) := by decide +kernel
theorem dX6_pairsOf_52 : decode cX6_pairsOf 52 = .ok (.goto 4, 3) := by decide +kernel
theorem dX6_pairsOf_55 : decode cX6_pairsOf 55 = .ok (.iconst 0, 1) := by decide +kernel
theorem dX6_pairsOf_56 : decode cX6_pairsOf 56 = .ok (.ior, 1) := by decide +kernel
theorem dX6_pairsOf_57 : decode cX6_pairsOf 57 = .ok (.istore_n 2, 1) := by decide +kernel
theorem dX6_pairsOf_58 : decode cX6_pairsOf 58 = .ok (.iinc 3 1, 3) := by decide +kernel
theorem dX6_pairsOf_61 : decode cX6_pairsOf 61 = .ok (.goto (-57), 3) := by decide +kernel
theorem dX6_pairsOf_64 : decode cX6_pairsOf 64 = .ok (.iload_n 2, 1) := by decide +kernel
theorem dX6_pairsOf_65 : decode cX6_pairsOf 65 = .ok (.ireturn, 1) := by decide +kernel
theorem dX6_allPairs_0 : decode cX6_allPairs 0 = .ok (.iconst 0, 1) := by decide +kernel
theorem dX6_allPairs_1 : decode cX6_allPairs 1 = .ok (.istore_n 2, 1) := by decide +kernel
theorem dX6_allPairs_2 : decode cX6_allPairs 2 = .ok (.iconst 0, 1) := by decide +kernel
theorem dX6_allPairs_3 : decode cX6_allPairs 3 = .ok (.istore_n 3, 1) := by decide +kernel
theorem dX6_allPairs_4 : decode cX6_allPairs 4 = .ok (.iload_n 3, 1) := by decide +kernel
theorem dX6_allPairs_5 : decode cX6_allPairs 5 = .ok (.aload_n 0, 1) := by decide +kernel
theorem dX6_allPairs_6 : decode cX6_allPairs 6 = .ok (.getfield 7, 3) := by decide +kernel
theorem dX6_allPairs_9 : decode cX6_allPairs 9 = .ok (.if_icmp .ge 92, 3) := by decide +kernel
theorem dX6_allPairs_12 : decode cX6_allPairs 12 = .ok (.iconst 0, 1) := by decide +kernel
theorem dX6_allPairs_13 : decode cX6_allPairs 13 = .ok (.istore 4, 2) := by decide +kernel
theorem dX6_allPairs_15 : decode cX6_allPairs 15 = .ok (.iload 4, 2) := by decide +kernel
theorem dX6_allPairs_17 : decode cX6_allPairs 17 = .ok (.aload_n 0, 1) := by decide +kernel
theorem dX6_allPairs_18 : decode cX6_allPairs 18 = .ok (.getfield 13, 3) := by decide +kernel
theorem dX6_allPairs_21 : decode cX6_allPairs 21 = .ok (.if_icmp .ge 74, 3) := by decide +kernel
theorem dX6_allPairs_24 : decode cX6_allPairs 24 = .ok (.aload_n 0, 1) := by decide +kernel
theorem dX6_allPairs_25 : decode cX6_allPairs 25 = .ok (.aload_n 0, 1) := by decide +kernel
theorem dX6_allPairs_26 : decode cX6_allPairs 26 = .ok (.getfield 74, 3) := by decide +kernel
theorem dX6_allPairs_29 : decode cX6_allPairs 29 = .ok (.iload_n 3, 1) := by decide +kernel
theorem dX6_allPairs_30 : decode cX6_allPairs 30 = .ok (.iaload, 1) := by decide +kernel
theorem dX6_allPairs_31 : decode cX6_allPairs 31 = .ok (.iload 4, 2) := by decide +kernel
theorem dX6_allPairs_33 : decode cX6_allPairs 33 = .ok (.invokevirtual 229, 3) := by decide +kernel
theorem dX6_allPairs_36 : decode cX6_allPairs 36 = .ok (.ifCond .eq 53, 3) := by decide +kernel
theorem dX6_allPairs_39 : decode cX6_allPairs 39 = .ok (.aload_n 0, 1) := by decide +kernel
theorem dX6_allPairs_40 : decode cX6_allPairs 40 = .ok (.aload_n 0, 1) := by decide +kernel
theorem dX6_allPairs_41 : decode cX6_allPairs 41 = .ok (.getfield 74, 3) := by decide +kernel
theorem dX6_allPairs_44 : decode cX6_allPairs 44 = .ok (.iconst 5, 1) := by decide +kernel
theorem dX6_allPairs_45 : decode cX6_allPairs 45 = .ok (.iload 4, 2) := by decide +kernel
theorem dX6_allPairs_47 : decode cX6_allPairs 47 = .ok (.iadd, 1) := by decide +kernel
theorem dX6_allPairs_48 : decode cX6_allPairs 48 = .ok (.iaload, 1) := by decide +kernel
theorem dX6_allPairs_49 : decode cX6_allPairs 49 = .ok (.iload_n 3, 1) := by decide +kernel
theorem dX6_allPairs_50 : decode cX6_allPairs 50 = .ok (.invokevirtual 229, 3) := by decide +kernel
theorem dX6_allPairs_53 : decode cX6_allPairs 53 = .ok (.ifCond .ne 6, 3) := by decide +kernel
theorem dX6_allPairs_56 : decode cX6_allPairs 56 = .ok (.goto 33, 3) := by decide +kernel
theorem dX6_allPairs_59 : decode cX6_allPairs 59 = .ok (.iload_n 2, 1) := by decide +kernel
theorem dX6_allPairs_60 : decode cX6_allPairs 60 = .ok (.iload_n 1, 1) := by decide +kernel
theorem dX6_allPairs_61 : decode cX6_allPairs 61 = .ok (.ifCond .ne 7, 3) := by decide +kernel
theorem dX6_allPairs_64 : decode cX6_allPairs 64 = .ok (.iconst 1, 1) := by decide +kernel
theorem dX6_allPairs_65 : decode cX6_allPairs 65 = .ok (.goto 22, 3) := by decide +kernel
theorem dX6_allPairs_68 : decode cX6_allPairs 68 = .ok (.aload_n 0, 1) := by decide +kernel
theorem dX6_allPairs_69 : decode cX6_allPairs 69 = .ok (.iload_n 3, 1) := by decide +kernel
theorem dX6_allPairs_70 : decode cX6_allPairs 70 = .ok (.iconst 5, 1) := by decide +kernel
theorem dX6_allPairs_71 : decode cX6_allPairs 71 = .ok (.iload 4, 2) := by decide +kernel
theorem dX6_allPairs_73 : decode cX6_allPairs 73 = .ok (.iadd, 1) := by decide +kernel
theorem dX6_allPairs_74 : decode cX6_allPairs 74 = .ok (.invokevirtual 193, 3) := by decide +kernel
theorem dX6_allPairs_77 : decode cX6_allPairs 77 = .ok (.aload_n 0, 1) := by decide +kernel
theorem dX6_allPairs_78 : decode cX6_allPairs 78 = .ok (.iconst 5, 1) := by decide +kernel
theorem dX6_allPairs_79 : decode cX6_allPairs 79 = .ok (.iload 4, 2) := by decide +kernel
theorem dX6_allPairs_81 : decode cX6_allPairs 81 = .ok (.iadd, 1) := by decide +kernel
theorem dX6_allPairs_82 : decode cX6_allPairs 82 = .ok (.iload_n 3, 1) := by decide +kernel
theorem dX6_allPairs_83 : decode cX6_allPairs 83 = .ok (.invokevirtual 193, 3) := by decide +kernel
theorem dX6_allPairs_86 : decode cX6_allPairs 86 = .ok (.iadd, 1) := by decide +kernel
theorem dX6_allPairs_87 : decode cX6_allPairs 87 = .ok (.iadd, 1) := by decide +kernel
theorem dX6_allPairs_88 : decode cX6_allPairs 88 = .ok (.istore_n 2, 1) := by decide +kernel
theorem dX6_allPairs_89 : decode cX6_allPairs 89 = .ok (.iinc 4 1, 3) := by decide +kernel
theorem dX6_allPairs_92 : decode cX6_allPairs 92 = .ok (.goto (-77), 3) := by decide +kernel
theorem dX6_allPairs_95 : decode cX6_allPairs 95 = .ok (.iinc 3 1, 3) := by decide +kernel
theorem dX6_allPairs_98 : decode cX6_allPairs 98 = .ok (.goto (-94), 3) := by decide +kernel
theorem dX6_allPairs_101 : decode cX6_allPairs 101 = .ok (.iload_n 2, 1) := by decide +kernel
theorem dX6_allPairs_102 : decode cX6_allPairs 102 = .ok (.ireturn, 1) := by decide +kernel
theorem dX6_pairs_0 : decode cX6_pairs 0 = .ok (.iload_n 1, 1) := by decide +kernel
theorem dX6_pairs_1 : decode cX6_pairs 1 = .ok (.iconst (-1), 1) := by decide +kernel
theorem dX6_pairs_2 : decode cX6_pairs 2 = .ok (.if_icmp .eq 17, 3) := by decide +kernel
theorem dX6_pairs_5 : decode cX6_pairs 5 = .ok (.aload_n 0, 1) := by decide +kernel
theorem dX6_pairs_6 : decode cX6_pairs 6 = .ok (.iload_n 1, 1) := by decide +kernel
theorem dX6_pairs_7 : decode cX6_pairs 7 = .ok (.invokevirtual 124, 3) := by decide +kernel
theorem dX6_pairs_10 : decode cX6_pairs 10 = .ok (.ifCond .ne 9, 3) := by decide +kernel
theorem dX6_pairs_13 : decode cX6_pairs 13 = .ok (.aload_n 0, 1) := by decide +kernel
theorem dX6_pairs_14 : decode cX6_pairs 14 = .ok (.iconst (-1), 1) := by decide +kernel
theorem dX6_pairs_15 : decode cX6_pairs 15 = .ok (.invokevirtual 128, 3) := by decide +kernel
theorem dX6_pairs_18 : decode cX6_pairs 18 = .ok (.ireturn, 1) := by decide +kernel
theorem dX6_pairs_19 : decode cX6_pairs 19 = .ok (.aload_n 0, 1) := by decide +kernel
theorem dX6_pairs_20 : decode cX6_pairs 20 = .ok (.aload_n 0, 1) := by decide +kernel
theorem dX6_pairs_21 : decode cX6_pairs 21 = .ok (.getfield 22, 3) := by decide +kernel
theorem dX6_pairs_24 : decode cX6_pairs 24 = .ok (.invokevirtual 244, 3) := by decide +kernel
theorem dX6_pairs_27 : decode cX6_pairs 27 = .ok (.iload_n 1, 1) := by decide +kernel
theorem dX6_pairs_28 : decode cX6_pairs 28 = .ok (.ifCond .ge 11, 3) := by decide +kernel
theorem dX6_pairs_31 : decode cX6_pairs 31 = .ok (.aload_n 0, 1) := by decide +kernel
theorem dX6_pairs_32 : decode cX6_pairs 32 = .ok (.iconst 0, 1) := by decide +kernel
theorem dX6_pairs_33 : decode cX6_pairs 33 = .ok (.invokevirtual 247, 3) := by decide +kernel
theorem dX6_pairs_36 : decode cX6_pairs 36 = .ok (.goto 8, 3) := by decide +kernel
theorem dX6_pairs_39 : decode cX6_pairs 39 = .ok (.aload_n 0, 1) := by decide +kernel
theorem dX6_pairs_40 : decode cX6_pairs 40 = .ok (.iload_n 1, 1) := by decide +kernel
theorem dX6_pairs_41 : decode cX6_pairs 41 = .ok (.invokevirtual 250, 3) := by decide +kernel
theorem dX6_pairs_44 : decode cX6_pairs 44 = .ok (.ireturn, 1) := by decide +kernel
theorem dX6_glad_0 : decode cX6_glad 0 = .ok (.aload_n 0, 1) := by decide +kernel
theorem dX6_glad_1 : decode cX6_glad 1 = .ok (.iload_n 1, 1) := by decide +kernel
theorem dX6_glad_2 : decode cX6_glad 2 = .ok (.iconst 0, 1) := by decide +kernel
theorem dX6_glad_3 : decode cX6_glad 3 = .ok (.iconst 3, 1) := by decide +kernel
theorem dX6_glad_4 : decode cX6_glad 4 = .ok (.invokevirtual 117, 3) := by decide +kernel
theorem dX6_glad_7 : decode cX6_glad 7 = .ok (.ifCond .eq 13, 3) := by decide +kernel
theorem dX6_glad_10 : decode cX6_glad 10 = .ok (.aload_n 0, 1) := by decide +kernel
theorem dX6_glad_11 : decode cX6_glad 11 = .ok (.iload_n 2, 1) := by decide +kernel
theorem dX6_glad_12 : decode cX6_glad 12 = .ok (.iconst 0, 1) := by decide +kernel
theorem dX6_glad_13 : decode cX6_glad 13 = .ok (.iconst 1, 1) := by decide +kernel
theorem dX6_glad_14 : decode cX6_glad 14 = .ok (.invokevirtual 117, 3) := by decide +kernel
theorem dX6_glad_17 : decode cX6_glad 17 = .ok (.ifCond .ne 10, 3) := by decide +kernel
theorem dX6_glad_20 : decode cX6_glad 20 = .ok (.aload_n 0, 1) := by decide +kernel
theorem dX6_glad_21 : decode cX6_glad 21 = .ok (.bipush (-2), 2) := by decide +kernel
theorem dX6_glad_23 : decode cX6_glad 23 = .ok (.invokevirtual 128, 3) := by decide +kernel
theorem dX6_glad_26 : decode cX6_glad 26 = .ok (.ireturn, 1) := by decide +kernel
theorem dX6_glad_27 : decode cX6_glad 27 = .ok (.aload_n 0, 1) := by decide +kernel
theorem dX6_glad_28 : decode cX6_glad 28 = .ok (.iload_n 1, 1) := by decide +kernel
theorem dX6_glad_29 : decode cX6_glad 29 = .ok (.invokevirtual 244, 3) := by decide +kernel
theorem dX6_glad_32 : decode cX6_glad 32 = .ok (.aload_n 0, 1) := by decide +kernel
theorem dX6_glad_33 : decode cX6_glad 33 = .ok (.iload_n 2, 1) := by decide +kernel
theorem dX6_glad_34 : decode cX6_glad 34 = .ok (.invokevirtual 247, 3) := by decide +kernel
theorem dX6_glad_37 : decode cX6_glad 37 = .ok (.ireturn, 1) := by decide +kernel
theorem dX6_shadedNow_0 : decode cX6_shadedNow 0 = .ok (.iconst 0, 1) := by decide +kernel
theorem dX6_shadedNow_1 : decode cX6_shadedNow 1 = .ok (.istore_n 1, 1) := by decide +kernel
theorem dX6_shadedNow_2 : decode cX6_shadedNow 2 = .ok (.iconst 0, 1) := by decide +kernel
theorem dX6_shadedNow_3 : decode cX6_shadedNow 3 = .ok (.istore_n 2, 1) := by decide +kernel
theorem dX6_shadedNow_4 : decode cX6_shadedNow 4 = .ok (.iload_n 2, 1) := by decide +kernel
theorem dX6_shadedNow_5 : decode cX6_shadedNow 5 = .ok (.bipush 10, 2) := by decide +kernel
theorem dX6_shadedNow_7 : decode cX6_shadedNow 7 = .ok (.if_icmp .ge 72, 3) := by decide +kernel
theorem dX6_shadedNow_10 : decode cX6_shadedNow 10 = .ok (.iconst 0, 1) := by decide +kernel
theorem dX6_shadedNow_11 : decode cX6_shadedNow 11 = .ok (.istore_n 3, 1) := by decide +kernel
theorem dX6_shadedNow_12 : decode cX6_shadedNow 12 = .ok (.iload_n 3, 1) := by decide +kernel
theorem dX6_shadedNow_13 : decode cX6_shadedNow 13 = .ok (.aload_n 0, 1) := by decide +kernel
theorem dX6_shadedNow_14 : decode cX6_shadedNow 14 = .ok (.invokevirtual 187, 3) := by decide +kernel
theorem dX6_shadedNow_17 : decode cX6_shadedNow 17 = .ok (.if_icmp .ge 56, 3) := by decide +kernel
theorem dX6_shadedNow_20 : decode cX6_shadedNow 20 = .ok (.aload_n 0, 1) := by decide +kernel
theorem dX6_shadedNow_21 : decode cX6_shadedNow 21 = .ok (.iload_n 2, 1) := by decide +kernel
theorem dX6_shadedNow_22 : decode cX6_shadedNow 22 = .ok (.invokevirtual 124, 3) := by decide +kernel
theorem dX6_shadedNow_25 : decode cX6_shadedNow 25 = .ok (.ifCond .eq 48, 3) := by decide +kernel
theorem dX6_shadedNow_28 : decode cX6_shadedNow 28 = .ok (.aload_n 0, 1) := by decide +kernel
theorem dX6_shadedNow_29 : decode cX6_shadedNow 29 = .ok (.iload_n 2, 1) := by decide +kernel
theorem dX6_shadedNow_30 : decode cX6_shadedNow 30 = .ok (.iload_n 3, 1) := by decide +kernel
theorem dX6_shadedNow_31 : decode cX6_shadedNow 31 = .ok (.invokevirtual 190, 3) := by decide +kernel
theorem dX6_shadedNow_34 : decode cX6_shadedNow 34 = .ok (.istore 4, 2) := by decide +kernel
theorem dX6_shadedNow_36 : decode cX6_shadedNow 36 = .ok (.iload_n 1, 1) := by decide +kernel
theorem dX6_shadedNow_37 : decode cX6_shadedNow 37 = .ok (.iload 4, 2) := by decide +kernel
theorem dX6_shadedNow_39 : decode cX6_shadedNow 39 = .ok (.ifCond .lt 25, 3) := by decide +kernel
theorem dX6_shadedNow_42 : decode cX6_shadedNow 42 = .ok (.aload_n 0, 1) := by decide +kernel
theorem dX6_shadedNow_43 : decode cX6_shadedNow 43 = .ok (.iload_n 2, 1) := by decide +kernel
theorem dX6_shadedNow_44 : decode cX6_shadedNow 44 = .ok (.iload 4, 2) := by decide +kernel
theorem dX6_shadedNow_46 : decode cX6_shadedNow 46 = .ok (.iload_n 3, 1) := by decide +kernel
theorem dX6_shadedNow_47 : decode cX6_shadedNow 47 = .ok (.invokevirtual 203, 3) := by decide +kernel
theorem dX6_shadedNow_50 : decode cX6_shadedNow 50 = .ok (.aload_n 0, 1) := by decide +kernel
theorem dX6_shadedNow_51 : decode cX6_shadedNow 51 = .ok (.iload_n 2, 1) := by decide +kernel
theorem dX6_shadedNow_52 : decode cX6_shadedNow 52 = .ok (.iload 4, 2) := by decide +kernel
theorem dX6_shadedNow_54 : decode cX6_shadedNow 54 = .ok (.invokevirtual 193, 3) := by decide +kernel
theorem dX6_shadedNow_57 : decode cX6_shadedNow 57 = .ok (.if_icmp .eq 7, 3) := by decide +kernel
theorem dX6_shadedNow_60 : decode cX6_shadedNow 60 = .ok (.iconst 1, 1) := by decide +kernel
theorem dX6_shadedNow_61 : decode cX6_shadedNow 61 = .ok (.goto 4, 3) := by decide +kernel
theorem dX6_shadedNow_64 : decode cX6_shadedNow 64 = .ok (.iconst 0, 1) := by decide +kernel
theorem dX6_shadedNow_65 : decode cX6_shadedNow 65 = .ok (.iadd, 1) := by decide +kernel
theorem dX6_shadedNow_66 : decode cX6_shadedNow 66 = .ok (.istore_n 1, 1) := by decide +kernel
theorem dX6_shadedNow_67 : decode cX6_shadedNow 67 = .ok (.iinc 3 1, 3) := by decide +kernel
theorem dX6_shadedNow_70 : decode cX6_shadedNow 70 = .ok (.goto (-58), 3) := by decide +kernel
theorem dX6_shadedNow_73 : decode cX6_shadedNow 73 = .ok (.iinc 2 1, 3) := by decide +kernel
theorem dX6_shadedNow_76 : decode cX6_shadedNow 76 = .ok (.goto (-72), 3) := by decide +kernel
theorem dX6_shadedNow_79 : decode cX6_shadedNow 79 = .ok (.iload_n 1, 1) := by decide +kernel
theorem dX6_shadedNow_80 : decode cX6_shadedNow 80 = .ok (.ireturn, 1) := by decide +kernel
theorem dX6_shaded_0 : decode cX6_shaded 0 = .ok (.aload_n 0, 1) := by decide +kernel
theorem dX6_shaded_1 : decode cX6_shaded 1 = .ok (.invokevirtual 253, 3) := by decide +kernel
theorem dX6_shaded_4 : decode cX6_shaded 4 = .ok (.ireturn, 1) := by decide +kernel
theorem dX6_meetAll_0 : decode cX6_meetAll 0 = .ok (.iconst 0, 1) := by decide +kernel
theorem dX6_meetAll_1 : decode cX6_meetAll 1 = .ok (.istore_n 1, 1) := by decide +kernel
theorem dX6_meetAll_2 : decode cX6_meetAll 2 = .ok (.iload_n 1, 1) := by decide +kernel
theorem dX6_meetAll_3 : decode cX6_meetAll 3 = .ok (.aload_n 0, 1) := by decide +kernel
theorem dX6_meetAll_4 : decode cX6_meetAll 4 = .ok (.getfield 7, 3) := by decide +kernel
theorem dX6_meetAll_7 : decode cX6_meetAll 7 = .ok (.if_icmp .ge 67, 3) := by decide +kernel
theorem dX6_meetAll_10 : decode cX6_meetAll 10 = .ok (.iconst 0, 1) := by decide +kernel
theorem dX6_meetAll_11 : decode cX6_meetAll 11 = .ok (.istore_n 2, 1) := by decide +kernel
theorem dX6_meetAll_12 : decode cX6_meetAll 12 = .ok (.iconst 0, 1) := by decide +kernel
theorem dX6_meetAll_13 : decode cX6_meetAll 13 = .ok (.istore_n 3, 1) := by decide +kernel
theorem dX6_meetAll_14 : decode cX6_meetAll 14 = .ok (.iload_n 3, 1) := by decide +kernel
theorem dX6_meetAll_15 : decode cX6_meetAll 15 = .ok (.aload_n 0, 1) := by decide +kernel
theorem dX6_meetAll_16 : decode cX6_meetAll 16 = .ok (.invokevirtual 187, 3) := by decide +kernel
theorem dX6_meetAll_19 : decode cX6_meetAll 19 = .ok (.if_icmp .ge 35, 3) := by decide +kernel
theorem dX6_meetAll_22 : decode cX6_meetAll 22 = .ok (.iload_n 2, 1) := by decide +kernel
theorem dX6_meetAll_23 : decode cX6_meetAll 23 = .ok (.aload_n 0, 1) := by decide +kernel
theorem dX6_meetAll_24 : decode cX6_meetAll 24 = .ok (.iload_n 1, 1) := by decide +kernel
theorem dX6_meetAll_25 : decode cX6_meetAll 25 = .ok (.iload_n 3, 1) := by decide +kernel
theorem dX6_meetAll_26 : decode cX6_meetAll 26 = .ok (.invokevirtual 190, 3) := by decide +kernel
theorem dX6_meetAll_29 : decode cX6_meetAll 29 = .ok (.ifCond .ge 7, 3) := by decide +kernel
theorem dX6_meetAll_32 : decode cX6_meetAll 32 = .ok (.iconst 0, 1) := by decide +kernel
theorem dX6_meetAll_33 : decode cX6_meetAll 33 = .ok (.goto 13, 3) := by decide +kernel
theorem dX6_meetAll_36 : decode cX6_meetAll 36 = .ok (.iconst 1, 1) := by decide +kernel
theorem dX6_meetAll_37 : decode cX6_meetAll 37 = .ok (.aload_n 0, 1) := by decide +kernel
theorem dX6_meetAll_38 : decode cX6_meetAll 38 = .ok (.iload_n 1, 1) := by decide +kernel
theorem dX6_meetAll_39 : decode cX6_meetAll 39 = .ok (.iload_n 3, 1) := by decide +kernel
theorem dX6_meetAll_40 : decode cX6_meetAll 40 = .ok (.invokevirtual 190, 3) := by decide +kernel
theorem dX6_meetAll_43 : decode cX6_meetAll 43 = .ok (.iconst 5, 1) := by decide +kernel
theorem dX6_meetAll_44 : decode cX6_meetAll 44 = .ok (.isub, 1) := by decide +kernel
theorem dX6_meetAll_45 : decode cX6_meetAll 45 = .ok (.ishl, 1) := by decide +kernel
theorem dX6_meetAll_46 : decode cX6_meetAll 46 = .ok (.ior, 1) := by decide +kernel
theorem dX6_meetAll_47 : decode cX6_meetAll 47 = .ok (.istore_n 2, 1) := by decide +kernel
theorem dX6_meetAll_48 : decode cX6_meetAll 48 = .ok (.iinc 3 1, 3) := by decide +kernel
theorem dX6_meetAll_51 : decode cX6_meetAll 51 = .ok (.goto (-37), 3) := by decide +kernel
theorem dX6_meetAll_54 : decode cX6_meetAll 54 = .ok (.iload_n 2, 1) := by decide +kernel
theorem dX6_meetAll_55 : decode cX6_meetAll 55 = .ok (.iconst 1, 1) := by decide +kernel
theorem dX6_meetAll_56 : decode cX6_meetAll 56 = .ok (.aload_n 0, 1) := by decide +kernel
theorem dX6_meetAll_57 : decode cX6_meetAll 57 = .ok (.getfield 13, 3) := by decide +kernel
theorem dX6_meetAll_60 : decode cX6_meetAll 60 = .ok (.ishl, 1) := by decide +kernel
theorem dX6_meetAll_61 : decode cX6_meetAll 61 = .ok (.iconst 1, 1) := by decide +kernel
theorem dX6_meetAll_62 : decode cX6_meetAll 62 = .ok (.isub, 1) := by decide +kernel
theorem dX6_meetAll_63 : decode cX6_meetAll 63 = .ok (.if_icmp .eq 5, 3) := by decide +kernel
theorem dX6_meetAll_66 : decode cX6_meetAll 66 = .ok (.iconst 0, 1) := by decide +kernel
theorem dX6_meetAll_67 : decode cX6_meetAll 67 = .ok (.ireturn, 1) := by decide +kernel
theorem dX6_meetAll_68 : decode cX6_meetAll 68 = .ok (.iinc 1 1, 3) := by decide +kernel
theorem dX6_meetAll_71 : decode cX6_meetAll 71 = .ok (.goto (-69), 3) := by decide +kernel
theorem dX6_meetAll_74 : decode cX6_meetAll 74 = .ok (.iconst 1, 1) := by decide +kernel
theorem dX6_meetAll_75 : decode cX6_meetAll 75 = .ok (.ireturn, 1) := by decide +kernel
theorem dX6_bestOrder_0 : decode cX6_bestOrder 0 = .ok (.aload_n 0, 1) := by decide +kernel
theorem dX6_bestOrder_1 : decode cX6_bestOrder 1 = .ok (.getfield 16, 3) := by decide +kernel
theorem dX6_bestOrder_4 : decode cX6_bestOrder 4 = .ok (.istore_n 1, 1) := by decide +kernel
theorem dX6_bestOrder_5 : decode cX6_bestOrder 5 = .ok (.aload_n 0, 1) := by decide +kernel
theorem dX6_bestOrder_6 : decode cX6_bestOrder 6 = .ok (.getfield 19, 3) := by decide +kernel
theorem dX6_bestOrder_9 : decode cX6_bestOrder 9 = .ok (.istore_n 2, 1) := by decide +kernel
theorem dX6_bestOrder_10 : decode cX6_bestOrder 10 = .ok (.bipush (-9), 2) := by decide +kernel
theorem dX6_bestOrder_12 : decode cX6_bestOrder 12 = .ok (.istore_n 3, 1) := by decide +kernel
theorem dX6_bestOrder_13 : decode cX6_bestOrder 13 = .ok (.iconst 0, 1) := by decide +kernel
theorem dX6_bestOrder_14 : decode cX6_bestOrder 14 = .ok (.istore 4, 2) := by decide +kernel
theorem dX6_bestOrder_16 : decode cX6_bestOrder 16 = .ok (.iconst 1, 1) := by decide +kernel
theorem dX6_bestOrder_17 : decode cX6_bestOrder 17 = .ok (.istore 5, 2) := by decide +kernel
theorem dX6_bestOrder_19 : decode cX6_bestOrder 19 = .ok (.iload 5, 2) := by decide +kernel
theorem dX6_bestOrder_21 : decode cX6_bestOrder 21 = .ok (.iconst 5, 1) := by decide +kernel
theorem dX6_bestOrder_22 : decode cX6_bestOrder 22 = .ok (.if_icmp .ge 79, 3) := by decide +kernel
theorem dX6_bestOrder_25 : decode cX6_bestOrder 25 = .ok (.iconst 0, 1) := by decide +kernel
theorem dX6_bestOrder_26 : decode cX6_bestOrder 26 = .ok (.istore 6, 2) := by decide +kernel
theorem dX6_bestOrder_28 : decode cX6_bestOrder 28 = .ok (.iload 6, 2) := by decide +kernel
theorem dX6_bestOrder_30 : decode cX6_bestOrder 30 = .ok (.iconst 5, 1) := by decide +kernel
theorem dX6_bestOrder_31 : decode cX6_bestOrder 31 = .ok (.if_icmp .ge 64, 3) := by decide +kernel
theorem dX6_bestOrder_34 : decode cX6_bestOrder 34 = .ok (.aload_n 0, 1) := by decide +kernel
theorem dX6_bestOrder_35 : decode cX6_bestOrder 35 = .ok (.iload 5, 2) := by decide +kernel
theorem dX6_bestOrder_37 : decode cX6_bestOrder 37 = .ok (.putfield 16, 3) := by decide +kernel
theorem dX6_bestOrder_40 : decode cX6_bestOrder 40 = .ok (.aload_n 0, 1) := by decide +kernel
theorem dX6_bestOrder_41 : decode cX6_bestOrder 41 = .ok (.iload 6, 2) := by decide +kernel
theorem dX6_bestOrder_43 : decode cX6_bestOrder 43 = .ok (.putfield 19, 3) := by decide +kernel
theorem dX6_bestOrder_46 : decode cX6_bestOrder 46 = .ok (.aload_n 0, 1) := by decide +kernel
theorem dX6_bestOrder_47 : decode cX6_bestOrder 47 = .ok (.invokevirtual 256, 3) := by decide +kernel
theorem dX6_bestOrder_50 : decode cX6_bestOrder 50 = .ok (.ifCond .ne 6, 3) := by decide +kernel
theorem dX6_bestOrder_53 : decode cX6_bestOrder 53 = .ok (.goto 36, 3) := by decide +kernel
theorem dX6_bestOrder_56 : decode cX6_bestOrder 56 = .ok (.aload_n 0, 1) := by decide +kernel
theorem dX6_bestOrder_57 : decode cX6_bestOrder 57 = .ok (.invokevirtual 253, 3) := by decide +kernel
theorem dX6_bestOrder_60 : decode cX6_bestOrder 60 = .ok (.istore 7, 2) := by decide +kernel
theorem dX6_bestOrder_62 : decode cX6_bestOrder 62 = .ok (.iload_n 3, 1) := by decide +kernel
theorem dX6_bestOrder_63 : decode cX6_bestOrder 63 = .ok (.ifCond .lt 13, 3) := by decide +kernel
theorem dX6_bestOrder_66 : decode cX6_bestOrder 66 = .ok (.iload 7, 2) := by decide +kernel
theorem dX6_bestOrder_68 : decode cX6_bestOrder 68 = .ok (.iload 4, 2) := by decide +kernel
theorem dX6_bestOrder_70 : decode cX6_bestOrder 70 = .ok (.if_icmp .lt 6, 3) := by decide +kernel
theorem dX6_bestOrder_73 : decode cX6_bestOrder 73 = .ok (.goto 16, 3) := by decide +kernel
theorem dX6_bestOrder_76 : decode cX6_bestOrder 76 = .ok (.bipush 10, 2) := by decide +kernel
theorem dX6_bestOrder_78 : decode cX6_bestOrder 78 = .ok (.iload 5, 2) := by decide +kernel
theorem dX6_bestOrder_80 : decode cX6_bestOrder 80 = .ok (.imul, 1) := by decide +kernel
theorem dX6_bestOrder_81 : decode cX6_bestOrder 81 = .ok (.iload 6, 2) := by decide +kernel
theorem dX6_bestOrder_83 : decode cX6_bestOrder 83 = .ok (.iadd, 1) := by decide +kernel
theorem dX6_bestOrder_84 : decode cX6_bestOrder 84 = .ok (.istore_n 3, 1) := by decide +kernel
theorem dX6_bestOrder_85 : decode cX6_bestOrder 85 = .ok (.iload 7, 2) := by decide +kernel
theorem dX6_bestOrder_87 : decode cX6_bestOrder 87 = .ok (.istore 4, 2) := by decide +kernel
theorem dX6_bestOrder_89 : decode cX6_bestOrder 89 = .ok (.iinc 6 1, 3) := by decide +kernel
theorem dX6_bestOrder_92 : decode cX6_bestOrder 92 = .ok (.goto (-64), 3) := by decide +kernel
theorem dX6_bestOrder_95 : decode cX6_bestOrder 95 = .ok (.iinc 5 1, 3) := by decide +kernel
theorem dX6_bestOrder_98 : decode cX6_bestOrder 98 = .ok (.goto (-79), 3) := by decide +kernel
theorem dX6_bestOrder_101 : decode cX6_bestOrder 101 = .ok (.aload_n 0, 1) := by decide +kernel
theorem dX6_bestOrder_102 : decode cX6_bestOrder 102 = .ok (.iload_n 1, 1) := by decide +kernel
theorem dX6_bestOrder_103 : decode cX6_bestOrder 103 = .ok (.putfield 16, 3) := by decide +kernel
theorem dX6_bestOrder_106 : decode cX6_bestOrder 106 = .ok (.aload_n 0, 1) := by decide +kernel
theorem dX6_bestOrder_107 : decode cX6_bestOrder 107 = .ok (.iload_n 2, 1) := by decide +kernel
theorem dX6_bestOrder_108 : decode cX6_bestOrder 108 = .ok (.putfield 19, 3) := by decide +kernel
theorem dX6_bestOrder_111 : decode cX6_bestOrder 111 = .ok (.iload_n 3, 1) := by decide +kernel
theorem dX6_bestOrder_112 : decode cX6_bestOrder 112 = .ok (.ireturn, 1) := by decide +kernel
theorem dX6_wouldRather_0 : decode cX6_wouldRather 0 = .ok (.aload_n 0, 1) := by decide +kernel
theorem dX6_wouldRather_1 : decode cX6_wouldRather 1 = .ok (.getfield 77, 3) := by decide +kernel
theorem dX6_wouldRather_4 : decode cX6_wouldRather 4 = .ok (.iload_n 1, 1) := by decide +kernel
theorem dX6_wouldRather_5 : decode cX6_wouldRather 5 = .ok (.iaload, 1) := by decide +kernel
theorem dX6_wouldRather_6 : decode cX6_wouldRather 6 = .ok (.ifCond .lt 31, 3) := by decide +kernel
theorem dX6_wouldRather_9 : decode cX6_wouldRather 9 = .ok (.aload_n 0, 1) := by decide +kernel
theorem dX6_wouldRather_10 : decode cX6_wouldRather 10 = .ok (.getfield 38, 3) := by decide +kernel
theorem dX6_wouldRather_13 : decode cX6_wouldRather 13 = .ok (.iconst 5, 1) := by decide +kernel
theorem dX6_wouldRather_14 : decode cX6_wouldRather 14 = .ok (.iload_n 1, 1) := by decide +kernel
theorem dX6_wouldRather_15 : decode cX6_wouldRather 15 = .ok (.imul, 1) := by decide +kernel
theorem dX6_wouldRather_16 : decode cX6_wouldRather 16 = .ok (.iload_n 2, 1) := by decide +kernel
theorem dX6_wouldRather_17 : decode cX6_wouldRather 17 = .ok (.iadd, 1) := by decide +kernel
theorem dX6_wouldRather_18 : decode cX6_wouldRather 18 = .ok (.iaload, 1) := by decide +kernel
theorem dX6_wouldRather_19 : decode cX6_wouldRather 19 = .ok (.aload_n 0, 1) := by decide +kernel
theorem dX6_wouldRather_20 : decode cX6_wouldRather 20 = .ok (.getfield 38, 3) := by decide +kernel
theorem dX6_wouldRather_23 : decode cX6_wouldRather 23 = .ok (.iconst 5, 1) := by decide +kernel
theorem dX6_wouldRather_24 : decode cX6_wouldRather 24 = .ok (.iload_n 1, 1) := by decide +kernel
theorem dX6_wouldRather_25 : decode cX6_wouldRather 25 = .ok (.imul, 1) := by decide +kernel
theorem dX6_wouldRather_26 : decode cX6_wouldRather 26 = .ok (.aload_n 0, 1) := by decide +kernel
theorem dX6_wouldRather_27 : decode cX6_wouldRather 27 = .ok (.getfield 77, 3) := by decide +kernel
theorem dX6_wouldRather_30 : decode cX6_wouldRather 30 = .ok (.iload_n 1, 1) := by decide +kernel
theorem dX6_wouldRather_31 : decode cX6_wouldRather 31 = .ok (.iaload, 1) := by decide +kernel
theorem dX6_wouldRather_32 : decode cX6_wouldRather 32 = .ok (.iadd, 1) := by decide +kernel
theorem dX6_wouldRather_33 : decode cX6_wouldRather 33 = .ok (.iaload, 1) := by decide +kernel
theorem dX6_wouldRather_34 : decode cX6_wouldRather 34 = .ok (.if_icmp .le 7, 3) := by decide +kernel
theorem dX6_wouldRather_37 : decode cX6_wouldRather 37 = .ok (.iconst 1, 1) := by decide +kernel
theorem dX6_wouldRather_38 : decode cX6_wouldRather 38 = .ok (.goto 4, 3) := by decide +kernel
theorem dX6_wouldRather_41 : decode cX6_wouldRather 41 = .ok (.iconst 0, 1) := by decide +kernel
theorem dX6_wouldRather_42 : decode cX6_wouldRather 42 = .ok (.istore_n 3, 1) := by decide +kernel
theorem dX6_wouldRather_43 : decode cX6_wouldRather 43 = .ok (.iload_n 3, 1) := by decide +kernel
theorem dX6_wouldRather_44 : decode cX6_wouldRather 44 = .ok (.ifCond .eq 50, 3) := by decide +kernel
theorem dX6_wouldRather_47 : decode cX6_wouldRather 47 = .ok (.aload_n 0, 1) := by decide +kernel
theorem dX6_wouldRather_48 : decode cX6_wouldRather 48 = .ok (.getfield 80, 3) := by decide +kernel
theorem dX6_wouldRather_51 : decode cX6_wouldRather 51 = .ok (.iload_n 2, 1) := by decide +kernel
theorem dX6_wouldRather_52 : decode cX6_wouldRather 52 = .ok (.iaload, 1) := by decide +kernel
theorem dX6_wouldRather_53 : decode cX6_wouldRather 53 = .ok (.ifCond .lt 37, 3) := by decide +kernel
theorem dX6_wouldRather_56 : decode cX6_wouldRather 56 = .ok (.aload_n 0, 1) := by decide +kernel
theorem dX6_wouldRather_57 : decode cX6_wouldRather 57 = .ok (.getfield 38, 3) := by decide +kernel
theorem dX6_wouldRather_60 : decode cX6_wouldRather 60 = .ok (.bipush 25, 2) := by decide +kernel
theorem dX6_wouldRather_62 : decode cX6_wouldRather 62 = .ok (.iconst 5, 1) := by decide +kernel
theorem dX6_wouldRather_63 : decode cX6_wouldRather 63 = .ok (.iload_n 2, 1) := by decide +kernel
theorem dX6_wouldRather_64 : decode cX6_wouldRather 64 = .ok (.imul, 1) := by decide +kernel
theorem dX6_wouldRather_65 : decode cX6_wouldRather 65 = .ok (.iadd, 1) := by decide +kernel
theorem dX6_wouldRather_66 : decode cX6_wouldRather 66 = .ok (.iload_n 1, 1) := by decide +kernel
theorem dX6_wouldRather_67 : decode cX6_wouldRather 67 = .ok (.iadd, 1) := by decide +kernel
theorem dX6_wouldRather_68 : decode cX6_wouldRather 68 = .ok (.iaload, 1) := by decide +kernel
theorem dX6_wouldRather_69 : decode cX6_wouldRather 69 = .ok (.aload_n 0, 1) := by decide +kernel
theorem dX6_wouldRather_70 : decode cX6_wouldRather 70 = .ok (.getfield 38, 3) := by decide +kernel
theorem dX6_wouldRather_73 : decode cX6_wouldRather 73 = .ok (.bipush 25, 2) := by decide +kernel
theorem dX6_wouldRather_75 : decode cX6_wouldRather 75 = .ok (.iconst 5, 1) := by decide +kernel
theorem dX6_wouldRather_76 : decode cX6_wouldRather 76 = .ok (.iload_n 2, 1) := by decide +kernel
theorem dX6_wouldRather_77 : decode cX6_wouldRather 77 = .ok (.imul, 1) := by decide +kernel
theorem dX6_wouldRather_78 : decode cX6_wouldRather 78 = .ok (.iadd, 1) := by decide +kernel
theorem dX6_wouldRather_79 : decode cX6_wouldRather 79 = .ok (.aload_n 0, 1) := by decide +kernel
theorem dX6_wouldRather_80 : decode cX6_wouldRather 80 = .ok (.getfield 80, 3) := by decide +kernel
theorem dX6_wouldRather_83 : decode cX6_wouldRather 83 = .ok (.iload_n 2, 1) := by decide +kernel
theorem dX6_wouldRather_84 : decode cX6_wouldRather 84 = .ok (.iaload, 1) := by decide +kernel
theorem dX6_wouldRather_85 : decode cX6_wouldRather 85 = .ok (.iadd, 1) := by decide +kernel
theorem dX6_wouldRather_86 : decode cX6_wouldRather 86 = .ok (.iaload, 1) := by decide +kernel
theorem dX6_wouldRather_87 : decode cX6_wouldRather 87 = .ok (.if_icmp .le 7, 3) := by decide +kernel
theorem dX6_wouldRather_90 : decode cX6_wouldRather 90 = .ok (.iconst 1, 1) := by decide +kernel
theorem dX6_wouldRather_91 : decode cX6_wouldRather 91 = .ok (.goto 4, 3) := by decide +kernel
theorem dX6_wouldRather_94 : decode cX6_wouldRather 94 = .ok (.iconst 0, 1) := by decide +kernel
theorem dX6_wouldRather_95 : decode cX6_wouldRather 95 = .ok (.ireturn, 1) := by decide +kernel
theorem dX6_firstRather_0 : decode cX6_firstRather 0 = .ok (.iconst 0, 1) := by decide +kernel
theorem dX6_firstRather_1 : decode cX6_firstRather 1 = .ok (.istore_n 1, 1) := by decide +kernel
theorem dX6_firstRather_2 : decode cX6_firstRather 2 = .ok (.iload_n 1, 1) := by decide +kernel
theorem dX6_firstRather_3 : decode cX6_firstRather 3 = .ok (.aload_n 0, 1) := by decide +kernel
theorem dX6_firstRather_4 : decode cX6_firstRather 4 = .ok (.getfield 7, 3) := by decide +kernel
theorem dX6_firstRather_7 : decode cX6_firstRather 7 = .ok (.if_icmp .ge 51, 3) := by decide +kernel
theorem dX6_firstRather_10 : decode cX6_firstRather 10 = .ok (.iconst 0, 1) := by decide +kernel
theorem dX6_firstRather_11 : decode cX6_firstRather 11 = .ok (.istore_n 2, 1) := by decide +kernel
theorem dX6_firstRather_12 : decode cX6_firstRather 12 = .ok (.iload_n 2, 1) := by decide +kernel
theorem dX6_firstRather_13 : decode cX6_firstRather 13 = .ok (.aload_n 0, 1) := by decide +kernel
theorem dX6_firstRather_14 : decode cX6_firstRather 14 = .ok (.getfield 13, 3) := by decide +kernel
theorem dX6_firstRather_17 : decode cX6_firstRather 17 = .ok (.if_icmp .ge 35, 3) := by decide +kernel
theorem dX6_firstRather_20 : decode cX6_firstRather 20 = .ok (.aload_n 0, 1) := by decide +kernel
theorem dX6_firstRather_21 : decode cX6_firstRather 21 = .ok (.getfield 77, 3) := by decide +kernel
theorem dX6_firstRather_24 : decode cX6_firstRather 24 = .ok (.iload_n 1, 1) := by decide +kernel
theorem dX6_firstRather_25 : decode cX6_firstRather 25 = .ok (.iaload, 1) := by decide +kernel
theorem dX6_firstRather_26 : decode cX6_firstRather 26 = .ok (.iload_n 2, 1) := by decide +kernel
theorem dX6_firstRather_27 : decode cX6_firstRather 27 = .ok (.if_icmp .eq 19, 3) := by decide +kernel
theorem dX6_firstRather_30 : decode cX6_firstRather 30 = .ok (.aload_n 0, 1) := by decide +kernel
theorem dX6_firstRather_31 : decode cX6_firstRather 31 = .ok (.iload_n 1, 1) := by decide +kernel
theorem dX6_firstRather_32 : decode cX6_firstRather 32 = .ok (.iload_n 2, 1) := by decide +kernel
theorem dX6_firstRather_33 : decode cX6_firstRather 33 = .ok (.invokevirtual 259, 3) := by decide +kernel
theorem dX6_firstRather_36 : decode cX6_firstRather 36 = .ok (.ifCond .eq 10, 3) := by decide +kernel
theorem dX6_firstRather_39 : decode cX6_firstRather 39 = .ok (.bipush 10, 2) := by decide +kernel
theorem dX6_firstRather_41 : decode cX6_firstRather 41 = .ok (.iload_n 1, 1) := by decide +kernel
theorem dX6_firstRather_42 : decode cX6_firstRather 42 = .ok (.imul, 1) := by decide +kernel
theorem dX6_firstRather_43 : decode cX6_firstRather 43 = .ok (.iload_n 2, 1) := by decide +kernel
theorem dX6_firstRather_44 : decode cX6_firstRather 44 = .ok (.iadd, 1) := by decide +kernel
theorem dX6_firstRather_45 : decode cX6_firstRather 45 = .ok (.ireturn, 1) := by decide +kernel
theorem dX6_firstRather_46 : decode cX6_firstRather 46 = .ok (.iinc 2 1, 3) := by decide +kernel
theorem dX6_firstRather_49 : decode cX6_firstRather 49 = .ok (.goto (-37), 3) := by decide +kernel
theorem dX6_firstRather_52 : decode cX6_firstRather 52 = .ok (.iinc 1 1, 3) := by decide +kernel
theorem dX6_firstRather_55 : decode cX6_firstRather 55 = .ok (.goto (-53), 3) := by decide +kernel
theorem dX6_firstRather_58 : decode cX6_firstRather 58 = .ok (.bipush (-9), 2) := by decide +kernel
theorem dX6_firstRather_60 : decode cX6_firstRather 60 = .ok (.ireturn, 1) := by decide +kernel
theorem dX6_layWay_0 : decode cX6_layWay 0 = .ok (.aload_n 0, 1) := by decide +kernel
theorem dX6_layWay_1 : decode cX6_layWay 1 = .ok (.getfield 7, 3) := by decide +kernel
theorem dX6_layWay_4 : decode cX6_layWay 4 = .ok (.aload_n 0, 1) := by decide +kernel
theorem dX6_layWay_5 : decode cX6_layWay 5 = .ok (.getfield 13, 3) := by decide +kernel
theorem dX6_layWay_8 : decode cX6_layWay 8 = .ok (.if_icmp .gt 7, 3) := by decide +kernel
theorem dX6_layWay_11 : decode cX6_layWay 11 = .ok (.iconst 1, 1) := by decide +kernel
theorem dX6_layWay_12 : decode cX6_layWay 12 = .ok (.goto 4, 3) := by decide +kernel
theorem dX6_layWay_15 : decode cX6_layWay 15 = .ok (.iconst 0, 1) := by decide +kernel
theorem dX6_layWay_16 : decode cX6_layWay 16 = .ok (.istore_n 2, 1) := by decide +kernel
theorem dX6_layWay_17 : decode cX6_layWay 17 = .ok (.iload_n 2, 1) := by decide +kernel
theorem dX6_layWay_18 : decode cX6_layWay 18 = .ok (.ifCond .eq 10, 3) := by decide +kernel
theorem dX6_layWay_21 : decode cX6_layWay 21 = .ok (.aload_n 0, 1) := by decide +kernel
theorem dX6_layWay_22 : decode cX6_layWay 22 = .ok (.getfield 7, 3) := by decide +kernel
theorem dX6_layWay_25 : decode cX6_layWay 25 = .ok (.goto 7, 3) := by decide +kernel
theorem dX6_layWay_28 : decode cX6_layWay 28 = .ok (.aload_n 0, 1) := by decide +kernel
theorem dX6_layWay_29 : decode cX6_layWay 29 = .ok (.getfield 13, 3) := by decide +kernel
theorem dX6_layWay_32 : decode cX6_layWay 32 = .ok (.istore_n 3, 1) := by decide +kernel
theorem dX6_layWay_33 : decode cX6_layWay 33 = .ok (.iload_n 2, 1) := by decide +kernel
theorem dX6_layWay_34 : decode cX6_layWay 34 = .ok (.ifCond .eq 10, 3) := by decide +kernel
theorem dX6_layWay_37 : decode cX6_layWay 37 = .ok (.aload_n 0, 1) := by decide +kernel
theorem dX6_layWay_38 : decode cX6_layWay 38 = .ok (.getfield 13, 3) := by decide +kernel
theorem dX6_layWay_41 : decode cX6_layWay 41 = .ok (.goto 7, 3) := by decide +kernel
theorem dX6_layWay_44 : decode cX6_layWay 44 = .ok (.aload_n 0, 1) := by decide +kernel
theorem dX6_layWay_45 : decode cX6_layWay 45 = .ok (.getfield 7, 3) := by decide +kernel
theorem dX6_layWay_48 : decode cX6_layWay 48 = .ok (.istore 4, 2) := by decide +kernel
theorem dX6_layWay_50 : decode cX6_layWay 50 = .ok (.iconst 0, 1) := by decide +kernel
theorem dX6_layWay_51 : decode cX6_layWay 51 = .ok (.istore 5, 2) := by decide +kernel
theorem dX6_layWay_53 : decode cX6_layWay 53 = .ok (.iload 5, 2) := by decide +kernel
theorem dX6_layWay_55 : decode cX6_layWay 55 = .ok (.iconst 5, 1) := by decide +kernel
theorem dX6_layWay_56 : decode cX6_layWay 56 = .ok (.if_icmp .ge 25, 3) := by decide +kernel
theorem dX6_layWay_59 : decode cX6_layWay 59 = .ok (.aload_n 0, 1) := by decide +kernel
theorem dX6_layWay_60 : decode cX6_layWay 60 = .ok (.getfield 77, 3) := by decide +kernel
theorem dX6_layWay_63 : decode cX6_layWay 63 = .ok (.iload 5, 2) := by decide +kernel
theorem dX6_layWay_65 : decode cX6_layWay 65 = .ok (.iconst (-1), 1) := by decide +kernel
theorem dX6_layWay_66 : decode cX6_layWay 66 = .ok (.iastore, 1) := by decide +kernel
theorem dX6_layWay_67 : decode cX6_layWay 67 = .ok (.aload_n 0, 1) := by decide +kernel
theorem dX6_layWay_68 : decode cX6_layWay 68 = .ok (.getfield 80, 3) := by decide +kernel
theorem dX6_layWay_71 : decode cX6_layWay 71 = .ok (.iload 5, 2) := by decide +kernel
theorem dX6_layWay_73 : decode cX6_layWay 73 = .ok (.iconst (-1), 1) := by decide +kernel
theorem dX6_layWay_74 : decode cX6_layWay 74 = .ok (.iastore, 1) := by decide +kernel
theorem dX6_layWay_75 : decode cX6_layWay 75 = .ok (.iinc 5 1, 3) := by decide +kernel
theorem dX6_layWay_78 : decode cX6_layWay 78 = .ok (.goto (-25), 3) := by decide +kernel
theorem dX6_layWay_81 : decode cX6_layWay 81 = .ok (.iload_n 1, 1) := by decide +kernel
theorem dX6_layWay_82 : decode cX6_layWay 82 = .ok (.istore 5, 2) := by decide +kernel
theorem dX6_layWay_84 : decode cX6_layWay 84 = .ok (.iconst 0, 1) := by decide +kernel
theorem dX6_layWay_85 : decode cX6_layWay 85 = .ok (.istore 6, 2) := by decide +kernel
theorem dX6_layWay_87 : decode cX6_layWay 87 = .ok (.iload 6, 2) := by decide +kernel
theorem dX6_layWay_89 : decode cX6_layWay 89 = .ok (.iload_n 3, 1) := by decide +kernel
theorem dX6_layWay_90 : decode cX6_layWay 90 = .ok (.if_icmp .ge 106, 3) := by decide +kernel
theorem dX6_layWay_93 : decode cX6_layWay 93 = .ok (.iload 5, 2) := by decide +kernel
theorem dX6_layWay_95 : decode cX6_layWay 95 = .ok (.iload 4, 2) := by decide +kernel
theorem dX6_layWay_97 : decode cX6_layWay 97 = .ok (.irem, 1) := by decide +kernel
theorem dX6_layWay_98 : decode cX6_layWay 98 = .ok (.istore 7, 2) := by decide +kernel
theorem dX6_layWay_100 : decode cX6_layWay 100 = .ok (.iload 5, 2) := by decide +kernel
theorem dX6_layWay_102 : decode cX6_layWay 102 = .ok (.iload 4, 2) := by decide +kernel
theorem dX6_layWay_104 : decode cX6_layWay 104 = .ok (.idiv, 1) := by decide +kernel
theorem dX6_layWay_105 : decode cX6_layWay 105 = .ok (.istore 5, 2) := by decide +kernel
theorem dX6_layWay_107 : decode cX6_layWay 107 = .ok (.iload_n 2, 1) := by decide +kernel
theorem dX6_layWay_108 : decode cX6_layWay 108 = .ok (.ifCond .eq 16, 3) := by decide +kernel
theorem dX6_layWay_111 : decode cX6_layWay 111 = .ok (.aload_n 0, 1) := by decide +kernel
theorem dX6_layWay_112 : decode cX6_layWay 112 = .ok (.getfield 80, 3) := by decide +kernel
theorem dX6_layWay_115 : decode cX6_layWay 115 = .ok (.iload 7, 2) := by decide +kernel
theorem dX6_layWay_117 : decode cX6_layWay 117 = .ok (.iaload, 1) := by decide +kernel
theorem dX6_layWay_118 : decode cX6_layWay 118 = .ok (.ifCond .lt 18, 3) := by decide +kernel
theorem dX6_layWay_121 : decode cX6_layWay 121 = .ok (.goto 13, 3) := by decide +kernel
theorem dX6_layWay_124 : decode cX6_layWay 124 = .ok (.aload_n 0, 1) := by decide +kernel
theorem dX6_layWay_125 : decode cX6_layWay 125 = .ok (.getfield 77, 3) := by decide +kernel
theorem dX6_layWay_128 : decode cX6_layWay 128 = .ok (.iload 7, 2) := by decide +kernel
theorem dX6_layWay_130 : decode cX6_layWay 130 = .ok (.iaload, 1) := by decide +kernel
theorem dX6_layWay_131 : decode cX6_layWay 131 = .ok (.ifCond .lt 5, 3) := by decide +kernel
theorem dX6_layWay_134 : decode cX6_layWay 134 = .ok (.iconst 0, 1) := by decide +kernel
theorem dX6_layWay_135 : decode cX6_layWay 135 = .ok (.ireturn, 1) := by decide +kernel
theorem dX6_layWay_136 : decode cX6_layWay 136 = .ok (.aload_n 0, 1) := by decide +kernel
theorem dX6_layWay_137 : decode cX6_layWay 137 = .ok (.getfield 77, 3) := by decide +kernel
theorem dX6_layWay_140 : decode cX6_layWay 140 = .ok (.iload_n 2, 1) := by decide +kernel
theorem dX6_layWay_141 : decode cX6_layWay 141 = .ok (.ifCond .eq 8, 3) := by decide +kernel
theorem dX6_layWay_144 : decode cX6_layWay 144 = .ok (.iload 6, 2) := by decide +kernel
theorem dX6_layWay_146 : decode cX6_layWay 146 = .ok (.goto 5, 3) := by decide +kernel
theorem dX6_layWay_149 : decode cX6_layWay 149 = .ok (.iload 7, 2) := by decide +kernel
theorem dX6_layWay_151 : decode cX6_layWay 151 = .ok (.iload_n 2, 1) := by decide +kernel
theorem dX6_layWay_152 : decode cX6_layWay 152 = .ok (.ifCond .eq 8, 3) := by decide +kernel
theorem dX6_layWay_155 : decode cX6_layWay 155 = .ok (.iload 7, 2) := by decide +kernel
theorem dX6_layWay_157 : decode cX6_layWay 157 = .ok (.goto 5, 3) := by decide +kernel
theorem dX6_layWay_160 : decode cX6_layWay 160 = .ok (.iload 6, 2) := by decide +kernel
theorem dX6_layWay_162 : decode cX6_layWay 162 = .ok (.iastore, 1) := by decide +kernel
theorem dX6_layWay_163 : decode cX6_layWay 163 = .ok (.aload_n 0, 1) := by decide +kernel
theorem dX6_layWay_164 : decode cX6_layWay 164 = .ok (.getfield 80, 3) := by decide +kernel
theorem dX6_layWay_167 : decode cX6_layWay 167 = .ok (.iload_n 2, 1) := by decide +kernel
theorem dX6_layWay_168 : decode cX6_layWay 168 = .ok (.ifCond .eq 8, 3) := by decide +kernel
theorem dX6_layWay_171 : decode cX6_layWay 171 = .ok (.iload 7, 2) := by decide +kernel
theorem dX6_layWay_173 : decode cX6_layWay 173 = .ok (.goto 5, 3) := by decide +kernel
theorem dX6_layWay_176 : decode cX6_layWay 176 = .ok (.iload 6, 2) := by decide +kernel
theorem dX6_layWay_178 : decode cX6_layWay 178 = .ok (.iload_n 2, 1) := by decide +kernel
theorem dX6_layWay_179 : decode cX6_layWay 179 = .ok (.ifCond .eq 8, 3) := by decide +kernel
theorem dX6_layWay_182 : decode cX6_layWay 182 = .ok (.iload 6, 2) := by decide +kernel
theorem dX6_layWay_184 : decode cX6_layWay 184 = .ok (.goto 5, 3) := by decide +kernel
theorem dX6_layWay_187 : decode cX6_layWay 187 = .ok (.iload 7, 2) := by decide +kernel
theorem dX6_layWay_189 : decode cX6_layWay 189 = .ok (.iastore, 1) := by decide +kernel
theorem dX6_layWay_190 : decode cX6_layWay 190 = .ok (.iinc 6 1, 3) := by decide +kernel
theorem dX6_layWay_193 : decode cX6_layWay 193 = .ok (.goto (-106), 3) := by decide +kernel
theorem dX6_layWay_196 : decode cX6_layWay 196 = .ok (.iconst 1, 1) := by decide +kernel
theorem dX6_layWay_197 : decode cX6_layWay 197 = .ok (.ireturn, 1) := by decide +kernel
theorem dX6_firm_0 : decode cX6_firm 0 = .ok (.aload_n 0, 1) := by decide +kernel
theorem dX6_firm_1 : decode cX6_firm 1 = .ok (.getfield 7, 3) := by decide +kernel
theorem dX6_firm_4 : decode cX6_firm 4 = .ok (.aload_n 0, 1) := by decide +kernel
theorem dX6_firm_5 : decode cX6_firm 5 = .ok (.getfield 13, 3) := by decide +kernel
theorem dX6_firm_8 : decode cX6_firm 8 = .ok (.if_icmp .gt 10, 3) := by decide +kernel
theorem dX6_firm_11 : decode cX6_firm 11 = .ok (.aload_n 0, 1) := by decide +kernel
theorem dX6_firm_12 : decode cX6_firm 12 = .ok (.getfield 7, 3) := by decide +kernel
theorem dX6_firm_15 : decode cX6_firm 15 = .ok (.goto 7, 3) := by decide +kernel
theorem dX6_firm_18 : decode cX6_firm 18 = .ok (.aload_n 0, 1) := by decide +kernel
theorem dX6_firm_19 : decode cX6_firm 19 = .ok (.getfield 13, 3) := by decide +kernel
theorem dX6_firm_22 : decode cX6_firm 22 = .ok (.istore_n 1, 1) := by decide +kernel
theorem dX6_firm_23 : decode cX6_firm 23 = .ok (.aload_n 0, 1) := by decide +kernel
theorem dX6_firm_24 : decode cX6_firm 24 = .ok (.getfield 7, 3) := by decide +kernel
theorem dX6_firm_27 : decode cX6_firm 27 = .ok (.aload_n 0, 1) := by decide +kernel
theorem dX6_firm_28 : decode cX6_firm 28 = .ok (.getfield 13, 3) := by decide +kernel
theorem dX6_firm_31 : decode cX6_firm 31 = .ok (.if_icmp .gt 10, 3) := by decide +kernel
theorem dX6_firm_34 : decode cX6_firm 34 = .ok (.aload_n 0, 1) := by decide +kernel
theorem dX6_firm_35 : decode cX6_firm 35 = .ok (.getfield 13, 3) := by decide +kernel
theorem dX6_firm_38 : decode cX6_firm 38 = .ok (.goto 7, 3) := by decide +kernel
theorem dX6_firm_41 : decode cX6_firm 41 = .ok (.aload_n 0, 1) := by decide +kernel
theorem dX6_firm_42 : decode cX6_firm 42 = .ok (.getfield 7, 3) := by decide +kernel
theorem dX6_firm_45 : decode cX6_firm 45 = .ok (.istore_n 2, 1) := by decide +kernel
theorem dX6_firm_46 : decode cX6_firm 46 = .ok (.iconst 1, 1) := by decide +kernel
theorem dX6_firm_47 : decode cX6_firm 47 = .ok (.istore_n 3, 1) := by decide +kernel
theorem dX6_firm_48 : decode cX6_firm 48 = .ok (.iconst 0, 1) := by decide +kernel
theorem dX6_firm_49 : decode cX6_firm 49 = .ok (.istore 4, 2) := by decide +kernel
theorem dX6_firm_51 : decode cX6_firm 51 = .ok (.iload 4, 2) := by decide +kernel
theorem dX6_firm_53 : decode cX6_firm 53 = .ok (.iload_n 1, 1) := by decide +kernel
theorem dX6_firm_54 : decode cX6_firm 54 = .ok (.if_icmp .ge 13, 3) := by decide +kernel
theorem dX6_firm_57 : decode cX6_firm 57 = .ok (.iload_n 3, 1) := by decide +kernel
theorem dX6_firm_58 : decode cX6_firm 58 = .ok (.iload_n 2, 1) := by decide +kernel
theorem dX6_firm_59 : decode cX6_firm 59 = .ok (.imul, 1) := by decide +kernel
theorem dX6_firm_60 : decode cX6_firm 60 = .ok (.istore_n 3, 1) := by decide +kernel
theorem dX6_firm_61 : decode cX6_firm 61 = .ok (.iinc 4 1, 3) := by decide +kernel
theorem dX6_firm_64 : decode cX6_firm 64 = .ok (.goto (-13), 3) := by decide +kernel
theorem dX6_firm_67 : decode cX6_firm 67 = .ok (.iconst 0, 1) := by decide +kernel
theorem dX6_firm_68 : decode cX6_firm 68 = .ok (.istore 4, 2) := by decide +kernel
theorem dX6_firm_70 : decode cX6_firm 70 = .ok (.iconst 0, 1) := by decide +kernel
theorem dX6_firm_71 : decode cX6_firm 71 = .ok (.istore 5, 2) := by decide +kernel
theorem dX6_firm_73 : decode cX6_firm 73 = .ok (.iload 5, 2) := by decide +kernel
theorem dX6_firm_75 : decode cX6_firm 75 = .ok (.iload_n 3, 1) := by decide +kernel
theorem dX6_firm_76 : decode cX6_firm 76 = .ok (.if_icmp .ge 35, 3) := by decide +kernel
theorem dX6_firm_79 : decode cX6_firm 79 = .ok (.iload 4, 2) := by decide +kernel
theorem dX6_firm_81 : decode cX6_firm 81 = .ok (.aload_n 0, 1) := by decide +kernel
theorem dX6_firm_82 : decode cX6_firm 82 = .ok (.iload 5, 2) := by decide +kernel
theorem dX6_firm_84 : decode cX6_firm 84 = .ok (.invokevirtual 262, 3) := by decide +kernel
theorem dX6_firm_87 : decode cX6_firm 87 = .ok (.ifCond .eq 14, 3) := by decide +kernel
theorem dX6_firm_90 : decode cX6_firm 90 = .ok (.aload_n 0, 1) := by decide +kernel
theorem dX6_firm_91 : decode cX6_firm 91 = .ok (.invokevirtual 265, 3) := by decide +kernel
theorem dX6_firm_94 : decode cX6_firm 94 = .ok (.ifCond .ge 7, 3) := by decide +kernel
theorem dX6_firm_97 : decode cX6_firm 97 = .ok (.iconst 1, 1) := by decide +kernel
theorem dX6_firm_98 : decode cX6_firm 98 = .ok (.goto 4, 3) := by decide +kernel
theorem dX6_firm_101 : decode cX6_firm 101 = .ok (.iconst 0, 1) := by decide +kernel
theorem dX6_firm_102 : decode cX6_firm 102 = .ok (.iadd, 1) := by decide +kernel
theorem dX6_firm_103 : decode cX6_firm 103 = .ok (.istore 4, 2) := by decide +kernel
theorem dX6_firm_105 : decode cX6_firm 105 = .ok (.iinc 5 1, 3) := by decide +kernel
theorem dX6_firm_108 : decode cX6_firm 108 = .ok (.goto (-35), 3) := by decide +kernel
theorem dX6_firm_111 : decode cX6_firm 111 = .ok (.iload 4, 2) := by decide +kernel
theorem dX6_firm_113 : decode cX6_firm 113 = .ok (.ireturn, 1) := by decide +kernel
theorem dX6_row_0 : decode cX6_row 0 = .ok (.iload_n 1, 1) := by decide +kernel
theorem dX6_row_1 : decode cX6_row 1 = .ok (.ifCond .ge 10, 3) := by decide +kernel
theorem dX6_row_4 : decode cX6_row 4 = .ok (.aload_n 0, 1) := by decide +kernel
theorem dX6_row_5 : decode cX6_row 5 = .ok (.bipush (-4), 2) := by decide +kernel
theorem dX6_row_7 : decode cX6_row 7 = .ok (.invokevirtual 128, 3) := by decide +kernel
theorem dX6_row_10 : decode cX6_row 10 = .ok (.ireturn, 1) := by decide +kernel
theorem dX6_row_11 : decode cX6_row 11 = .ok (.iload_n 1, 1) := by decide +kernel
theorem dX6_row_12 : decode cX6_row 12 = .ok (.bipush 31, 2) := by decide +kernel
theorem dX6_row_14 : decode cX6_row 14 = .ok (.if_icmp .gt 12, 3) := by decide +kernel
theorem dX6_row_17 : decode cX6_row 17 = .ok (.aload_n 0, 1) := by decide +kernel
theorem dX6_row_18 : decode cX6_row 18 = .ok (.getfield 28, 3) := by decide +kernel
theorem dX6_row_21 : decode cX6_row 21 = .ok (.bipush 10, 2) := by decide +kernel
theorem dX6_row_23 : decode cX6_row 23 = .ok (.if_icmp .ne 10, 3) := by decide +kernel
theorem dX6_row_26 : decode cX6_row 26 = .ok (.aload_n 0, 1) := by decide +kernel
theorem dX6_row_27 : decode cX6_row 27 = .ok (.bipush (-6), 2) := by decide +kernel
theorem dX6_row_29 : decode cX6_row 29 = .ok (.invokevirtual 128, 3) := by decide +kernel
theorem dX6_row_32 : decode cX6_row 32 = .ok (.ireturn, 1) := by decide +kernel
theorem dX6_row_33 : decode cX6_row 33 = .ok (.aload_n 0, 1) := by decide +kernel
theorem dX6_row_34 : decode cX6_row 34 = .ok (.getfield 44, 3) := by decide +kernel
theorem dX6_row_37 : decode cX6_row 37 = .ok (.aload_n 0, 1) := by decide +kernel
theorem dX6_row_38 : decode cX6_row 38 = .ok (.getfield 28, 3) := by decide +kernel
theorem dX6_row_41 : decode cX6_row 41 = .ok (.iload_n 1, 1) := by decide +kernel
theorem dX6_row_42 : decode cX6_row 42 = .ok (.iastore, 1) := by decide +kernel
theorem dX6_row_43 : decode cX6_row 43 = .ok (.aload_n 0, 1) := by decide +kernel
theorem dX6_row_44 : decode cX6_row 44 = .ok (.dup, 1) := by decide +kernel
theorem dX6_row_45 : decode cX6_row 45 = .ok (.getfield 28, 3) := by decide +kernel
theorem dX6_row_48 : decode cX6_row 48 = .ok (.iconst 1, 1) := by decide +kernel
theorem dX6_row_49 : decode cX6_row 49 = .ok (.iadd, 1) := by decide +kernel
theorem dX6_row_50 : decode cX6_row 50 = .ok (.putfield 28, 3) := by decide +kernel
theorem dX6_row_53 : decode cX6_row 53 = .ok (.aload_n 0, 1) := by decide +kernel
theorem dX6_row_54 : decode cX6_row 54 = .ok (.getfield 28, 3) := by decide +kernel
theorem dX6_row_57 : decode cX6_row 57 = .ok (.ireturn, 1) := by decide +kernel
theorem dX6_isWay_0 : decode cX6_isWay 0 = .ok (.aload_n 0, 1) := by decide +kernel
theorem dX6_isWay_1 : decode cX6_isWay 1 = .ok (.getfield 28, 3) := by decide +kernel
theorem dX6_isWay_4 : decode cX6_isWay 4 = .ok (.aload_n 0, 1) := by decide +kernel
theorem dX6_isWay_5 : decode cX6_isWay 5 = .ok (.getfield 7, 3) := by decide +kernel
theorem dX6_isWay_8 : decode cX6_isWay 8 = .ok (.if_icmp .eq 5, 3) := by decide +kernel
theorem dX6_isWay_11 : decode cX6_isWay 11 = .ok (.iconst 0, 1) := by decide +kernel
theorem dX6_isWay_12 : decode cX6_isWay 12 = .ok (.ireturn, 1) := by decide +kernel
theorem dX6_isWay_13 : decode cX6_isWay 13 = .ok (.iconst 0, 1) := by decide +kernel
theorem dX6_isWay_14 : decode cX6_isWay 14 = .ok (.istore_n 1, 1) := by decide +kernel
theorem dX6_isWay_15 : decode cX6_isWay 15 = .ok (.iload_n 1, 1) := by decide +kernel
theorem dX6_isWay_16 : decode cX6_isWay 16 = .ok (.iconst 5, 1) := by decide +kernel
theorem dX6_isWay_17 : decode cX6_isWay 17 = .ok (.if_icmp .ge 23, 3) := by decide +kernel
theorem dX6_isWay_20 : decode cX6_isWay 20 = .ok (.aload_n 0, 1) := by decide +kernel
theorem dX6_isWay_21 : decode cX6_isWay 21 = .ok (.getfield 77, 3) := by decide +kernel
theorem dX6_isWay_24 : decode cX6_isWay 24 = .ok (.iload_n 1, 1) := by decide +kernel
theorem dX6_isWay_25 : decode cX6_isWay 25 = .ok (.iconst (-1), 1) := by decide +kernel
theorem dX6_isWay_26 : decode cX6_isWay 26 = .ok (.iastore, 1) := by decide +kernel
theorem dX6_isWay_27 : decode cX6_isWay 27 = .ok (.aload_n 0, 1) := by decide +kernel
theorem dX6_isWay_28 : decode cX6_isWay 28 = .ok (.getfield 80, 3) := by decide +kernel
theorem dX6_isWay_31 : decode cX6_isWay 31 = .ok (.iload_n 1, 1) := by decide +kernel
theorem dX6_isWay_32 : decode cX6_isWay 32 = .ok (.iconst (-1), 1) := by decide +kernel
theorem dX6_isWay_33 : decode cX6_isWay 33 = .ok (.iastore, 1) := by decide +kernel
theorem dX6_isWay_34 : decode cX6_isWay 34 = .ok (.iinc 1 1, 3) := by decide +kernel
theorem dX6_isWay_37 : decode cX6_isWay 37 = .ok (.goto (-22), 3) := by decide +kernel
theorem dX6_isWay_40 : decode cX6_isWay 40 = .ok (.iconst 0, 1) := by decide +kernel
theorem dX6_isWay_41 : decode cX6_isWay 41 = .ok (.istore_n 1, 1) := by decide +kernel
theorem dX6_isWay_42 : decode cX6_isWay 42 = .ok (.iload_n 1, 1) := by decide +kernel
theorem dX6_isWay_43 : decode cX6_isWay 43 = .ok (.aload_n 0, 1) := by decide +kernel
theorem dX6_isWay_44 : decode cX6_isWay 44 = .ok (.getfield 7, 3) := by decide +kernel
theorem dX6_isWay_47 : decode cX6_isWay 47 = .ok (.if_icmp .ge 76, 3) := by decide +kernel
theorem dX6_isWay_50 : decode cX6_isWay 50 = .ok (.aload_n 0, 1) := by decide +kernel
end
section
theorem dX6_isWay_51 : decode cX6_isWay 51 = .ok (.getfield 44, 3) := by decide +kernel
theorem dX6_isWay_54 : decode cX6_isWay 54 = .ok (.iload_n 1, 1) := by decide +kernel
theorem dX6_isWay_55 : decode cX6_isWay 55 = .ok (.iaload, 1) := by decide +kernel
theorem dX6_isWay_56 : decode cX6_isWay 56 = .ok (.bipush 9, 2) := by decide +kernel
theorem dX6_isWay_58 : decode cX6_isWay 58 = .ok (.if_icmp .ne 6, 3) := by decide +kernel
theorem dX6_isWay_61 : decode cX6_isWay 61 = .ok (.goto 56, 3) := by decide +kernel
theorem dX6_isWay_64 : decode cX6_isWay 64 = .ok (.aload_n 0, 1) := by decide +kernel
theorem dX6_isWay_65 : decode cX6_isWay 65 = .ok (.getfield 44, 3) := by decide +kernel
theorem dX6_isWay_68 : decode cX6_isWay 68 = .ok (.iload_n 1, 1) := by decide +kernel
theorem dX6_isWay_69 : decode cX6_isWay 69 = .ok (.iaload, 1) := by decide +kernel
theorem dX6_isWay_70 : decode cX6_isWay 70 = .ok (.aload_n 0, 1) := by decide +kernel
theorem dX6_isWay_71 : decode cX6_isWay 71 = .ok (.getfield 13, 3) := by decide +kernel
theorem dX6_isWay_74 : decode cX6_isWay 74 = .ok (.if_icmp .ge 17, 3) := by decide +kernel
theorem dX6_isWay_77 : decode cX6_isWay 77 = .ok (.aload_n 0, 1) := by decide +kernel
theorem dX6_isWay_78 : decode cX6_isWay 78 = .ok (.getfield 80, 3) := by decide +kernel
theorem dX6_isWay_81 : decode cX6_isWay 81 = .ok (.aload_n 0, 1) := by decide +kernel
theorem dX6_isWay_82 : decode cX6_isWay 82 = .ok (.getfield 44, 3) := by decide +kernel
theorem dX6_isWay_85 : decode cX6_isWay 85 = .ok (.iload_n 1, 1) := by decide +kernel
theorem dX6_isWay_86 : decode cX6_isWay 86 = .ok (.iaload, 1) := by decide +kernel
theorem dX6_isWay_87 : decode cX6_isWay 87 = .ok (.iaload, 1) := by decide +kernel
theorem dX6_isWay_88 : decode cX6_isWay 88 = .ok (.ifCond .lt 5, 3) := by decide +kernel
theorem dX6_isWay_91 : decode cX6_isWay 91 = .ok (.iconst 0, 1) := by decide +kernel
theorem dX6_isWay_92 : decode cX6_isWay 92 = .ok (.ireturn, 1) := by decide +kernel
theorem dX6_isWay_93 : decode cX6_isWay 93 = .ok (.aload_n 0, 1) := by decide +kernel
theorem dX6_isWay_94 : decode cX6_isWay 94 = .ok (.getfield 77, 3) := by decide +kernel
theorem dX6_isWay_97 : decode cX6_isWay 97 = .ok (.iload_n 1, 1) := by decide +kernel
theorem dX6_isWay_98 : decode cX6_isWay 98 = .ok (.aload_n 0, 1) := by decide +kernel
theorem dX6_isWay_99 : decode cX6_isWay 99 = .ok (.getfield 44, 3) := by decide +kernel
theorem dX6_isWay_102 : decode cX6_isWay 102 = .ok (.iload_n 1, 1) := by decide +kernel
theorem dX6_isWay_103 : decode cX6_isWay 103 = .ok (.iaload, 1) := by decide +kernel
theorem dX6_isWay_104 : decode cX6_isWay 104 = .ok (.iastore, 1) := by decide +kernel
theorem dX6_isWay_105 : decode cX6_isWay 105 = .ok (.aload_n 0, 1) := by decide +kernel
theorem dX6_isWay_106 : decode cX6_isWay 106 = .ok (.getfield 80, 3) := by decide +kernel
theorem dX6_isWay_109 : decode cX6_isWay 109 = .ok (.aload_n 0, 1) := by decide +kernel
theorem dX6_isWay_110 : decode cX6_isWay 110 = .ok (.getfield 44, 3) := by decide +kernel
theorem dX6_isWay_113 : decode cX6_isWay 113 = .ok (.iload_n 1, 1) := by decide +kernel
theorem dX6_isWay_114 : decode cX6_isWay 114 = .ok (.iaload, 1) := by decide +kernel
theorem dX6_isWay_115 : decode cX6_isWay 115 = .ok (.iload_n 1, 1) := by decide +kernel
theorem dX6_isWay_116 : decode cX6_isWay 116 = .ok (.iastore, 1) := by decide +kernel
theorem dX6_isWay_117 : decode cX6_isWay 117 = .ok (.iinc 1 1, 3) := by decide +kernel
theorem dX6_isWay_120 : decode cX6_isWay 120 = .ok (.goto (-78), 3) := by decide +kernel
theorem dX6_isWay_123 : decode cX6_isWay 123 = .ok (.iconst 1, 1) := by decide +kernel
theorem dX6_isWay_124 : decode cX6_isWay 124 = .ok (.ireturn, 1) := by decide +kernel
theorem dX6_rather_0 : decode cX6_rather 0 = .ok (.aload_n 0, 1) := by decide +kernel
theorem dX6_rather_1 : decode cX6_rather 1 = .ok (.invokevirtual 268, 3) := by decide +kernel
theorem dX6_rather_4 : decode cX6_rather 4 = .ok (.ifCond .eq 10, 3) := by decide +kernel
theorem dX6_rather_7 : decode cX6_rather 7 = .ok (.aload_n 0, 1) := by decide +kernel
theorem dX6_rather_8 : decode cX6_rather 8 = .ok (.invokevirtual 265, 3) := by decide +kernel
theorem dX6_rather_11 : decode cX6_rather 11 = .ok (.goto 9, 3) := by decide +kernel
theorem dX6_rather_14 : decode cX6_rather 14 = .ok (.aload_n 0, 1) := by decide +kernel
theorem dX6_rather_15 : decode cX6_rather 15 = .ok (.bipush (-3), 2) := by decide +kernel
theorem dX6_rather_17 : decode cX6_rather 17 = .ok (.invokevirtual 128, 3) := by decide +kernel
theorem dX6_rather_20 : decode cX6_rather 20 = .ok (.ireturn, 1) := by decide +kernel
theorem dX6_truly_0 : decode cX6_truly 0 = .ok (.aload_n 0, 1) := by decide +kernel
theorem dX6_truly_1 : decode cX6_truly 1 = .ok (.iload_n 1, 1) := by decide +kernel
theorem dX6_truly_2 : decode cX6_truly 2 = .ok (.iload_n 2, 1) := by decide +kernel
theorem dX6_truly_3 : decode cX6_truly 3 = .ok (.invokevirtual 216, 3) := by decide +kernel
theorem dX6_truly_6 : decode cX6_truly 6 = .ok (.ifCond .ne 9, 3) := by decide +kernel
theorem dX6_truly_9 : decode cX6_truly 9 = .ok (.aload_n 0, 1) := by decide +kernel
theorem dX6_truly_10 : decode cX6_truly 10 = .ok (.iconst (-1), 1) := by decide +kernel
theorem dX6_truly_11 : decode cX6_truly 11 = .ok (.invokevirtual 128, 3) := by decide +kernel
theorem dX6_truly_14 : decode cX6_truly 14 = .ok (.ireturn, 1) := by decide +kernel
theorem dX6_truly_15 : decode cX6_truly 15 = .ok (.aload_n 0, 1) := by decide +kernel
theorem dX6_truly_16 : decode cX6_truly 16 = .ok (.iload_n 1, 1) := by decide +kernel
theorem dX6_truly_17 : decode cX6_truly 17 = .ok (.iload_n 2, 1) := by decide +kernel
theorem dX6_truly_18 : decode cX6_truly 18 = .ok (.invokevirtual 193, 3) := by decide +kernel
theorem dX6_truly_21 : decode cX6_truly 21 = .ok (.istore_n 3, 1) := by decide +kernel
theorem dX6_truly_22 : decode cX6_truly 22 = .ok (.aload_n 0, 1) := by decide +kernel
theorem dX6_truly_23 : decode cX6_truly 23 = .ok (.iload_n 1, 1) := by decide +kernel
theorem dX6_truly_24 : decode cX6_truly 24 = .ok (.iload_n 2, 1) := by decide +kernel
theorem dX6_truly_25 : decode cX6_truly 25 = .ok (.invokevirtual 209, 3) := by decide +kernel
theorem dX6_truly_28 : decode cX6_truly 28 = .ok (.istore 4, 2) := by decide +kernel
theorem dX6_truly_30 : decode cX6_truly 30 = .ok (.iconst 0, 1) := by decide +kernel
theorem dX6_truly_31 : decode cX6_truly 31 = .ok (.istore 5, 2) := by decide +kernel
theorem dX6_truly_33 : decode cX6_truly 33 = .ok (.iconst 0, 1) := by decide +kernel
theorem dX6_truly_34 : decode cX6_truly 34 = .ok (.istore 6, 2) := by decide +kernel
theorem dX6_truly_36 : decode cX6_truly 36 = .ok (.iload 6, 2) := by decide +kernel
theorem dX6_truly_38 : decode cX6_truly 38 = .ok (.bipush 10, 2) := by decide +kernel
theorem dX6_truly_40 : decode cX6_truly 40 = .ok (.if_icmp .ge 47, 3) := by decide +kernel
theorem dX6_truly_43 : decode cX6_truly 43 = .ok (.aload_n 0, 1) := by decide +kernel
theorem dX6_truly_44 : decode cX6_truly 44 = .ok (.getfield 38, 3) := by decide +kernel
theorem dX6_truly_47 : decode cX6_truly 47 = .ok (.iconst 5, 1) := by decide +kernel
theorem dX6_truly_48 : decode cX6_truly 48 = .ok (.iload_n 1, 1) := by decide +kernel
theorem dX6_truly_49 : decode cX6_truly 49 = .ok (.imul, 1) := by decide +kernel
theorem dX6_truly_50 : decode cX6_truly 50 = .ok (.iload_n 2, 1) := by decide +kernel
theorem dX6_truly_51 : decode cX6_truly 51 = .ok (.iconst 5, 1) := by decide +kernel
theorem dX6_truly_52 : decode cX6_truly 52 = .ok (.irem, 1) := by decide +kernel
theorem dX6_truly_53 : decode cX6_truly 53 = .ok (.iadd, 1) := by decide +kernel
theorem dX6_truly_54 : decode cX6_truly 54 = .ok (.iload 6, 2) := by decide +kernel
theorem dX6_truly_56 : decode cX6_truly 56 = .ok (.iastore, 1) := by decide +kernel
theorem dX6_truly_57 : decode cX6_truly 57 = .ok (.iload 5, 2) := by decide +kernel
theorem dX6_truly_59 : decode cX6_truly 59 = .ok (.aload_n 0, 1) := by decide +kernel
theorem dX6_truly_60 : decode cX6_truly 60 = .ok (.iload_n 1, 1) := by decide +kernel
theorem dX6_truly_61 : decode cX6_truly 61 = .ok (.iload_n 2, 1) := by decide +kernel
theorem dX6_truly_62 : decode cX6_truly 62 = .ok (.invokevirtual 209, 3) := by decide +kernel
theorem dX6_truly_65 : decode cX6_truly 65 = .ok (.iload 4, 2) := by decide +kernel
theorem dX6_truly_67 : decode cX6_truly 67 = .ok (.if_icmp .ne 10, 3) := by decide +kernel
theorem dX6_truly_70 : decode cX6_truly 70 = .ok (.iconst 1, 1) := by decide +kernel
theorem dX6_truly_71 : decode cX6_truly 71 = .ok (.iload 6, 2) := by decide +kernel
theorem dX6_truly_73 : decode cX6_truly 73 = .ok (.ishl, 1) := by decide +kernel
theorem dX6_truly_74 : decode cX6_truly 74 = .ok (.goto 4, 3) := by decide +kernel
theorem dX6_truly_77 : decode cX6_truly 77 = .ok (.iconst 0, 1) := by decide +kernel
theorem dX6_truly_78 : decode cX6_truly 78 = .ok (.ior, 1) := by decide +kernel
theorem dX6_truly_79 : decode cX6_truly 79 = .ok (.istore 5, 2) := by decide +kernel
theorem dX6_truly_81 : decode cX6_truly 81 = .ok (.iinc 6 1, 3) := by decide +kernel
theorem dX6_truly_84 : decode cX6_truly 84 = .ok (.goto (-48), 3) := by decide +kernel
theorem dX6_truly_87 : decode cX6_truly 87 = .ok (.aload_n 0, 1) := by decide +kernel
theorem dX6_truly_88 : decode cX6_truly 88 = .ok (.getfield 38, 3) := by decide +kernel
theorem dX6_truly_91 : decode cX6_truly 91 = .ok (.iconst 5, 1) := by decide +kernel
theorem dX6_truly_92 : decode cX6_truly 92 = .ok (.iload_n 1, 1) := by decide +kernel
theorem dX6_truly_93 : decode cX6_truly 93 = .ok (.imul, 1) := by decide +kernel
theorem dX6_truly_94 : decode cX6_truly 94 = .ok (.iload_n 2, 1) := by decide +kernel
theorem dX6_truly_95 : decode cX6_truly 95 = .ok (.iconst 5, 1) := by decide +kernel
theorem dX6_truly_96 : decode cX6_truly 96 = .ok (.irem, 1) := by decide +kernel
theorem dX6_truly_97 : decode cX6_truly 97 = .ok (.iadd, 1) := by decide +kernel
theorem dX6_truly_98 : decode cX6_truly 98 = .ok (.iload_n 3, 1) := by decide +kernel
theorem dX6_truly_99 : decode cX6_truly 99 = .ok (.iastore, 1) := by decide +kernel
theorem dX6_truly_100 : decode cX6_truly 100 = .ok (.iload 5, 2) := by decide +kernel
theorem dX6_truly_102 : decode cX6_truly 102 = .ok (.ireturn, 1) := by decide +kernel
theorem dX6_nth_0 : decode cX6_nth 0 = .ok (.iload_n 1, 1) := by decide +kernel
theorem dX6_nth_1 : decode cX6_nth 1 = .ok (.aload_n 0, 1) := by decide +kernel
theorem dX6_nth_2 : decode cX6_nth 2 = .ok (.getfield 7, 3) := by decide +kernel
theorem dX6_nth_5 : decode cX6_nth 5 = .ok (.if_icmp .ge 7, 3) := by decide +kernel
theorem dX6_nth_8 : decode cX6_nth 8 = .ok (.iload_n 1, 1) := by decide +kernel
theorem dX6_nth_9 : decode cX6_nth 9 = .ok (.goto 11, 3) := by decide +kernel
theorem dX6_nth_12 : decode cX6_nth 12 = .ok (.iconst 5, 1) := by decide +kernel
theorem dX6_nth_13 : decode cX6_nth 13 = .ok (.iload_n 1, 1) := by decide +kernel
theorem dX6_nth_14 : decode cX6_nth 14 = .ok (.iadd, 1) := by decide +kernel
theorem dX6_nth_15 : decode cX6_nth 15 = .ok (.aload_n 0, 1) := by decide +kernel
theorem dX6_nth_16 : decode cX6_nth 16 = .ok (.getfield 7, 3) := by decide +kernel
theorem dX6_nth_19 : decode cX6_nth 19 = .ok (.isub, 1) := by decide +kernel
theorem dX6_nth_20 : decode cX6_nth 20 = .ok (.ireturn, 1) := by decide +kernel
theorem dX6_judged_0 : decode cX6_judged 0 = .ok (.aload_n 0, 1) := by decide +kernel
theorem dX6_judged_1 : decode cX6_judged 1 = .ok (.getfield 7, 3) := by decide +kernel
theorem dX6_judged_4 : decode cX6_judged 4 = .ok (.aload_n 0, 1) := by decide +kernel
theorem dX6_judged_5 : decode cX6_judged 5 = .ok (.getfield 13, 3) := by decide +kernel
theorem dX6_judged_8 : decode cX6_judged 8 = .ok (.iadd, 1) := by decide +kernel
theorem dX6_judged_9 : decode cX6_judged 9 = .ok (.istore_n 1, 1) := by decide +kernel
theorem dX6_judged_10 : decode cX6_judged 10 = .ok (.iconst 0, 1) := by decide +kernel
theorem dX6_judged_11 : decode cX6_judged 11 = .ok (.istore_n 2, 1) := by decide +kernel
theorem dX6_judged_12 : decode cX6_judged 12 = .ok (.iload_n 2, 1) := by decide +kernel
theorem dX6_judged_13 : decode cX6_judged 13 = .ok (.aload_n 0, 1) := by decide +kernel
theorem dX6_judged_14 : decode cX6_judged 14 = .ok (.getfield 28, 3) := by decide +kernel
theorem dX6_judged_17 : decode cX6_judged 17 = .ok (.if_icmp .ge 34, 3) := by decide +kernel
theorem dX6_judged_20 : decode cX6_judged 20 = .ok (.iload_n 2, 1) := by decide +kernel
theorem dX6_judged_21 : decode cX6_judged 21 = .ok (.iload_n 1, 1) := by decide +kernel
theorem dX6_judged_22 : decode cX6_judged 22 = .ok (.if_icmp .ge 29, 3) := by decide +kernel
theorem dX6_judged_25 : decode cX6_judged 25 = .ok (.aload_n 0, 1) := by decide +kernel
theorem dX6_judged_26 : decode cX6_judged 26 = .ok (.aload_n 0, 1) := by decide +kernel
theorem dX6_judged_27 : decode cX6_judged 27 = .ok (.iload_n 2, 1) := by decide +kernel
theorem dX6_judged_28 : decode cX6_judged 28 = .ok (.invokevirtual 271, 3) := by decide +kernel
theorem dX6_judged_31 : decode cX6_judged 31 = .ok (.invokevirtual 223, 3) := by decide +kernel
theorem dX6_judged_34 : decode cX6_judged 34 = .ok (.aload_n 0, 1) := by decide +kernel
theorem dX6_judged_35 : decode cX6_judged 35 = .ok (.getfield 44, 3) := by decide +kernel
theorem dX6_judged_38 : decode cX6_judged 38 = .ok (.iload_n 2, 1) := by decide +kernel
theorem dX6_judged_39 : decode cX6_judged 39 = .ok (.iaload, 1) := by decide +kernel
theorem dX6_judged_40 : decode cX6_judged 40 = .ok (.if_icmp .eq 5, 3) := by decide +kernel
theorem dX6_judged_43 : decode cX6_judged 43 = .ok (.iload_n 2, 1) := by decide +kernel
theorem dX6_judged_44 : decode cX6_judged 44 = .ok (.ireturn, 1) := by decide +kernel
theorem dX6_judged_45 : decode cX6_judged 45 = .ok (.iinc 2 1, 3) := by decide +kernel
theorem dX6_judged_48 : decode cX6_judged 48 = .ok (.goto (-36), 3) := by decide +kernel
theorem dX6_judged_51 : decode cX6_judged 51 = .ok (.aload_n 0, 1) := by decide +kernel
theorem dX6_judged_52 : decode cX6_judged 52 = .ok (.getfield 28, 3) := by decide +kernel
theorem dX6_judged_55 : decode cX6_judged 55 = .ok (.iload_n 1, 1) := by decide +kernel
theorem dX6_judged_56 : decode cX6_judged 56 = .ok (.if_icmp .ge 10, 3) := by decide +kernel
theorem dX6_judged_59 : decode cX6_judged 59 = .ok (.aload_n 0, 1) := by decide +kernel
theorem dX6_judged_60 : decode cX6_judged 60 = .ok (.getfield 28, 3) := by decide +kernel
theorem dX6_judged_63 : decode cX6_judged 63 = .ok (.goto 17, 3) := by decide +kernel
theorem dX6_judged_66 : decode cX6_judged 66 = .ok (.aload_n 0, 1) := by decide +kernel
theorem dX6_judged_67 : decode cX6_judged 67 = .ok (.getfield 28, 3) := by decide +kernel
theorem dX6_judged_70 : decode cX6_judged 70 = .ok (.iload_n 1, 1) := by decide +kernel
theorem dX6_judged_71 : decode cX6_judged 71 = .ok (.if_icmp .le 7, 3) := by decide +kernel
theorem dX6_judged_74 : decode cX6_judged 74 = .ok (.iload_n 1, 1) := by decide +kernel
theorem dX6_judged_75 : decode cX6_judged 75 = .ok (.goto 5, 3) := by decide +kernel
theorem dX6_judged_78 : decode cX6_judged 78 = .ok (.bipush (-9), 2) := by decide +kernel
theorem dX6_judged_80 : decode cX6_judged 80 = .ok (.ireturn, 1) := by decide +kernel
theorem dX6_judge_0 : decode cX6_judge 0 = .ok (.aload_n 0, 1) := by decide +kernel
theorem dX6_judge_1 : decode cX6_judge 1 = .ok (.invokevirtual 274, 3) := by decide +kernel
theorem dX6_judge_4 : decode cX6_judge 4 = .ok (.istore_n 1, 1) := by decide +kernel
theorem dX6_judge_5 : decode cX6_judge 5 = .ok (.aload_n 0, 1) := by decide +kernel
theorem dX6_judge_6 : decode cX6_judge 6 = .ok (.iconst 0, 1) := by decide +kernel
theorem dX6_judge_7 : decode cX6_judge 7 = .ok (.putfield 28, 3) := by decide +kernel
theorem dX6_judge_10 : decode cX6_judge 10 = .ok (.iload_n 1, 1) := by decide +kernel
theorem dX6_judge_11 : decode cX6_judge 11 = .ok (.ireturn, 1) := by decide +kernel
theorem dX6_clear_0 : decode cX6_clear 0 = .ok (.aload_n 0, 1) := by decide +kernel
theorem dX6_clear_1 : decode cX6_clear 1 = .ok (.getfield 28, 3) := by decide +kernel
theorem dX6_clear_4 : decode cX6_clear 4 = .ok (.istore_n 1, 1) := by decide +kernel
theorem dX6_clear_5 : decode cX6_clear 5 = .ok (.aload_n 0, 1) := by decide +kernel
theorem dX6_clear_6 : decode cX6_clear 6 = .ok (.iconst 0, 1) := by decide +kernel
theorem dX6_clear_7 : decode cX6_clear 7 = .ok (.putfield 28, 3) := by decide +kernel
theorem dX6_clear_10 : decode cX6_clear 10 = .ok (.iload_n 1, 1) := by decide +kernel
theorem dX6_clear_11 : decode cX6_clear 11 = .ok (.ireturn, 1) := by decide +kernel
theorem dX6_draw_0 : decode cX6_draw 0 = .ok (.aload_n 0, 1) := by decide +kernel
theorem dX6_draw_1 : decode cX6_draw 1 = .ok (.aload_n 0, 1) := by decide +kernel
theorem dX6_draw_2 : decode cX6_draw 2 = .ok (.getfield 83, 3) := by decide +kernel
theorem dX6_draw_5 : decode cX6_draw 5 = .ok (.ldc_w 277, 3) := by decide +kernel
theorem dX6_draw_8 : decode cX6_draw 8 = .ok (.imul, 1) := by decide +kernel
theorem dX6_draw_9 : decode cX6_draw 9 = .ok (.ldc_w 278, 3) := by decide +kernel
theorem dX6_draw_12 : decode cX6_draw 12 = .ok (.iadd, 1) := by decide +kernel
theorem dX6_draw_13 : decode cX6_draw 13 = .ok (.putfield 83, 3) := by decide +kernel
theorem dX6_draw_16 : decode cX6_draw 16 = .ok (.aload_n 0, 1) := by decide +kernel
theorem dX6_draw_17 : decode cX6_draw 17 = .ok (.getfield 83, 3) := by decide +kernel
theorem dX6_draw_20 : decode cX6_draw 20 = .ok (.ldc_w 279, 3) := by decide +kernel
theorem dX6_draw_23 : decode cX6_draw 23 = .ok (.iand, 1) := by decide +kernel
theorem dX6_draw_24 : decode cX6_draw 24 = .ok (.sipush 256, 3) := by decide +kernel
theorem dX6_draw_27 : decode cX6_draw 27 = .ok (.idiv, 1) := by decide +kernel
theorem dX6_draw_28 : decode cX6_draw 28 = .ok (.iload_n 1, 1) := by decide +kernel
theorem dX6_draw_29 : decode cX6_draw 29 = .ok (.irem, 1) := by decide +kernel
theorem dX6_draw_30 : decode cX6_draw 30 = .ok (.ireturn, 1) := by decide +kernel
theorem dX6_lots_0 : decode cX6_lots 0 = .ok (.iload_n 1, 1) := by decide +kernel
theorem dX6_lots_1 : decode cX6_lots 1 = .ok (.iconst 1, 1) := by decide +kernel
theorem dX6_lots_2 : decode cX6_lots 2 = .ok (.if_icmp .ge 10, 3) := by decide +kernel
theorem dX6_lots_5 : decode cX6_lots 5 = .ok (.aload_n 0, 1) := by decide +kernel
theorem dX6_lots_6 : decode cX6_lots 6 = .ok (.bipush (-4), 2) := by decide +kernel
theorem dX6_lots_8 : decode cX6_lots 8 = .ok (.invokevirtual 128, 3) := by decide +kernel
theorem dX6_lots_11 : decode cX6_lots 11 = .ok (.ireturn, 1) := by decide +kernel
theorem dX6_lots_12 : decode cX6_lots 12 = .ok (.iload_n 1, 1) := by decide +kernel
theorem dX6_lots_13 : decode cX6_lots 13 = .ok (.bipush 20, 2) := by decide +kernel
theorem dX6_lots_15 : decode cX6_lots 15 = .ok (.if_icmp .le 10, 3) := by decide +kernel
theorem dX6_lots_18 : decode cX6_lots 18 = .ok (.aload_n 0, 1) := by decide +kernel
theorem dX6_lots_19 : decode cX6_lots 19 = .ok (.bipush (-6), 2) := by decide +kernel
theorem dX6_lots_21 : decode cX6_lots 21 = .ok (.invokevirtual 128, 3) := by decide +kernel
theorem dX6_lots_24 : decode cX6_lots 24 = .ok (.ireturn, 1) := by decide +kernel
theorem dX6_lots_25 : decode cX6_lots 25 = .ok (.iconst 0, 1) := by decide +kernel
theorem dX6_lots_26 : decode cX6_lots 26 = .ok (.istore_n 3, 1) := by decide +kernel
theorem dX6_lots_27 : decode cX6_lots 27 = .ok (.iload_n 3, 1) := by decide +kernel
theorem dX6_lots_28 : decode cX6_lots 28 = .ok (.bipush 50, 2) := by decide +kernel
theorem dX6_lots_30 : decode cX6_lots 30 = .ok (.if_icmp .ge 21, 3) := by decide +kernel
theorem dX6_lots_33 : decode cX6_lots 33 = .ok (.aload_n 0, 1) := by decide +kernel
theorem dX6_lots_34 : decode cX6_lots 34 = .ok (.getfield 86, 3) := by decide +kernel
theorem dX6_lots_37 : decode cX6_lots 37 = .ok (.iload_n 3, 1) := by decide +kernel
theorem dX6_lots_38 : decode cX6_lots 38 = .ok (.aload_n 0, 1) := by decide +kernel
theorem dX6_lots_39 : decode cX6_lots 39 = .ok (.getfield 38, 3) := by decide +kernel
theorem dX6_lots_42 : decode cX6_lots 42 = .ok (.iload_n 3, 1) := by decide +kernel
theorem dX6_lots_43 : decode cX6_lots 43 = .ok (.iaload, 1) := by decide +kernel
theorem dX6_lots_44 : decode cX6_lots 44 = .ok (.iastore, 1) := by decide +kernel
theorem dX6_lots_45 : decode cX6_lots 45 = .ok (.iinc 3 1, 3) := by decide +kernel
theorem dX6_lots_48 : decode cX6_lots 48 = .ok (.goto (-21), 3) := by decide +kernel
theorem dX6_lots_51 : decode cX6_lots 51 = .ok (.aload_n 0, 1) := by decide +kernel
theorem dX6_lots_52 : decode cX6_lots 52 = .ok (.iload_n 2, 1) := by decide +kernel
theorem dX6_lots_53 : decode cX6_lots 53 = .ok (.putfield 83, 3) := by decide +kernel
theorem dX6_lots_56 : decode cX6_lots 56 = .ok (.iconst 0, 1) := by decide +kernel
theorem dX6_lots_57 : decode cX6_lots 57 = .ok (.istore_n 3, 1) := by decide +kernel
theorem dX6_lots_58 : decode cX6_lots 58 = .ok (.iconst 0, 1) := by decide +kernel
theorem dX6_lots_59 : decode cX6_lots 59 = .ok (.istore 4, 2) := by decide +kernel
theorem dX6_lots_61 : decode cX6_lots 61 = .ok (.iload 4, 2) := by decide +kernel
theorem dX6_lots_63 : decode cX6_lots 63 = .ok (.iload_n 1, 1) := by decide +kernel
theorem dX6_lots_64 : decode cX6_lots 64 = .ok (.if_icmp .ge 94, 3) := by decide +kernel
theorem dX6_lots_67 : decode cX6_lots 67 = .ok (.iconst 0, 1) := by decide +kernel
theorem dX6_lots_68 : decode cX6_lots 68 = .ok (.istore 5, 2) := by decide +kernel
theorem dX6_lots_70 : decode cX6_lots 70 = .ok (.iload 5, 2) := by decide +kernel
theorem dX6_lots_72 : decode cX6_lots 72 = .ok (.aload_n 0, 1) := by decide +kernel
theorem dX6_lots_73 : decode cX6_lots 73 = .ok (.getfield 7, 3) := by decide +kernel
theorem dX6_lots_76 : decode cX6_lots 76 = .ok (.aload_n 0, 1) := by decide +kernel
theorem dX6_lots_77 : decode cX6_lots 77 = .ok (.getfield 13, 3) := by decide +kernel
theorem dX6_lots_80 : decode cX6_lots 80 = .ok (.iadd, 1) := by decide +kernel
theorem dX6_lots_81 : decode cX6_lots 81 = .ok (.if_icmp .ge 55, 3) := by decide +kernel
theorem dX6_lots_84 : decode cX6_lots 84 = .ok (.iconst 0, 1) := by decide +kernel
theorem dX6_lots_85 : decode cX6_lots 85 = .ok (.istore 6, 2) := by decide +kernel
theorem dX6_lots_87 : decode cX6_lots 87 = .ok (.iload 6, 2) := by decide +kernel
theorem dX6_lots_89 : decode cX6_lots 89 = .ok (.aload_n 0, 1) := by decide +kernel
theorem dX6_lots_90 : decode cX6_lots 90 = .ok (.aload_n 0, 1) := by decide +kernel
theorem dX6_lots_91 : decode cX6_lots 91 = .ok (.iload 5, 2) := by decide +kernel
theorem dX6_lots_93 : decode cX6_lots 93 = .ok (.invokevirtual 271, 3) := by decide +kernel
theorem dX6_lots_96 : decode cX6_lots 96 = .ok (.invokevirtual 206, 3) := by decide +kernel
theorem dX6_lots_99 : decode cX6_lots 99 = .ok (.if_icmp .ge 31, 3) := by decide +kernel
theorem dX6_lots_102 : decode cX6_lots 102 = .ok (.aload_n 0, 1) := by decide +kernel
theorem dX6_lots_103 : decode cX6_lots 103 = .ok (.getfield 38, 3) := by decide +kernel
theorem dX6_lots_106 : decode cX6_lots 106 = .ok (.iconst 5, 1) := by decide +kernel
theorem dX6_lots_107 : decode cX6_lots 107 = .ok (.aload_n 0, 1) := by decide +kernel
theorem dX6_lots_108 : decode cX6_lots 108 = .ok (.iload 5, 2) := by decide +kernel
theorem dX6_lots_110 : decode cX6_lots 110 = .ok (.invokevirtual 271, 3) := by decide +kernel
theorem dX6_lots_113 : decode cX6_lots 113 = .ok (.imul, 1) := by decide +kernel
theorem dX6_lots_114 : decode cX6_lots 114 = .ok (.iload 6, 2) := by decide +kernel
theorem dX6_lots_116 : decode cX6_lots 116 = .ok (.iadd, 1) := by decide +kernel
theorem dX6_lots_117 : decode cX6_lots 117 = .ok (.aload_n 0, 1) := by decide +kernel
theorem dX6_lots_118 : decode cX6_lots 118 = .ok (.bipush 10, 2) := by decide +kernel
theorem dX6_lots_120 : decode cX6_lots 120 = .ok (.invokevirtual 280, 3) := by decide +kernel
theorem dX6_lots_123 : decode cX6_lots 123 = .ok (.iastore, 1) := by decide +kernel
theorem dX6_lots_124 : decode cX6_lots 124 = .ok (.iinc 6 1, 3) := by decide +kernel
theorem dX6_lots_127 : decode cX6_lots 127 = .ok (.goto (-40), 3) := by decide +kernel
theorem dX6_lots_130 : decode cX6_lots 130 = .ok (.iinc 5 1, 3) := by decide +kernel
theorem dX6_lots_133 : decode cX6_lots 133 = .ok (.goto (-63), 3) := by decide +kernel
theorem dX6_lots_136 : decode cX6_lots 136 = .ok (.aload_n 0, 1) := by decide +kernel
theorem dX6_lots_137 : decode cX6_lots 137 = .ok (.aload_n 0, 1) := by decide +kernel
theorem dX6_lots_138 : decode cX6_lots 138 = .ok (.getfield 22, 3) := by decide +kernel
theorem dX6_lots_141 : decode cX6_lots 141 = .ok (.invokevirtual 244, 3) := by decide +kernel
theorem dX6_lots_144 : decode cX6_lots 144 = .ok (.iload_n 3, 1) := by decide +kernel
theorem dX6_lots_145 : decode cX6_lots 145 = .ok (.aload_n 0, 1) := by decide +kernel
theorem dX6_lots_146 : decode cX6_lots 146 = .ok (.iconst 0, 1) := by decide +kernel
theorem dX6_lots_147 : decode cX6_lots 147 = .ok (.invokevirtual 247, 3) := by decide +kernel
theorem dX6_lots_150 : decode cX6_lots 150 = .ok (.iadd, 1) := by decide +kernel
theorem dX6_lots_151 : decode cX6_lots 151 = .ok (.istore_n 3, 1) := by decide +kernel
theorem dX6_lots_152 : decode cX6_lots 152 = .ok (.iinc 4 1, 3) := by decide +kernel
theorem dX6_lots_155 : decode cX6_lots 155 = .ok (.goto (-94), 3) := by decide +kernel
theorem dX6_lots_158 : decode cX6_lots 158 = .ok (.iconst 0, 1) := by decide +kernel
theorem dX6_lots_159 : decode cX6_lots 159 = .ok (.istore 4, 2) := by decide +kernel
theorem dX6_lots_161 : decode cX6_lots 161 = .ok (.iload 4, 2) := by decide +kernel
theorem dX6_lots_163 : decode cX6_lots 163 = .ok (.bipush 50, 2) := by decide +kernel
theorem dX6_lots_165 : decode cX6_lots 165 = .ok (.if_icmp .ge 23, 3) := by decide +kernel
theorem dX6_lots_168 : decode cX6_lots 168 = .ok (.aload_n 0, 1) := by decide +kernel
theorem dX6_lots_169 : decode cX6_lots 169 = .ok (.getfield 38, 3) := by decide +kernel
theorem dX6_lots_172 : decode cX6_lots 172 = .ok (.iload 4, 2) := by decide +kernel
theorem dX6_lots_174 : decode cX6_lots 174 = .ok (.aload_n 0, 1) := by decide +kernel
theorem dX6_lots_175 : decode cX6_lots 175 = .ok (.getfield 86, 3) := by decide +kernel
theorem dX6_lots_178 : decode cX6_lots 178 = .ok (.iload 4, 2) := by decide +kernel
theorem dX6_lots_180 : decode cX6_lots 180 = .ok (.iaload, 1) := by decide +kernel
theorem dX6_lots_181 : decode cX6_lots 181 = .ok (.iastore, 1) := by decide +kernel
theorem dX6_lots_182 : decode cX6_lots 182 = .ok (.iinc 4 1, 3) := by decide +kernel
theorem dX6_lots_185 : decode cX6_lots 185 = .ok (.goto (-24), 3) := by decide +kernel
theorem dX6_lots_188 : decode cX6_lots 188 = .ok (.iload_n 3, 1) := by decide +kernel
theorem dX6_lots_189 : decode cX6_lots 189 = .ok (.ireturn, 1) := by decide +kernel
theorem dX6_image_0 : decode cX6_image 0 = .ok (.aload_n 0, 1) := by decide +kernel
theorem dX6_image_1 : decode cX6_image 1 = .ok (.iconst 1, 1) := by decide +kernel
theorem dX6_image_2 : decode cX6_image 2 = .ok (.putfield 89, 3) := by decide +kernel
theorem dX6_image_5 : decode cX6_image 5 = .ok (.aload_n 0, 1) := by decide +kernel
theorem dX6_image_6 : decode cX6_image 6 = .ok (.aload_n 0, 1) := by decide +kernel
theorem dX6_image_7 : decode cX6_image 7 = .ok (.getfield 7, 3) := by decide +kernel
theorem dX6_image_10 : decode cX6_image 10 = .ok (.putfield 93, 3) := by decide +kernel
theorem dX6_image_13 : decode cX6_image 13 = .ok (.aload_n 0, 1) := by decide +kernel
theorem dX6_image_14 : decode cX6_image 14 = .ok (.aload_n 0, 1) := by decide +kernel
theorem dX6_image_15 : decode cX6_image 15 = .ok (.getfield 13, 3) := by decide +kernel
theorem dX6_image_18 : decode cX6_image 18 = .ok (.putfield 96, 3) := by decide +kernel
theorem dX6_image_21 : decode cX6_image 21 = .ok (.aload_n 0, 1) := by decide +kernel
theorem dX6_image_22 : decode cX6_image 22 = .ok (.aload_n 0, 1) := by decide +kernel
theorem dX6_image_23 : decode cX6_image 23 = .ok (.getfield 16, 3) := by decide +kernel
theorem dX6_image_26 : decode cX6_image 26 = .ok (.putfield 99, 3) := by decide +kernel
theorem dX6_image_29 : decode cX6_image 29 = .ok (.aload_n 0, 1) := by decide +kernel
theorem dX6_image_30 : decode cX6_image 30 = .ok (.aload_n 0, 1) := by decide +kernel
theorem dX6_image_31 : decode cX6_image 31 = .ok (.getfield 19, 3) := by decide +kernel
theorem dX6_image_34 : decode cX6_image 34 = .ok (.putfield 102, 3) := by decide +kernel
theorem dX6_image_37 : decode cX6_image 37 = .ok (.aload_n 0, 1) := by decide +kernel
theorem dX6_image_38 : decode cX6_image 38 = .ok (.aload_n 0, 1) := by decide +kernel
theorem dX6_image_39 : decode cX6_image 39 = .ok (.getfield 22, 3) := by decide +kernel
theorem dX6_image_42 : decode cX6_image 42 = .ok (.putfield 105, 3) := by decide +kernel
theorem dX6_image_45 : decode cX6_image 45 = .ok (.iconst 0, 1) := by decide +kernel
theorem dX6_image_46 : decode cX6_image 46 = .ok (.istore_n 1, 1) := by decide +kernel
theorem dX6_image_47 : decode cX6_image 47 = .ok (.iload_n 1, 1) := by decide +kernel
theorem dX6_image_48 : decode cX6_image 48 = .ok (.bipush 10, 2) := by decide +kernel
theorem dX6_image_50 : decode cX6_image 50 = .ok (.if_icmp .ge 33, 3) := by decide +kernel
theorem dX6_image_53 : decode cX6_image 53 = .ok (.aload_n 0, 1) := by decide +kernel
theorem dX6_image_54 : decode cX6_image 54 = .ok (.getfield 108, 3) := by decide +kernel
theorem dX6_image_57 : decode cX6_image 57 = .ok (.iload_n 1, 1) := by decide +kernel
theorem dX6_image_58 : decode cX6_image 58 = .ok (.aload_n 0, 1) := by decide +kernel
theorem dX6_image_59 : decode cX6_image 59 = .ok (.getfield 31, 3) := by decide +kernel
theorem dX6_image_62 : decode cX6_image 62 = .ok (.iload_n 1, 1) := by decide +kernel
theorem dX6_image_63 : decode cX6_image 63 = .ok (.iaload, 1) := by decide +kernel
theorem dX6_image_64 : decode cX6_image 64 = .ok (.iastore, 1) := by decide +kernel
theorem dX6_image_65 : decode cX6_image 65 = .ok (.aload_n 0, 1) := by decide +kernel
theorem dX6_image_66 : decode cX6_image 66 = .ok (.getfield 111, 3) := by decide +kernel
theorem dX6_image_69 : decode cX6_image 69 = .ok (.iload_n 1, 1) := by decide +kernel
theorem dX6_image_70 : decode cX6_image 70 = .ok (.aload_n 0, 1) := by decide +kernel
theorem dX6_image_71 : decode cX6_image 71 = .ok (.getfield 35, 3) := by decide +kernel
theorem dX6_image_74 : decode cX6_image 74 = .ok (.iload_n 1, 1) := by decide +kernel
theorem dX6_image_75 : decode cX6_image 75 = .ok (.iaload, 1) := by decide +kernel
theorem dX6_image_76 : decode cX6_image 76 = .ok (.iastore, 1) := by decide +kernel
theorem dX6_image_77 : decode cX6_image 77 = .ok (.iinc 1 1, 3) := by decide +kernel
theorem dX6_image_80 : decode cX6_image 80 = .ok (.goto (-33), 3) := by decide +kernel
theorem dX6_image_83 : decode cX6_image 83 = .ok (.iconst 0, 1) := by decide +kernel
theorem dX6_image_84 : decode cX6_image 84 = .ok (.istore_n 1, 1) := by decide +kernel
theorem dX6_image_85 : decode cX6_image 85 = .ok (.iload_n 1, 1) := by decide +kernel
theorem dX6_image_86 : decode cX6_image 86 = .ok (.bipush 50, 2) := by decide +kernel
theorem dX6_image_88 : decode cX6_image 88 = .ok (.if_icmp .ge 21, 3) := by decide +kernel
theorem dX6_image_91 : decode cX6_image 91 = .ok (.aload_n 0, 1) := by decide +kernel
theorem dX6_image_92 : decode cX6_image 92 = .ok (.getfield 114, 3) := by decide +kernel
theorem dX6_image_95 : decode cX6_image 95 = .ok (.iload_n 1, 1) := by decide +kernel
theorem dX6_image_96 : decode cX6_image 96 = .ok (.aload_n 0, 1) := by decide +kernel
theorem dX6_image_97 : decode cX6_image 97 = .ok (.getfield 38, 3) := by decide +kernel
theorem dX6_image_100 : decode cX6_image 100 = .ok (.iload_n 1, 1) := by decide +kernel
theorem dX6_image_101 : decode cX6_image 101 = .ok (.iaload, 1) := by decide +kernel
theorem dX6_image_102 : decode cX6_image 102 = .ok (.iastore, 1) := by decide +kernel
theorem dX6_image_103 : decode cX6_image 103 = .ok (.iinc 1 1, 3) := by decide +kernel
theorem dX6_image_106 : decode cX6_image 106 = .ok (.goto (-21), 3) := by decide +kernel
theorem dX6_image_109 : decode cX6_image 109 = .ok (.aload_n 0, 1) := by decide +kernel
theorem dX6_image_110 : decode cX6_image 110 = .ok (.getfield 7, 3) := by decide +kernel
theorem dX6_image_113 : decode cX6_image 113 = .ok (.aload_n 0, 1) := by decide +kernel
theorem dX6_image_114 : decode cX6_image 114 = .ok (.getfield 13, 3) := by decide +kernel
theorem dX6_image_117 : decode cX6_image 117 = .ok (.iadd, 1) := by decide +kernel
theorem dX6_image_118 : decode cX6_image 118 = .ok (.ireturn, 1) := by decide +kernel
theorem dX6_on_0 : decode cX6_on 0 = .ok (.aload_n 0, 1) := by decide +kernel
theorem dX6_on_1 : decode cX6_on 1 = .ok (.getfield 89, 3) := by decide +kernel
theorem dX6_on_4 : decode cX6_on 4 = .ok (.ifCond .ne 10, 3) := by decide +kernel
theorem dX6_on_7 : decode cX6_on 7 = .ok (.aload_n 0, 1) := by decide +kernel
theorem dX6_on_8 : decode cX6_on 8 = .ok (.bipush (-3), 2) := by decide +kernel
theorem dX6_on_10 : decode cX6_on 10 = .ok (.invokevirtual 128, 3) := by decide +kernel
theorem dX6_on_13 : decode cX6_on 13 = .ok (.ireturn, 1) := by decide +kernel
theorem dX6_on_14 : decode cX6_on 14 = .ok (.aload_n 0, 1) := by decide +kernel
theorem dX6_on_15 : decode cX6_on 15 = .ok (.aload_n 0, 1) := by decide +kernel
theorem dX6_on_16 : decode cX6_on 16 = .ok (.getfield 93, 3) := by decide +kernel
theorem dX6_on_19 : decode cX6_on 19 = .ok (.putfield 7, 3) := by decide +kernel
theorem dX6_on_22 : decode cX6_on 22 = .ok (.aload_n 0, 1) := by decide +kernel
theorem dX6_on_23 : decode cX6_on 23 = .ok (.aload_n 0, 1) := by decide +kernel
theorem dX6_on_24 : decode cX6_on 24 = .ok (.getfield 96, 3) := by decide +kernel
theorem dX6_on_27 : decode cX6_on 27 = .ok (.putfield 13, 3) := by decide +kernel
theorem dX6_on_30 : decode cX6_on 30 = .ok (.aload_n 0, 1) := by decide +kernel
theorem dX6_on_31 : decode cX6_on 31 = .ok (.aload_n 0, 1) := by decide +kernel
theorem dX6_on_32 : decode cX6_on 32 = .ok (.getfield 99, 3) := by decide +kernel
theorem dX6_on_35 : decode cX6_on 35 = .ok (.putfield 16, 3) := by decide +kernel
theorem dX6_on_38 : decode cX6_on 38 = .ok (.aload_n 0, 1) := by decide +kernel
theorem dX6_on_39 : decode cX6_on 39 = .ok (.aload_n 0, 1) := by decide +kernel
theorem dX6_on_40 : decode cX6_on 40 = .ok (.getfield 102, 3) := by decide +kernel
theorem dX6_on_43 : decode cX6_on 43 = .ok (.putfield 19, 3) := by decide +kernel
theorem dX6_on_46 : decode cX6_on 46 = .ok (.aload_n 0, 1) := by decide +kernel
theorem dX6_on_47 : decode cX6_on 47 = .ok (.aload_n 0, 1) := by decide +kernel
theorem dX6_on_48 : decode cX6_on 48 = .ok (.getfield 105, 3) := by decide +kernel
theorem dX6_on_51 : decode cX6_on 51 = .ok (.putfield 22, 3) := by decide +kernel
theorem dX6_on_54 : decode cX6_on 54 = .ok (.iconst 0, 1) := by decide +kernel
theorem dX6_on_55 : decode cX6_on 55 = .ok (.istore_n 1, 1) := by decide +kernel
theorem dX6_on_56 : decode cX6_on 56 = .ok (.iload_n 1, 1) := by decide +kernel
theorem dX6_on_57 : decode cX6_on 57 = .ok (.bipush 10, 2) := by decide +kernel
theorem dX6_on_59 : decode cX6_on 59 = .ok (.if_icmp .ge 33, 3) := by decide +kernel
theorem dX6_on_62 : decode cX6_on 62 = .ok (.aload_n 0, 1) := by decide +kernel
theorem dX6_on_63 : decode cX6_on 63 = .ok (.getfield 31, 3) := by decide +kernel
theorem dX6_on_66 : decode cX6_on 66 = .ok (.iload_n 1, 1) := by decide +kernel
theorem dX6_on_67 : decode cX6_on 67 = .ok (.aload_n 0, 1) := by decide +kernel
theorem dX6_on_68 : decode cX6_on 68 = .ok (.getfield 108, 3) := by decide +kernel
theorem dX6_on_71 : decode cX6_on 71 = .ok (.iload_n 1, 1) := by decide +kernel
theorem dX6_on_72 : decode cX6_on 72 = .ok (.iaload, 1) := by decide +kernel
theorem dX6_on_73 : decode cX6_on 73 = .ok (.iastore, 1) := by decide +kernel
theorem dX6_on_74 : decode cX6_on 74 = .ok (.aload_n 0, 1) := by decide +kernel
theorem dX6_on_75 : decode cX6_on 75 = .ok (.getfield 35, 3) := by decide +kernel
theorem dX6_on_78 : decode cX6_on 78 = .ok (.iload_n 1, 1) := by decide +kernel
theorem dX6_on_79 : decode cX6_on 79 = .ok (.aload_n 0, 1) := by decide +kernel
theorem dX6_on_80 : decode cX6_on 80 = .ok (.getfield 111, 3) := by decide +kernel
theorem dX6_on_83 : decode cX6_on 83 = .ok (.iload_n 1, 1) := by decide +kernel
theorem dX6_on_84 : decode cX6_on 84 = .ok (.iaload, 1) := by decide +kernel
theorem dX6_on_85 : decode cX6_on 85 = .ok (.iastore, 1) := by decide +kernel
theorem dX6_on_86 : decode cX6_on 86 = .ok (.iinc 1 1, 3) := by decide +kernel
theorem dX6_on_89 : decode cX6_on 89 = .ok (.goto (-33), 3) := by decide +kernel
theorem dX6_on_92 : decode cX6_on 92 = .ok (.iconst 0, 1) := by decide +kernel
theorem dX6_on_93 : decode cX6_on 93 = .ok (.istore_n 1, 1) := by decide +kernel
theorem dX6_on_94 : decode cX6_on 94 = .ok (.iload_n 1, 1) := by decide +kernel
theorem dX6_on_95 : decode cX6_on 95 = .ok (.bipush 50, 2) := by decide +kernel
theorem dX6_on_97 : decode cX6_on 97 = .ok (.if_icmp .ge 21, 3) := by decide +kernel
theorem dX6_on_100 : decode cX6_on 100 = .ok (.aload_n 0, 1) := by decide +kernel
theorem dX6_on_101 : decode cX6_on 101 = .ok (.getfield 38, 3) := by decide +kernel
theorem dX6_on_104 : decode cX6_on 104 = .ok (.iload_n 1, 1) := by decide +kernel
theorem dX6_on_105 : decode cX6_on 105 = .ok (.aload_n 0, 1) := by decide +kernel
theorem dX6_on_106 : decode cX6_on 106 = .ok (.getfield 114, 3) := by decide +kernel
theorem dX6_on_109 : decode cX6_on 109 = .ok (.iload_n 1, 1) := by decide +kernel
theorem dX6_on_110 : decode cX6_on 110 = .ok (.iaload, 1) := by decide +kernel
theorem dX6_on_111 : decode cX6_on 111 = .ok (.iastore, 1) := by decide +kernel
theorem dX6_on_112 : decode cX6_on 112 = .ok (.iinc 1 1, 3) := by decide +kernel
theorem dX6_on_115 : decode cX6_on 115 = .ok (.goto (-21), 3) := by decide +kernel
theorem dX6_on_118 : decode cX6_on 118 = .ok (.aload_n 0, 1) := by decide +kernel
theorem dX6_on_119 : decode cX6_on 119 = .ok (.getfield 7, 3) := by decide +kernel
theorem dX6_on_122 : decode cX6_on 122 = .ok (.aload_n 0, 1) := by decide +kernel
theorem dX6_on_123 : decode cX6_on 123 = .ok (.getfield 13, 3) := by decide +kernel
theorem dX6_on_126 : decode cX6_on 126 = .ok (.iadd, 1) := by decide +kernel
theorem dX6_on_127 : decode cX6_on 127 = .ok (.ireturn, 1) := by decide +kernel
theorem dX6_allGaps_0 : decode cX6_allGaps 0 = .ok (.iconst 0, 1) := by decide +kernel
theorem dX6_allGaps_1 : decode cX6_allGaps 1 = .ok (.istore_n 1, 1) := by decide +kernel
theorem dX6_allGaps_2 : decode cX6_allGaps 2 = .ok (.iconst 0, 1) := by decide +kernel
theorem dX6_allGaps_3 : decode cX6_allGaps 3 = .ok (.istore_n 2, 1) := by decide +kernel
theorem dX6_allGaps_4 : decode cX6_allGaps 4 = .ok (.iload_n 2, 1) := by decide +kernel
theorem dX6_allGaps_5 : decode cX6_allGaps 5 = .ok (.bipush 10, 2) := by decide +kernel
theorem dX6_allGaps_7 : decode cX6_allGaps 7 = .ok (.if_icmp .ge 29, 3) := by decide +kernel
theorem dX6_allGaps_10 : decode cX6_allGaps 10 = .ok (.iload_n 1, 1) := by decide +kernel
theorem dX6_allGaps_11 : decode cX6_allGaps 11 = .ok (.aload_n 0, 1) := by decide +kernel
theorem dX6_allGaps_12 : decode cX6_allGaps 12 = .ok (.iload_n 2, 1) := by decide +kernel
theorem dX6_allGaps_13 : decode cX6_allGaps 13 = .ok (.invokevirtual 124, 3) := by decide +kernel
theorem dX6_allGaps_16 : decode cX6_allGaps 16 = .ok (.ifCond .eq 11, 3) := by decide +kernel
theorem dX6_allGaps_19 : decode cX6_allGaps 19 = .ok (.aload_n 0, 1) := by decide +kernel
theorem dX6_allGaps_20 : decode cX6_allGaps 20 = .ok (.iload_n 2, 1) := by decide +kernel
theorem dX6_allGaps_21 : decode cX6_allGaps 21 = .ok (.invokevirtual 213, 3) := by decide +kernel
theorem dX6_allGaps_24 : decode cX6_allGaps 24 = .ok (.goto 4, 3) := by decide +kernel
theorem dX6_allGaps_27 : decode cX6_allGaps 27 = .ok (.iconst 0, 1) := by decide +kernel
theorem dX6_allGaps_28 : decode cX6_allGaps 28 = .ok (.iadd, 1) := by decide +kernel
theorem dX6_allGaps_29 : decode cX6_allGaps 29 = .ok (.istore_n 1, 1) := by decide +kernel
theorem dX6_allGaps_30 : decode cX6_allGaps 30 = .ok (.iinc 2 1, 3) := by decide +kernel
theorem dX6_allGaps_33 : decode cX6_allGaps 33 = .ok (.goto (-29), 3) := by decide +kernel
theorem dX6_allGaps_36 : decode cX6_allGaps 36 = .ok (.iload_n 1, 1) := by decide +kernel
theorem dX6_allGaps_37 : decode cX6_allGaps 37 = .ok (.ireturn, 1) := by decide +kernel
theorem dX6_count_0 : decode cX6_count 0 = .ok (.aload_n 0, 1) := by decide +kernel
theorem dX6_count_1 : decode cX6_count 1 = .ok (.iload_n 1, 1) := by decide +kernel
theorem dX6_count_2 : decode cX6_count 2 = .ok (.bipush 11, 2) := by decide +kernel
theorem dX6_count_4 : decode cX6_count 4 = .ok (.bipush 16, 2) := by decide +kernel
theorem dX6_count_6 : decode cX6_count 6 = .ok (.invokevirtual 117, 3) := by decide +kernel
theorem dX6_count_9 : decode cX6_count 9 = .ok (.ifCond .eq 13, 3) := by decide +kernel
theorem dX6_count_12 : decode cX6_count 12 = .ok (.aload_n 0, 1) := by decide +kernel
theorem dX6_count_13 : decode cX6_count 13 = .ok (.getfield 47, 3) := by decide +kernel
theorem dX6_count_16 : decode cX6_count 16 = .ok (.iload_n 1, 1) := by decide +kernel
theorem dX6_count_17 : decode cX6_count 17 = .ok (.bipush 10, 2) := by decide +kernel
theorem dX6_count_19 : decode cX6_count 19 = .ok (.isub, 1) := by decide +kernel
theorem dX6_count_20 : decode cX6_count 20 = .ok (.iaload, 1) := by decide +kernel
theorem dX6_count_21 : decode cX6_count 21 = .ok (.ireturn, 1) := by decide +kernel
theorem dX6_count_22 : decode cX6_count 22 = .ok (.iload_n 1, 1) := by decide +kernel
theorem dX6_count_23 : decode cX6_count 23 = .ok (.tableswitch 94 0 8 #[49, 54, 59, 64, 69, 74, 79, 84, 89], 49) := by decide +kernel
theorem dX6_count_72 : decode cX6_count 72 = .ok (.aload_n 0, 1) := by decide +kernel
theorem dX6_count_73 : decode cX6_count 73 = .ok (.getfield 7, 3) := by decide +kernel
theorem dX6_count_76 : decode cX6_count 76 = .ok (.ireturn, 1) := by decide +kernel
theorem dX6_count_77 : decode cX6_count 77 = .ok (.aload_n 0, 1) := by decide +kernel
theorem dX6_count_78 : decode cX6_count 78 = .ok (.getfield 13, 3) := by decide +kernel
theorem dX6_count_81 : decode cX6_count 81 = .ok (.ireturn, 1) := by decide +kernel
theorem dX6_count_82 : decode cX6_count 82 = .ok (.aload_n 0, 1) := by decide +kernel
theorem dX6_count_83 : decode cX6_count 83 = .ok (.invokevirtual 187, 3) := by decide +kernel
theorem dX6_count_86 : decode cX6_count 86 = .ok (.ireturn, 1) := by decide +kernel
theorem dX6_count_87 : decode cX6_count 87 = .ok (.aload_n 0, 1) := by decide +kernel
theorem dX6_count_88 : decode cX6_count 88 = .ok (.getfield 16, 3) := by decide +kernel
theorem dX6_count_91 : decode cX6_count 91 = .ok (.ireturn, 1) := by decide +kernel
theorem dX6_count_92 : decode cX6_count 92 = .ok (.aload_n 0, 1) := by decide +kernel
theorem dX6_count_93 : decode cX6_count 93 = .ok (.getfield 19, 3) := by decide +kernel
theorem dX6_count_96 : decode cX6_count 96 = .ok (.ireturn, 1) := by decide +kernel
theorem dX6_count_97 : decode cX6_count 97 = .ok (.aload_n 0, 1) := by decide +kernel
theorem dX6_count_98 : decode cX6_count 98 = .ok (.getfield 22, 3) := by decide +kernel
theorem dX6_count_101 : decode cX6_count 101 = .ok (.ireturn, 1) := by decide +kernel
theorem dX6_count_102 : decode cX6_count 102 = .ok (.aload_n 0, 1) := by decide +kernel
theorem dX6_count_103 : decode cX6_count 103 = .ok (.invokevirtual 283, 3) := by decide +kernel
theorem dX6_count_106 : decode cX6_count 106 = .ok (.ireturn, 1) := by decide +kernel
theorem dX6_count_107 : decode cX6_count 107 = .ok (.aload_n 0, 1) := by decide +kernel
theorem dX6_count_108 : decode cX6_count 108 = .ok (.getfield 28, 3) := by decide +kernel
theorem dX6_count_111 : decode cX6_count 111 = .ok (.ireturn, 1) := by decide +kernel
theorem dX6_count_112 : decode cX6_count 112 = .ok (.aload_n 0, 1) := by decide +kernel
theorem dX6_count_113 : decode cX6_count 113 = .ok (.getfield 25, 3) := by decide +kernel
theorem dX6_count_116 : decode cX6_count 116 = .ok (.ireturn, 1) := by decide +kernel
theorem dX6_count_117 : decode cX6_count 117 = .ok (.bipush (-9), 2) := by decide +kernel
theorem dX6_count_119 : decode cX6_count 119 = .ok (.ireturn, 1) := by decide +kernel
theorem dJ6_bitCount_0f7a4_0 : decode cJ6_bitCount_0f7a4 0 = .ok (.iload_n 0, 1) := by decide +kernel
theorem dJ6_bitCount_0f7a4_1 : decode cJ6_bitCount_0f7a4 1 = .ok (.iload_n 0, 1) := by decide +kernel
theorem dJ6_bitCount_0f7a4_2 : decode cJ6_bitCount_0f7a4 2 = .ok (.iconst 1, 1) := by decide +kernel
theorem dJ6_bitCount_0f7a4_3 : decode cJ6_bitCount_0f7a4 3 = .ok (.iushr, 1) := by decide +kernel
theorem dJ6_bitCount_0f7a4_4 : decode cJ6_bitCount_0f7a4 4 = .ok (.ldc_w 265, 3) := by decide +kernel
theorem dJ6_bitCount_0f7a4_7 : decode cJ6_bitCount_0f7a4 7 = .ok (.iand, 1) := by decide +kernel
theorem dJ6_bitCount_0f7a4_8 : decode cJ6_bitCount_0f7a4 8 = .ok (.isub, 1) := by decide +kernel
theorem dJ6_bitCount_0f7a4_9 : decode cJ6_bitCount_0f7a4 9 = .ok (.istore_n 0, 1) := by decide +kernel
theorem dJ6_bitCount_0f7a4_10 : decode cJ6_bitCount_0f7a4 10 = .ok (.iload_n 0, 1) := by decide +kernel
theorem dJ6_bitCount_0f7a4_11 : decode cJ6_bitCount_0f7a4 11 = .ok (.ldc_w 266, 3) := by decide +kernel
theorem dJ6_bitCount_0f7a4_14 : decode cJ6_bitCount_0f7a4 14 = .ok (.iand, 1) := by decide +kernel
theorem dJ6_bitCount_0f7a4_15 : decode cJ6_bitCount_0f7a4 15 = .ok (.iload_n 0, 1) := by decide +kernel
theorem dJ6_bitCount_0f7a4_16 : decode cJ6_bitCount_0f7a4 16 = .ok (.iconst 2, 1) := by decide +kernel
theorem dJ6_bitCount_0f7a4_17 : decode cJ6_bitCount_0f7a4 17 = .ok (.iushr, 1) := by decide +kernel
theorem dJ6_bitCount_0f7a4_18 : decode cJ6_bitCount_0f7a4 18 = .ok (.ldc_w 266, 3) := by decide +kernel
theorem dJ6_bitCount_0f7a4_21 : decode cJ6_bitCount_0f7a4 21 = .ok (.iand, 1) := by decide +kernel
theorem dJ6_bitCount_0f7a4_22 : decode cJ6_bitCount_0f7a4 22 = .ok (.iadd, 1) := by decide +kernel
theorem dJ6_bitCount_0f7a4_23 : decode cJ6_bitCount_0f7a4 23 = .ok (.istore_n 0, 1) := by decide +kernel
theorem dJ6_bitCount_0f7a4_24 : decode cJ6_bitCount_0f7a4 24 = .ok (.iload_n 0, 1) := by decide +kernel
theorem dJ6_bitCount_0f7a4_25 : decode cJ6_bitCount_0f7a4 25 = .ok (.iload_n 0, 1) := by decide +kernel
theorem dJ6_bitCount_0f7a4_26 : decode cJ6_bitCount_0f7a4 26 = .ok (.iconst 4, 1) := by decide +kernel
theorem dJ6_bitCount_0f7a4_27 : decode cJ6_bitCount_0f7a4 27 = .ok (.iushr, 1) := by decide +kernel
theorem dJ6_bitCount_0f7a4_28 : decode cJ6_bitCount_0f7a4 28 = .ok (.iadd, 1) := by decide +kernel
theorem dJ6_bitCount_0f7a4_29 : decode cJ6_bitCount_0f7a4 29 = .ok (.ldc_w 267, 3) := by decide +kernel
theorem dJ6_bitCount_0f7a4_32 : decode cJ6_bitCount_0f7a4 32 = .ok (.iand, 1) := by decide +kernel
theorem dJ6_bitCount_0f7a4_33 : decode cJ6_bitCount_0f7a4 33 = .ok (.istore_n 0, 1) := by decide +kernel
theorem dJ6_bitCount_0f7a4_34 : decode cJ6_bitCount_0f7a4 34 = .ok (.iload_n 0, 1) := by decide +kernel
theorem dJ6_bitCount_0f7a4_35 : decode cJ6_bitCount_0f7a4 35 = .ok (.iload_n 0, 1) := by decide +kernel
theorem dJ6_bitCount_0f7a4_36 : decode cJ6_bitCount_0f7a4 36 = .ok (.bipush 8, 2) := by decide +kernel
theorem dJ6_bitCount_0f7a4_38 : decode cJ6_bitCount_0f7a4 38 = .ok (.iushr, 1) := by decide +kernel
theorem dJ6_bitCount_0f7a4_39 : decode cJ6_bitCount_0f7a4 39 = .ok (.iadd, 1) := by decide +kernel
theorem dJ6_bitCount_0f7a4_40 : decode cJ6_bitCount_0f7a4 40 = .ok (.istore_n 0, 1) := by decide +kernel
theorem dJ6_bitCount_0f7a4_41 : decode cJ6_bitCount_0f7a4 41 = .ok (.iload_n 0, 1) := by decide +kernel
theorem dJ6_bitCount_0f7a4_42 : decode cJ6_bitCount_0f7a4 42 = .ok (.iload_n 0, 1) := by decide +kernel
theorem dJ6_bitCount_0f7a4_43 : decode cJ6_bitCount_0f7a4 43 = .ok (.bipush 16, 2) := by decide +kernel
theorem dJ6_bitCount_0f7a4_45 : decode cJ6_bitCount_0f7a4 45 = .ok (.iushr, 1) := by decide +kernel
theorem dJ6_bitCount_0f7a4_46 : decode cJ6_bitCount_0f7a4 46 = .ok (.iadd, 1) := by decide +kernel
theorem dJ6_bitCount_0f7a4_47 : decode cJ6_bitCount_0f7a4 47 = .ok (.istore_n 0, 1) := by decide +kernel
theorem dJ6_bitCount_0f7a4_48 : decode cJ6_bitCount_0f7a4 48 = .ok (.iload_n 0, 1) := by decide +kernel
theorem dJ6_bitCount_0f7a4_49 : decode cJ6_bitCount_0f7a4 49 = .ok (.bipush 63, 2) := by decide +kernel
theorem dJ6_bitCount_0f7a4_51 : decode cJ6_bitCount_0f7a4 51 = .ok (.iand, 1) := by decide +kernel
theorem dJ6_bitCount_0f7a4_52 : decode cJ6_bitCount_0f7a4 52 = .ok (.ireturn, 1) := by decide +kernel
theorem dJ9_floorMod_7cf53_0 : decode cJ9_floorMod_7cf53 0 = .ok (.iload_n 0, 1) := by decide +kernel
theorem dJ9_floorMod_7cf53_1 : decode cJ9_floorMod_7cf53 1 = .ok (.iload_n 1, 1) := by decide +kernel
theorem dJ9_floorMod_7cf53_2 : decode cJ9_floorMod_7cf53 2 = .ok (.irem, 1) := by decide +kernel
theorem dJ9_floorMod_7cf53_3 : decode cJ9_floorMod_7cf53 3 = .ok (.istore_n 2, 1) := by decide +kernel
theorem dJ9_floorMod_7cf53_4 : decode cJ9_floorMod_7cf53 4 = .ok (.iload_n 0, 1) := by decide +kernel
theorem dJ9_floorMod_7cf53_5 : decode cJ9_floorMod_7cf53 5 = .ok (.iload_n 1, 1) := by decide +kernel
theorem dJ9_floorMod_7cf53_6 : decode cJ9_floorMod_7cf53 6 = .ok (.ixor, 1) := by decide +kernel
theorem dJ9_floorMod_7cf53_7 : decode cJ9_floorMod_7cf53 7 = .ok (.ifCond .ge 11, 3) := by decide +kernel
theorem dJ9_floorMod_7cf53_10 : decode cJ9_floorMod_7cf53 10 = .ok (.iload_n 2, 1) := by decide +kernel
theorem dJ9_floorMod_7cf53_11 : decode cJ9_floorMod_7cf53 11 = .ok (.ifCond .eq 7, 3) := by decide +kernel
theorem dJ9_floorMod_7cf53_14 : decode cJ9_floorMod_7cf53 14 = .ok (.iload_n 2, 1) := by decide +kernel
theorem dJ9_floorMod_7cf53_15 : decode cJ9_floorMod_7cf53 15 = .ok (.iload_n 1, 1) := by decide +kernel
theorem dJ9_floorMod_7cf53_16 : decode cJ9_floorMod_7cf53 16 = .ok (.iadd, 1) := by decide +kernel
theorem dJ9_floorMod_7cf53_17 : decode cJ9_floorMod_7cf53 17 = .ok (.ireturn, 1) := by decide +kernel
theorem dJ9_floorMod_7cf53_18 : decode cJ9_floorMod_7cf53 18 = .ok (.iload_n 2, 1) := by decide +kernel
theorem dJ9_floorMod_7cf53_19 : decode cJ9_floorMod_7cf53 19 = .ok (.ireturn, 1) := by decide +kernel
theorem dJ9_max_7cf53_0 : decode cJ9_max_7cf53 0 = .ok (.iload_n 0, 1) := by decide +kernel
theorem dJ9_max_7cf53_1 : decode cJ9_max_7cf53 1 = .ok (.iload_n 1, 1) := by decide +kernel
theorem dJ9_max_7cf53_2 : decode cJ9_max_7cf53 2 = .ok (.if_icmp .lt 7, 3) := by decide +kernel
theorem dJ9_max_7cf53_5 : decode cJ9_max_7cf53 5 = .ok (.iload_n 0, 1) := by decide +kernel
theorem dJ9_max_7cf53_6 : decode cJ9_max_7cf53 6 = .ok (.goto 4, 3) := by decide +kernel
theorem dJ9_max_7cf53_9 : decode cJ9_max_7cf53 9 = .ok (.iload_n 1, 1) := by decide +kernel
theorem dJ9_max_7cf53_10 : decode cJ9_max_7cf53 10 = .ok (.ireturn, 1) := by decide +kernel
theorem dJ9_min_7cf53_0 : decode cJ9_min_7cf53 0 = .ok (.iload_n 0, 1) := by decide +kernel
theorem dJ9_min_7cf53_1 : decode cJ9_min_7cf53 1 = .ok (.iload_n 1, 1) := by decide +kernel
theorem dJ9_min_7cf53_2 : decode cJ9_min_7cf53 2 = .ok (.if_icmp .gt 7, 3) := by decide +kernel
theorem dJ9_min_7cf53_5 : decode cJ9_min_7cf53 5 = .ok (.iload_n 0, 1) := by decide +kernel
theorem dJ9_min_7cf53_6 : decode cJ9_min_7cf53 6 = .ok (.goto 4, 3) := by decide +kernel
theorem dJ9_min_7cf53_9 : decode cJ9_min_7cf53 9 = .ok (.iload_n 1, 1) := by decide +kernel
theorem dJ9_min_7cf53_10 : decode cJ9_min_7cf53 10 = .ok (.ireturn, 1) := by decide +kernel
theorem dJ0_length_8abf5_0 : decode cJ0_length_8abf5 0 = .ok (.aload_n 0, 1) := by decide +kernel
theorem dJ0_length_8abf5_1 : decode cJ0_length_8abf5 1 = .ok (.getfield 9, 3) := by decide +kernel
theorem dJ0_length_8abf5_4 : decode cJ0_length_8abf5 4 = .ok (.arraylength, 1) := by decide +kernel
theorem dJ0_length_8abf5_5 : decode cJ0_length_8abf5 5 = .ok (.aload_n 0, 1) := by decide +kernel
theorem dJ0_length_8abf5_6 : decode cJ0_length_8abf5 6 = .ok (.invokevirtual 335, 3) := by decide +kernel
theorem dJ0_length_8abf5_9 : decode cJ0_length_8abf5 9 = .ok (.ishr, 1) := by decide +kernel
theorem dJ0_length_8abf5_10 : decode cJ0_length_8abf5 10 = .ok (.ireturn, 1) := by decide +kernel
theorem dJ0_isEmpty_aae02_0 : decode cJ0_isEmpty_aae02 0 = .ok (.aload_n 0, 1) := by decide +kernel
theorem dJ0_isEmpty_aae02_1 : decode cJ0_isEmpty_aae02 1 = .ok (.getfield 9, 3) := by decide +kernel
theorem dJ0_isEmpty_aae02_4 : decode cJ0_isEmpty_aae02 4 = .ok (.arraylength, 1) := by decide +kernel
theorem dJ0_isEmpty_aae02_5 : decode cJ0_isEmpty_aae02 5 = .ok (.ifCond .ne 7, 3) := by decide +kernel
theorem dJ0_isEmpty_aae02_8 : decode cJ0_isEmpty_aae02 8 = .ok (.iconst 1, 1) := by decide +kernel
theorem dJ0_isEmpty_aae02_9 : decode cJ0_isEmpty_aae02 9 = .ok (.goto 4, 3) := by decide +kernel
theorem dJ0_isEmpty_aae02_12 : decode cJ0_isEmpty_aae02 12 = .ok (.iconst 0, 1) := by decide +kernel
theorem dJ0_isEmpty_aae02_13 : decode cJ0_isEmpty_aae02 13 = .ok (.ireturn, 1) := by decide +kernel
theorem dJ0_charAt_5068e_0 : decode cJ0_charAt_5068e 0 = .ok (.aload_n 0, 1) := by decide +kernel
theorem dJ0_charAt_5068e_1 : decode cJ0_charAt_5068e 1 = .ok (.invokevirtual 492, 3) := by decide +kernel
theorem dJ0_charAt_5068e_4 : decode cJ0_charAt_5068e 4 = .ok (.ifCond .eq 12, 3) := by decide +kernel
theorem dJ0_charAt_5068e_7 : decode cJ0_charAt_5068e 7 = .ok (.aload_n 0, 1) := by decide +kernel
theorem dJ0_charAt_5068e_8 : decode cJ0_charAt_5068e 8 = .ok (.getfield 9, 3) := by decide +kernel
theorem dJ0_charAt_5068e_11 : decode cJ0_charAt_5068e 11 = .ok (.iload_n 1, 1) := by decide +kernel
theorem dJ0_charAt_5068e_12 : decode cJ0_charAt_5068e 12 = .ok (.invokestatic 495, 3) := by decide +kernel
theorem dJ0_charAt_5068e_15 : decode cJ0_charAt_5068e 15 = .ok (.ireturn, 1) := by decide +kernel
theorem dJ0_charAt_5068e_16 : decode cJ0_charAt_5068e 16 = .ok (.aload_n 0, 1) := by decide +kernel
theorem dJ0_charAt_5068e_17 : decode cJ0_charAt_5068e 17 = .ok (.getfield 9, 3) := by decide +kernel
theorem dJ0_charAt_5068e_20 : decode cJ0_charAt_5068e 20 = .ok (.iload_n 1, 1) := by decide +kernel
theorem dJ0_charAt_5068e_21 : decode cJ0_charAt_5068e 21 = .ok (.invokestatic 498, 3) := by decide +kernel
theorem dJ0_charAt_5068e_24 : decode cJ0_charAt_5068e 24 = .ok (.ireturn, 1) := by decide +kernel
theorem dJ0_indexOf_0f7a4_0 : decode cJ0_indexOf_0f7a4 0 = .ok (.aload_n 0, 1) := by decide +kernel
theorem dJ0_indexOf_0f7a4_1 : decode cJ0_indexOf_0f7a4 1 = .ok (.iload_n 1, 1) := by decide +kernel
theorem dJ0_indexOf_0f7a4_2 : decode cJ0_indexOf_0f7a4 2 = .ok (.iconst 0, 1) := by decide +kernel
theorem dJ0_indexOf_0f7a4_3 : decode cJ0_indexOf_0f7a4 3 = .ok (.invokevirtual 633, 3) := by decide +kernel
theorem dJ0_indexOf_0f7a4_6 : decode cJ0_indexOf_0f7a4 6 = .ok (.ireturn, 1) := by decide +kernel
theorem dJ0_indexOf_7cf53_0 : decode cJ0_indexOf_7cf53 0 = .ok (.aload_n 0, 1) := by decide +kernel
theorem dJ0_indexOf_7cf53_1 : decode cJ0_indexOf_7cf53 1 = .ok (.invokevirtual 492, 3) := by decide +kernel
theorem dJ0_indexOf_7cf53_4 : decode cJ0_indexOf_7cf53 4 = .ok (.ifCond .eq 19, 3) := by decide +kernel
theorem dJ0_indexOf_7cf53_7 : decode cJ0_indexOf_7cf53 7 = .ok (.aload_n 0, 1) := by decide +kernel
theorem dJ0_indexOf_7cf53_8 : decode cJ0_indexOf_7cf53 8 = .ok (.getfield 9, 3) := by decide +kernel
theorem dJ0_indexOf_7cf53_11 : decode cJ0_indexOf_7cf53 11 = .ok (.iload_n 1, 1) := by decide +kernel
theorem dJ0_indexOf_7cf53_12 : decode cJ0_indexOf_7cf53 12 = .ok (.iload_n 2, 1) := by decide +kernel
theorem dJ0_indexOf_7cf53_13 : decode cJ0_indexOf_7cf53 13 = .ok (.aload_n 0, 1) := by decide +kernel
theorem dJ0_indexOf_7cf53_14 : decode cJ0_indexOf_7cf53 14 = .ok (.invokevirtual 505, 3) := by decide +kernel
theorem dJ0_indexOf_7cf53_17 : decode cJ0_indexOf_7cf53 17 = .ok (.invokestatic 637, 3) := by decide +kernel
theorem dJ0_indexOf_7cf53_20 : decode cJ0_indexOf_7cf53 20 = .ok (.goto 16, 3) := by decide +kernel
theorem dJ0_indexOf_7cf53_23 : decode cJ0_indexOf_7cf53 23 = .ok (.aload_n 0, 1) := by decide +kernel
theorem dJ0_indexOf_7cf53_24 : decode cJ0_indexOf_7cf53 24 = .ok (.getfield 9, 3) := by decide +kernel
theorem dJ0_indexOf_7cf53_27 : decode cJ0_indexOf_7cf53 27 = .ok (.iload_n 1, 1) := by decide +kernel
theorem dJ0_indexOf_7cf53_28 : decode cJ0_indexOf_7cf53 28 = .ok (.iload_n 2, 1) := by decide +kernel
theorem dJ0_indexOf_7cf53_29 : decode cJ0_indexOf_7cf53 29 = .ok (.aload_n 0, 1) := by decide +kernel
theorem dJ0_indexOf_7cf53_30 : decode cJ0_indexOf_7cf53 30 = .ok (.invokevirtual 505, 3) := by decide +kernel
theorem dJ0_indexOf_7cf53_33 : decode cJ0_indexOf_7cf53 33 = .ok (.invokestatic 640, 3) := by decide +kernel
theorem dJ0_indexOf_7cf53_36 : decode cJ0_indexOf_7cf53 36 = .ok (.ireturn, 1) := by decide +kernel
theorem dJ0_coder_7d493_0 : decode cJ0_coder_7d493 0 = .ok (.getstatic 38, 3) := by decide +kernel
theorem dJ0_coder_7d493_3 : decode cJ0_coder_7d493 3 = .ok (.ifCond .eq 10, 3) := by decide +kernel
theorem dJ0_coder_7d493_6 : decode cJ0_coder_7d493 6 = .ok (.aload_n 0, 1) := by decide +kernel
theorem dJ0_coder_7d493_7 : decode cJ0_coder_7d493 7 = .ok (.getfield 15, 3) := by decide +kernel
theorem dJ0_coder_7d493_10 : decode cJ0_coder_7d493 10 = .ok (.goto 4, 3) := by decide +kernel
theorem dJ0_coder_7d493_13 : decode cJ0_coder_7d493 13 = .ok (.iconst 1, 1) := by decide +kernel
theorem dJ0_coder_7d493_14 : decode cJ0_coder_7d493 14 = .ok (.ireturn, 1) := by decide +kernel
theorem dJ0_isLatin1_aae02_0 : decode cJ0_isLatin1_aae02 0 = .ok (.getstatic 38, 3) := by decide +kernel
theorem dJ0_isLatin1_aae02_3 : decode cJ0_isLatin1_aae02 3 = .ok (.ifCond .eq 14, 3) := by decide +kernel
theorem dJ0_isLatin1_aae02_6 : decode cJ0_isLatin1_aae02 6 = .ok (.aload_n 0, 1) := by decide +kernel
theorem dJ0_isLatin1_aae02_7 : decode cJ0_isLatin1_aae02 7 = .ok (.getfield 15, 3) := by decide +kernel
theorem dJ0_isLatin1_aae02_10 : decode cJ0_isLatin1_aae02 10 = .ok (.ifCond .ne 7, 3) := by decide +kernel
theorem dJ0_isLatin1_aae02_13 : decode cJ0_isLatin1_aae02 13 = .ok (.iconst 1, 1) := by decide +kernel
theorem dJ0_isLatin1_aae02_14 : decode cJ0_isLatin1_aae02 14 = .ok (.goto 4, 3) := by decide +kernel
theorem dJ0_isLatin1_aae02_17 : decode cJ0_isLatin1_aae02 17 = .ok (.iconst 0, 1) := by decide +kernel
theorem dJ0_isLatin1_aae02_18 : decode cJ0_isLatin1_aae02 18 = .ok (.ireturn, 1) := by decide +kernel
theorem dJ0_checkIndex_df160_0 : decode cJ0_checkIndex_df160 0 = .ok (.iload_n 0, 1) := by decide +kernel
theorem dJ0_checkIndex_df160_1 : decode cJ0_checkIndex_df160 1 = .ok (.iload_n 1, 1) := by decide +kernel
theorem dJ0_checkIndex_df160_2 : decode cJ0_checkIndex_df160 2 = .ok (.getstatic 1053, 3) := by decide +kernel
theorem dJ0_checkIndex_df160_5 : decode cJ0_checkIndex_df160 5 = .ok (.invokestatic 1059, 3) := by decide +kernel
theorem dJ0_checkIndex_df160_8 : decode cJ0_checkIndex_df160 8 = .ok (.pop, 1) := by decide +kernel
theorem dJ0_checkIndex_df160_9 : decode cJ0_checkIndex_df160 9 = .ok (.return_, 1) := by decide +kernel
theorem dJ1_charAt_3b067_0 : decode cJ1_charAt_3b067 0 = .ok (.iload_n 1, 1) := by decide +kernel
theorem dJ1_charAt_3b067_1 : decode cJ1_charAt_3b067 1 = .ok (.aload_n 0, 1) := by decide +kernel
theorem dJ1_charAt_3b067_2 : decode cJ1_charAt_3b067 2 = .ok (.arraylength, 1) := by decide +kernel
theorem dJ1_charAt_3b067_3 : decode cJ1_charAt_3b067 3 = .ok (.invokestatic 9, 3) := by decide +kernel
theorem dJ1_charAt_3b067_6 : decode cJ1_charAt_3b067 6 = .ok (.aload_n 0, 1) := by decide +kernel
theorem dJ1_charAt_3b067_7 : decode cJ1_charAt_3b067 7 = .ok (.iload_n 1, 1) := by decide +kernel
theorem dJ1_charAt_3b067_8 : decode cJ1_charAt_3b067 8 = .ok (.baload, 1) := by decide +kernel
theorem dJ1_charAt_3b067_9 : decode cJ1_charAt_3b067 9 = .ok (.sipush 255, 3) := by decide +kernel
theorem dJ1_charAt_3b067_12 : decode cJ1_charAt_3b067 12 = .ok (.iand, 1) := by decide +kernel
theorem dJ1_charAt_3b067_13 : decode cJ1_charAt_3b067 13 = .ok (.i2c, 1) := by decide +kernel
theorem dJ1_charAt_3b067_14 : decode cJ1_charAt_3b067 14 = .ok (.ireturn, 1) := by decide +kernel
theorem dJ1_canEncode_9a6ad_0 : decode cJ1_canEncode_9a6ad 0 = .ok (.iload_n 0, 1) := by decide +kernel
theorem dJ1_canEncode_9a6ad_1 : decode cJ1_canEncode_9a6ad 1 = .ok (.ifCond .lt 14, 3) := by decide +kernel
theorem dJ1_canEncode_9a6ad_4 : decode cJ1_canEncode_9a6ad 4 = .ok (.iload_n 0, 1) := by decide +kernel
theorem dJ1_canEncode_9a6ad_5 : decode cJ1_canEncode_9a6ad 5 = .ok (.sipush 255, 3) := by decide +kernel
theorem dJ1_canEncode_9a6ad_8 : decode cJ1_canEncode_9a6ad 8 = .ok (.if_icmp .gt 7, 3) := by decide +kernel
theorem dJ1_canEncode_9a6ad_11 : decode cJ1_canEncode_9a6ad 11 = .ok (.iconst 1, 1) := by decide +kernel
theorem dJ1_canEncode_9a6ad_12 : decode cJ1_canEncode_9a6ad 12 = .ok (.goto 4, 3) := by decide +kernel
theorem dJ1_canEncode_9a6ad_15 : decode cJ1_canEncode_9a6ad 15 = .ok (.iconst 0, 1) := by decide +kernel
theorem dJ1_canEncode_9a6ad_16 : decode cJ1_canEncode_9a6ad 16 = .ok (.ireturn, 1) := by decide +kernel
theorem dJ1_indexOf_4cfef_0 : decode cJ1_indexOf_4cfef 0 = .ok (.iload_n 1, 1) := by decide +kernel
theorem dJ1_indexOf_4cfef_1 : decode cJ1_indexOf_4cfef 1 = .ok (.invokestatic 88, 3) := by decide +kernel
theorem dJ1_indexOf_4cfef_4 : decode cJ1_indexOf_4cfef 4 = .ok (.ifCond .ne 5, 3) := by decide +kernel
theorem dJ1_indexOf_4cfef_7 : decode cJ1_indexOf_4cfef 7 = .ok (.iconst (-1), 1) := by decide +kernel
theorem dJ1_indexOf_4cfef_8 : decode cJ1_indexOf_4cfef 8 = .ok (.ireturn, 1) := by decide +kernel
theorem dJ1_indexOf_4cfef_9 : decode cJ1_indexOf_4cfef 9 = .ok (.iload_n 2, 1) := by decide +kernel
theorem dJ1_indexOf_4cfef_10 : decode cJ1_indexOf_4cfef 10 = .ok (.iconst 0, 1) := by decide +kernel
theorem dJ1_indexOf_4cfef_11 : decode cJ1_indexOf_4cfef 11 = .ok (.invokestatic 92, 3) := by decide +kernel
theorem dJ1_indexOf_4cfef_14 : decode cJ1_indexOf_4cfef 14 = .ok (.istore_n 2, 1) := by decide +kernel
theorem dJ1_indexOf_4cfef_15 : decode cJ1_indexOf_4cfef 15 = .ok (.iload_n 3, 1) := by decide +kernel
theorem dJ1_indexOf_4cfef_16 : decode cJ1_indexOf_4cfef 16 = .ok (.aload_n 0, 1) := by decide +kernel
theorem dJ1_indexOf_4cfef_17 : decode cJ1_indexOf_4cfef 17 = .ok (.arraylength, 1) := by decide +kernel
theorem dJ1_indexOf_4cfef_18 : decode cJ1_indexOf_4cfef 18 = .ok (.invokestatic 38, 3) := by decide +kernel
theorem dJ1_indexOf_4cfef_21 : decode cJ1_indexOf_4cfef 21 = .ok (.istore_n 3, 1) := by decide +kernel
theorem dJ1_indexOf_4cfef_22 : decode cJ1_indexOf_4cfef 22 = .ok (.iload_n 2, 1) := by decide +kernel
theorem dJ1_indexOf_4cfef_23 : decode cJ1_indexOf_4cfef 23 = .ok (.iload_n 3, 1) := by decide +kernel
theorem dJ1_indexOf_4cfef_24 : decode cJ1_indexOf_4cfef 24 = .ok (.if_icmp .lt 5, 3) := by decide +kernel
theorem dJ1_indexOf_4cfef_27 : decode cJ1_indexOf_4cfef 27 = .ok (.iconst (-1), 1) := by decide +kernel
theorem dJ1_indexOf_4cfef_28 : decode cJ1_indexOf_4cfef 28 = .ok (.ireturn, 1) := by decide +kernel
theorem dJ1_indexOf_4cfef_29 : decode cJ1_indexOf_4cfef 29 = .ok (.aload_n 0, 1) := by decide +kernel
theorem dJ1_indexOf_4cfef_30 : decode cJ1_indexOf_4cfef 30 = .ok (.iload_n 1, 1) := by decide +kernel
theorem dJ1_indexOf_4cfef_31 : decode cJ1_indexOf_4cfef 31 = .ok (.iload_n 2, 1) := by decide +kernel
theorem dJ1_indexOf_4cfef_32 : decode cJ1_indexOf_4cfef 32 = .ok (.iload_n 3, 1) := by decide +kernel
theorem dJ1_indexOf_4cfef_33 : decode cJ1_indexOf_4cfef 33 = .ok (.invokestatic 95, 3) := by decide +kernel
theorem dJ1_indexOf_4cfef_36 : decode cJ1_indexOf_4cfef 36 = .ok (.ireturn, 1) := by decide +kernel
theorem dJ1_indexOfChar_4cfef_0 : decode cJ1_indexOfChar_4cfef 0 = .ok (.iload_n 1, 1) := by decide +kernel
theorem dJ1_indexOfChar_4cfef_1 : decode cJ1_indexOfChar_4cfef 1 = .ok (.i2b, 1) := by decide +kernel
theorem dJ1_indexOfChar_4cfef_2 : decode cJ1_indexOfChar_4cfef 2 = .ok (.istore 4, 2) := by decide +kernel
theorem dJ1_indexOfChar_4cfef_4 : decode cJ1_indexOfChar_4cfef 4 = .ok (.iload_n 2, 1) := by decide +kernel
theorem dJ1_indexOfChar_4cfef_5 : decode cJ1_indexOfChar_4cfef 5 = .ok (.istore 5, 2) := by decide +kernel
theorem dJ1_indexOfChar_4cfef_7 : decode cJ1_indexOfChar_4cfef 7 = .ok (.iload 5, 2) := by decide +kernel
theorem dJ1_indexOfChar_4cfef_9 : decode cJ1_indexOfChar_4cfef 9 = .ok (.iload_n 3, 1) := by decide +kernel
theorem dJ1_indexOfChar_4cfef_10 : decode cJ1_indexOfChar_4cfef 10 = .ok (.if_icmp .ge 21, 3) := by decide +kernel
theorem dJ1_indexOfChar_4cfef_13 : decode cJ1_indexOfChar_4cfef 13 = .ok (.aload_n 0, 1) := by decide +kernel
theorem dJ1_indexOfChar_4cfef_14 : decode cJ1_indexOfChar_4cfef 14 = .ok (.iload 5, 2) := by decide +kernel
theorem dJ1_indexOfChar_4cfef_16 : decode cJ1_indexOfChar_4cfef 16 = .ok (.baload, 1) := by decide +kernel
theorem dJ1_indexOfChar_4cfef_17 : decode cJ1_indexOfChar_4cfef 17 = .ok (.iload 4, 2) := by decide +kernel
theorem dJ1_indexOfChar_4cfef_19 : decode cJ1_indexOfChar_4cfef 19 = .ok (.if_icmp .ne 6, 3) := by decide +kernel
theorem dJ1_indexOfChar_4cfef_22 : decode cJ1_indexOfChar_4cfef 22 = .ok (.iload 5, 2) := by decide +kernel
theorem dJ1_indexOfChar_4cfef_24 : decode cJ1_indexOfChar_4cfef 24 = .ok (.ireturn, 1) := by decide +kernel
theorem dJ1_indexOfChar_4cfef_25 : decode cJ1_indexOfChar_4cfef 25 = .ok (.iinc 5 1, 3) := by decide +kernel
theorem dJ1_indexOfChar_4cfef_28 : decode cJ1_indexOfChar_4cfef 28 = .ok (.goto (-21), 3) := by decide +kernel
theorem dJ1_indexOfChar_4cfef_31 : decode cJ1_indexOfChar_4cfef 31 = .ok (.iconst (-1), 1) := by decide +kernel
theorem dJ1_indexOfChar_4cfef_32 : decode cJ1_indexOfChar_4cfef 32 = .ok (.ireturn, 1) := by decide +kernel
theorem dJ3_checkIndex_8e157_0 : decode cJ3_checkIndex_8e157 0 = .ok (.iload_n 0, 1) := by decide +kernel
theorem dJ3_checkIndex_8e157_1 : decode cJ3_checkIndex_8e157 1 = .ok (.ifCond .lt 8, 3) := by decide +kernel
theorem dJ3_checkIndex_8e157_4 : decode cJ3_checkIndex_8e157 4 = .ok (.iload_n 0, 1) := by decide +kernel
theorem dJ3_checkIndex_8e157_5 : decode cJ3_checkIndex_8e157 5 = .ok (.iload_n 1, 1) := by decide +kernel
theorem dJ3_checkIndex_8e157_6 : decode cJ3_checkIndex_8e157 6 = .ok (.if_icmp .lt 10, 3) := by decide +kernel
theorem dJ3_checkIndex_8e157_9 : decode cJ3_checkIndex_8e157 9 = .ok (.aload_n 2, 1) := by decide +kernel
theorem dJ3_checkIndex_8e157_10 : decode cJ3_checkIndex_8e157 10 = .ok (.iload_n 0, 1) := by decide +kernel
theorem dJ3_checkIndex_8e157_11 : decode cJ3_checkIndex_8e157 11 = .ok (.iload_n 1, 1) := by decide +kernel
theorem dJ3_checkIndex_8e157_12 : decode cJ3_checkIndex_8e157 12 = .ok (.invokestatic 95, 3) := by decide +kernel
theorem dJ3_checkIndex_8e157_15 : decode cJ3_checkIndex_8e157 15 = .ok (.athrow, 1) := by decide +kernel
theorem dJ3_checkIndex_8e157_16 : decode cJ3_checkIndex_8e157 16 = .ok (.iload_n 0, 1) := by decide +kernel
theorem dJ3_checkIndex_8e157_17 : decode cJ3_checkIndex_8e157 17 = .ok (.ireturn, 1) := by decide +kernel
theorem dL_law_0 : decode cL_law 0 = .ok (.new 7, 3) := by decide +kernel
theorem dL_law_3 : decode cL_law 3 = .ok (.dup, 1) := by decide +kernel
theorem dL_law_4 : decode cL_law 4 = .ok (.invokespecial 9, 3) := by decide +kernel
theorem dL_law_7 : decode cL_law 7 = .ok (.astore_n 1, 1) := by decide +kernel
theorem dL_law_8 : decode cL_law 8 = .ok (.new 10, 3) := by decide +kernel
theorem dL_law_11 : decode cL_law 11 = .ok (.dup, 1) := by decide +kernel
theorem dL_law_12 : decode cL_law 12 = .ok (.invokespecial 12, 3) := by decide +kernel
theorem dL_law_15 : decode cL_law 15 = .ok (.astore_n 2, 1) := by decide +kernel
theorem dL_law_16 : decode cL_law 16 = .ok (.iconst 0, 1) := by decide +kernel
theorem dL_law_17 : decode cL_law 17 = .ok (.istore_n 3, 1) := by decide +kernel
theorem dL_law_18 : decode cL_law 18 = .ok (.iload_n 3, 1) := by decide +kernel
theorem dL_law_19 : decode cL_law 19 = .ok (.aload_n 0, 1) := by decide +kernel
theorem dL_law_20 : decode cL_law 20 = .ok (.arraylength, 1) := by decide +kernel
theorem dL_law_21 : decode cL_law 21 = .ok (.iconst 4, 1) := by decide +kernel
theorem dL_law_22 : decode cL_law 22 = .ok (.isub, 1) := by decide +kernel
theorem dL_law_23 : decode cL_law 23 = .ok (.if_icmp .gt 753, 3) := by decide +kernel
theorem dL_law_26 : decode cL_law 26 = .ok (.aload_n 0, 1) := by decide +kernel
theorem dL_law_27 : decode cL_law 27 = .ok (.iload_n 3, 1) := by decide +kernel
theorem dL_law_28 : decode cL_law 28 = .ok (.iaload, 1) := by decide +kernel
theorem dL_law_29 : decode cL_law 29 = .ok (.bipush 31, 2) := by decide +kernel
theorem dL_law_31 : decode cL_law 31 = .ok (.iand, 1) := by decide +kernel
theorem dL_law_32 : decode cL_law 32 = .ok (.tableswitch 738 0 25 #[120, 143, 156, 189, 222, 265, 298, 321, 354, 387, 420, 443, 476, 489, 502, 525, 548, 561, 584, 597, 630, 643, 656, 689, 702, 715], 120) := by decide +kernel
theorem dL_law_152 : decode cL_law 152 = .ok (.aload_n 1, 1) := by decide +kernel
theorem dL_law_153 : decode cL_law 153 = .ok (.aload_n 0, 1) := by decide +kernel
theorem dL_law_154 : decode cL_law 154 = .ok (.iload_n 3, 1) := by decide +kernel
theorem dL_law_155 : decode cL_law 155 = .ok (.iconst 1, 1) := by decide +kernel
theorem dL_law_156 : decode cL_law 156 = .ok (.iadd, 1) := by decide +kernel
theorem dL_law_157 : decode cL_law 157 = .ok (.iaload, 1) := by decide +kernel
theorem dL_law_158 : decode cL_law 158 = .ok (.invokevirtual 13, 3) := by decide +kernel
theorem dL_law_161 : decode cL_law 161 = .ok (.aload_n 2, 1) := by decide +kernel
theorem dL_law_162 : decode cL_law 162 = .ok (.aload_n 0, 1) := by decide +kernel
theorem dL_law_163 : decode cL_law 163 = .ok (.iload_n 3, 1) := by decide +kernel
theorem dL_law_164 : decode cL_law 164 = .ok (.iconst 1, 1) := by decide +kernel
theorem dL_law_165 : decode cL_law 165 = .ok (.iadd, 1) := by decide +kernel
theorem dL_law_166 : decode cL_law 166 = .ok (.iaload, 1) := by decide +kernel
theorem dL_law_167 : decode cL_law 167 = .ok (.invokevirtual 17, 3) := by decide +kernel
theorem dL_law_170 : decode cL_law 170 = .ok (.if_icmp .eq 600, 3) := by decide +kernel
theorem dL_law_173 : decode cL_law 173 = .ok (.iconst 0, 1) := by decide +kernel
theorem dL_law_174 : decode cL_law 174 = .ok (.ireturn, 1) := by decide +kernel
theorem dL_law_175 : decode cL_law 175 = .ok (.aload_n 1, 1) := by decide +kernel
theorem dL_law_176 : decode cL_law 176 = .ok (.invokevirtual 18, 3) := by decide +kernel
theorem dL_law_179 : decode cL_law 179 = .ok (.aload_n 2, 1) := by decide +kernel
theorem dL_law_180 : decode cL_law 180 = .ok (.invokevirtual 22, 3) := by decide +kernel
theorem dL_law_183 : decode cL_law 183 = .ok (.if_icmp .eq 587, 3) := by decide +kernel
theorem dL_law_186 : decode cL_law 186 = .ok (.iconst 0, 1) := by decide +kernel
theorem dL_law_187 : decode cL_law 187 = .ok (.ireturn, 1) := by decide +kernel
theorem dL_law_188 : decode cL_law 188 = .ok (.aload_n 1, 1) := by decide +kernel
theorem dL_law_189 : decode cL_law 189 = .ok (.aload_n 0, 1) := by decide +kernel
theorem dL_law_190 : decode cL_law 190 = .ok (.iload_n 3, 1) := by decide +kernel
theorem dL_law_191 : decode cL_law 191 = .ok (.iconst 1, 1) := by decide +kernel
theorem dL_law_192 : decode cL_law 192 = .ok (.iadd, 1) := by decide +kernel
theorem dL_law_193 : decode cL_law 193 = .ok (.iaload, 1) := by decide +kernel
theorem dL_law_194 : decode cL_law 194 = .ok (.aload_n 0, 1) := by decide +kernel
theorem dL_law_195 : decode cL_law 195 = .ok (.iload_n 3, 1) := by decide +kernel
theorem dL_law_196 : decode cL_law 196 = .ok (.iconst 2, 1) := by decide +kernel
theorem dL_law_197 : decode cL_law 197 = .ok (.iadd, 1) := by decide +kernel
theorem dL_law_198 : decode cL_law 198 = .ok (.iaload, 1) := by decide +kernel
theorem dL_law_199 : decode cL_law 199 = .ok (.invokevirtual 23, 3) := by decide +kernel
theorem dL_law_202 : decode cL_law 202 = .ok (.aload_n 2, 1) := by decide +kernel
theorem dL_law_203 : decode cL_law 203 = .ok (.aload_n 0, 1) := by decide +kernel
theorem dL_law_204 : decode cL_law 204 = .ok (.iload_n 3, 1) := by decide +kernel
theorem dL_law_205 : decode cL_law 205 = .ok (.iconst 1, 1) := by decide +kernel
theorem dL_law_206 : decode cL_law 206 = .ok (.iadd, 1) := by decide +kernel
theorem dL_law_207 : decode cL_law 207 = .ok (.iaload, 1) := by decide +kernel
theorem dL_law_208 : decode cL_law 208 = .ok (.aload_n 0, 1) := by decide +kernel
theorem dL_law_209 : decode cL_law 209 = .ok (.iload_n 3, 1) := by decide +kernel
theorem dL_law_210 : decode cL_law 210 = .ok (.iconst 2, 1) := by decide +kernel
theorem dL_law_211 : decode cL_law 211 = .ok (.iadd, 1) := by decide +kernel
theorem dL_law_212 : decode cL_law 212 = .ok (.iaload, 1) := by decide +kernel
theorem dL_law_213 : decode cL_law 213 = .ok (.invokevirtual 27, 3) := by decide +kernel
theorem dL_law_216 : decode cL_law 216 = .ok (.if_icmp .eq 554, 3) := by decide +kernel
theorem dL_law_219 : decode cL_law 219 = .ok (.iconst 0, 1) := by decide +kernel
theorem dL_law_220 : decode cL_law 220 = .ok (.ireturn, 1) := by decide +kernel
theorem dL_law_221 : decode cL_law 221 = .ok (.aload_n 1, 1) := by decide +kernel
theorem dL_law_222 : decode cL_law 222 = .ok (.aload_n 0, 1) := by decide +kernel
theorem dL_law_223 : decode cL_law 223 = .ok (.iload_n 3, 1) := by decide +kernel
theorem dL_law_224 : decode cL_law 224 = .ok (.iconst 1, 1) := by decide +kernel
theorem dL_law_225 : decode cL_law 225 = .ok (.iadd, 1) := by decide +kernel
theorem dL_law_226 : decode cL_law 226 = .ok (.iaload, 1) := by decide +kernel
theorem dL_law_227 : decode cL_law 227 = .ok (.aload_n 0, 1) := by decide +kernel
theorem dL_law_228 : decode cL_law 228 = .ok (.iload_n 3, 1) := by decide +kernel
theorem dL_law_229 : decode cL_law 229 = .ok (.iconst 2, 1) := by decide +kernel
theorem dL_law_230 : decode cL_law 230 = .ok (.iadd, 1) := by decide +kernel
theorem dL_law_231 : decode cL_law 231 = .ok (.iaload, 1) := by decide +kernel
theorem dL_law_232 : decode cL_law 232 = .ok (.invokevirtual 28, 3) := by decide +kernel
theorem dL_law_235 : decode cL_law 235 = .ok (.aload_n 2, 1) := by decide +kernel
theorem dL_law_236 : decode cL_law 236 = .ok (.aload_n 0, 1) := by decide +kernel
theorem dL_law_237 : decode cL_law 237 = .ok (.iload_n 3, 1) := by decide +kernel
theorem dL_law_238 : decode cL_law 238 = .ok (.iconst 1, 1) := by decide +kernel
theorem dL_law_239 : decode cL_law 239 = .ok (.iadd, 1) := by decide +kernel
theorem dL_law_240 : decode cL_law 240 = .ok (.iaload, 1) := by decide +kernel
theorem dL_law_241 : decode cL_law 241 = .ok (.aload_n 0, 1) := by decide +kernel
theorem dL_law_242 : decode cL_law 242 = .ok (.iload_n 3, 1) := by decide +kernel
theorem dL_law_243 : decode cL_law 243 = .ok (.iconst 2, 1) := by decide +kernel
theorem dL_law_244 : decode cL_law 244 = .ok (.iadd, 1) := by decide +kernel
theorem dL_law_245 : decode cL_law 245 = .ok (.iaload, 1) := by decide +kernel
theorem dL_law_246 : decode cL_law 246 = .ok (.invokevirtual 31, 3) := by decide +kernel
theorem dL_law_249 : decode cL_law 249 = .ok (.if_icmp .eq 521, 3) := by decide +kernel
theorem dL_law_252 : decode cL_law 252 = .ok (.iconst 0, 1) := by decide +kernel
theorem dL_law_253 : decode cL_law 253 = .ok (.ireturn, 1) := by decide +kernel
theorem dL_law_254 : decode cL_law 254 = .ok (.aload_n 1, 1) := by decide +kernel
theorem dL_law_255 : decode cL_law 255 = .ok (.aload_n 0, 1) := by decide +kernel
theorem dL_law_256 : decode cL_law 256 = .ok (.iload_n 3, 1) := by decide +kernel
theorem dL_law_257 : decode cL_law 257 = .ok (.iconst 1, 1) := by decide +kernel
theorem dL_law_258 : decode cL_law 258 = .ok (.iadd, 1) := by decide +kernel
theorem dL_law_259 : decode cL_law 259 = .ok (.iaload, 1) := by decide +kernel
theorem dL_law_260 : decode cL_law 260 = .ok (.aload_n 0, 1) := by decide +kernel
theorem dL_law_261 : decode cL_law 261 = .ok (.iload_n 3, 1) := by decide +kernel
theorem dL_law_262 : decode cL_law 262 = .ok (.iconst 2, 1) := by decide +kernel
theorem dL_law_263 : decode cL_law 263 = .ok (.iadd, 1) := by decide +kernel
theorem dL_law_264 : decode cL_law 264 = .ok (.iaload, 1) := by decide +kernel
theorem dL_law_265 : decode cL_law 265 = .ok (.aload_n 0, 1) := by decide +kernel
theorem dL_law_266 : decode cL_law 266 = .ok (.iload_n 3, 1) := by decide +kernel
theorem dL_law_267 : decode cL_law 267 = .ok (.iconst 3, 1) := by decide +kernel
theorem dL_law_268 : decode cL_law 268 = .ok (.iadd, 1) := by decide +kernel
theorem dL_law_269 : decode cL_law 269 = .ok (.iaload, 1) := by decide +kernel
theorem dL_law_270 : decode cL_law 270 = .ok (.invokevirtual 32, 3) := by decide +kernel
theorem dL_law_273 : decode cL_law 273 = .ok (.aload_n 2, 1) := by decide +kernel
theorem dL_law_274 : decode cL_law 274 = .ok (.aload_n 0, 1) := by decide +kernel
theorem dL_law_275 : decode cL_law 275 = .ok (.iload_n 3, 1) := by decide +kernel
theorem dL_law_276 : decode cL_law 276 = .ok (.iconst 1, 1) := by decide +kernel
theorem dL_law_277 : decode cL_law 277 = .ok (.iadd, 1) := by decide +kernel
theorem dL_law_278 : decode cL_law 278 = .ok (.iaload, 1) := by decide +kernel
theorem dL_law_279 : decode cL_law 279 = .ok (.aload_n 0, 1) := by decide +kernel
theorem dL_law_280 : decode cL_law 280 = .ok (.iload_n 3, 1) := by decide +kernel
theorem dL_law_281 : decode cL_law 281 = .ok (.iconst 2, 1) := by decide +kernel
theorem dL_law_282 : decode cL_law 282 = .ok (.iadd, 1) := by decide +kernel
theorem dL_law_283 : decode cL_law 283 = .ok (.iaload, 1) := by decide +kernel
theorem dL_law_284 : decode cL_law 284 = .ok (.aload_n 0, 1) := by decide +kernel
theorem dL_law_285 : decode cL_law 285 = .ok (.iload_n 3, 1) := by decide +kernel
theorem dL_law_286 : decode cL_law 286 = .ok (.iconst 3, 1) := by decide +kernel
theorem dL_law_287 : decode cL_law 287 = .ok (.iadd, 1) := by decide +kernel
theorem dL_law_288 : decode cL_law 288 = .ok (.iaload, 1) := by decide +kernel
theorem dL_law_289 : decode cL_law 289 = .ok (.invokevirtual 36, 3) := by decide +kernel
theorem dL_law_292 : decode cL_law 292 = .ok (.if_icmp .eq 478, 3) := by decide +kernel
theorem dL_law_295 : decode cL_law 295 = .ok (.iconst 0, 1) := by decide +kernel
theorem dL_law_296 : decode cL_law 296 = .ok (.ireturn, 1) := by decide +kernel
theorem dL_law_297 : decode cL_law 297 = .ok (.aload_n 1, 1) := by decide +kernel
theorem dL_law_298 : decode cL_law 298 = .ok (.aload_n 0, 1) := by decide +kernel
theorem dL_law_299 : decode cL_law 299 = .ok (.iload_n 3, 1) := by decide +kernel
theorem dL_law_300 : decode cL_law 300 = .ok (.iconst 1, 1) := by decide +kernel
theorem dL_law_301 : decode cL_law 301 = .ok (.iadd, 1) := by decide +kernel
theorem dL_law_302 : decode cL_law 302 = .ok (.iaload, 1) := by decide +kernel
theorem dL_law_303 : decode cL_law 303 = .ok (.aload_n 0, 1) := by decide +kernel
theorem dL_law_304 : decode cL_law 304 = .ok (.iload_n 3, 1) := by decide +kernel
theorem dL_law_305 : decode cL_law 305 = .ok (.iconst 2, 1) := by decide +kernel
theorem dL_law_306 : decode cL_law 306 = .ok (.iadd, 1) := by decide +kernel
theorem dL_law_307 : decode cL_law 307 = .ok (.iaload, 1) := by decide +kernel
theorem dL_law_308 : decode cL_law 308 = .ok (.invokevirtual 37, 3) := by decide +kernel
theorem dL_law_311 : decode cL_law 311 = .ok (.aload_n 2, 1) := by decide +kernel
theorem dL_law_312 : decode cL_law 312 = .ok (.aload_n 0, 1) := by decide +kernel
theorem dL_law_313 : decode cL_law 313 = .ok (.iload_n 3, 1) := by decide +kernel
theorem dL_law_314 : decode cL_law 314 = .ok (.iconst 1, 1) := by decide +kernel
theorem dL_law_315 : decode cL_law 315 = .ok (.iadd, 1) := by decide +kernel
theorem dL_law_316 : decode cL_law 316 = .ok (.iaload, 1) := by decide +kernel
theorem dL_law_317 : decode cL_law 317 = .ok (.aload_n 0, 1) := by decide +kernel
theorem dL_law_318 : decode cL_law 318 = .ok (.iload_n 3, 1) := by decide +kernel
theorem dL_law_319 : decode cL_law 319 = .ok (.iconst 2, 1) := by decide +kernel
theorem dL_law_320 : decode cL_law 320 = .ok (.iadd, 1) := by decide +kernel
theorem dL_law_321 : decode cL_law 321 = .ok (.iaload, 1) := by decide +kernel
theorem dL_law_322 : decode cL_law 322 = .ok (.invokevirtual 40, 3) := by decide +kernel
theorem dL_law_325 : decode cL_law 325 = .ok (.if_icmp .eq 445, 3) := by decide +kernel
theorem dL_law_328 : decode cL_law 328 = .ok (.iconst 0, 1) := by decide +kernel
theorem dL_law_329 : decode cL_law 329 = .ok (.ireturn, 1) := by decide +kernel
theorem dL_law_330 : decode cL_law 330 = .ok (.aload_n 1, 1) := by decide +kernel
theorem dL_law_331 : decode cL_law 331 = .ok (.aload_n 0, 1) := by decide +kernel
theorem dL_law_332 : decode cL_law 332 = .ok (.iload_n 3, 1) := by decide +kernel
theorem dL_law_333 : decode cL_law 333 = .ok (.iconst 1, 1) := by decide +kernel
theorem dL_law_334 : decode cL_law 334 = .ok (.iadd, 1) := by decide +kernel
theorem dL_law_335 : decode cL_law 335 = .ok (.iaload, 1) := by decide +kernel
theorem dL_law_336 : decode cL_law 336 = .ok (.invokevirtual 41, 3) := by decide +kernel
theorem dL_law_339 : decode cL_law 339 = .ok (.aload_n 2, 1) := by decide +kernel
theorem dL_law_340 : decode cL_law 340 = .ok (.aload_n 0, 1) := by decide +kernel
theorem dL_law_341 : decode cL_law 341 = .ok (.iload_n 3, 1) := by decide +kernel
theorem dL_law_342 : decode cL_law 342 = .ok (.iconst 1, 1) := by decide +kernel
theorem dL_law_343 : decode cL_law 343 = .ok (.iadd, 1) := by decide +kernel
theorem dL_law_344 : decode cL_law 344 = .ok (.iaload, 1) := by decide +kernel
theorem dL_law_345 : decode cL_law 345 = .ok (.invokevirtual 44, 3) := by decide +kernel
theorem dL_law_348 : decode cL_law 348 = .ok (.if_icmp .eq 422, 3) := by decide +kernel
theorem dL_law_351 : decode cL_law 351 = .ok (.iconst 0, 1) := by decide +kernel
theorem dL_law_352 : decode cL_law 352 = .ok (.ireturn, 1) := by decide +kernel
theorem dL_law_353 : decode cL_law 353 = .ok (.aload_n 1, 1) := by decide +kernel
theorem dL_law_354 : decode cL_law 354 = .ok (.aload_n 0, 1) := by decide +kernel
theorem dL_law_355 : decode cL_law 355 = .ok (.iload_n 3, 1) := by decide +kernel
theorem dL_law_356 : decode cL_law 356 = .ok (.iconst 1, 1) := by decide +kernel
theorem dL_law_357 : decode cL_law 357 = .ok (.iadd, 1) := by decide +kernel
theorem dL_law_358 : decode cL_law 358 = .ok (.iaload, 1) := by decide +kernel
theorem dL_law_359 : decode cL_law 359 = .ok (.aload_n 0, 1) := by decide +kernel
theorem dL_law_360 : decode cL_law 360 = .ok (.iload_n 3, 1) := by decide +kernel
theorem dL_law_361 : decode cL_law 361 = .ok (.iconst 2, 1) := by decide +kernel
theorem dL_law_362 : decode cL_law 362 = .ok (.iadd, 1) := by decide +kernel
theorem dL_law_363 : decode cL_law 363 = .ok (.iaload, 1) := by decide +kernel
theorem dL_law_364 : decode cL_law 364 = .ok (.invokevirtual 45, 3) := by decide +kernel
theorem dL_law_367 : decode cL_law 367 = .ok (.aload_n 2, 1) := by decide +kernel
theorem dL_law_368 : decode cL_law 368 = .ok (.aload_n 0, 1) := by decide +kernel
theorem dL_law_369 : decode cL_law 369 = .ok (.iload_n 3, 1) := by decide +kernel
theorem dL_law_370 : decode cL_law 370 = .ok (.iconst 1, 1) := by decide +kernel
theorem dL_law_371 : decode cL_law 371 = .ok (.iadd, 1) := by decide +kernel
theorem dL_law_372 : decode cL_law 372 = .ok (.iaload, 1) := by decide +kernel
theorem dL_law_373 : decode cL_law 373 = .ok (.aload_n 0, 1) := by decide +kernel
theorem dL_law_374 : decode cL_law 374 = .ok (.iload_n 3, 1) := by decide +kernel
theorem dL_law_375 : decode cL_law 375 = .ok (.iconst 2, 1) := by decide +kernel
theorem dL_law_376 : decode cL_law 376 = .ok (.iadd, 1) := by decide +kernel
theorem dL_law_377 : decode cL_law 377 = .ok (.iaload, 1) := by decide +kernel
theorem dL_law_378 : decode cL_law 378 = .ok (.invokevirtual 48, 3) := by decide +kernel
theorem dL_law_381 : decode cL_law 381 = .ok (.if_icmp .eq 389, 3) := by decide +kernel
theorem dL_law_384 : decode cL_law 384 = .ok (.iconst 0, 1) := by decide +kernel
theorem dL_law_385 : decode cL_law 385 = .ok (.ireturn, 1) := by decide +kernel
theorem dL_law_386 : decode cL_law 386 = .ok (.aload_n 1, 1) := by decide +kernel
theorem dL_law_387 : decode cL_law 387 = .ok (.aload_n 0, 1) := by decide +kernel
theorem dL_law_388 : decode cL_law 388 = .ok (.iload_n 3, 1) := by decide +kernel
theorem dL_law_389 : decode cL_law 389 = .ok (.iconst 1, 1) := by decide +kernel
theorem dL_law_390 : decode cL_law 390 = .ok (.iadd, 1) := by decide +kernel
theorem dL_law_391 : decode cL_law 391 = .ok (.iaload, 1) := by decide +kernel
theorem dL_law_392 : decode cL_law 392 = .ok (.aload_n 0, 1) := by decide +kernel
theorem dL_law_393 : decode cL_law 393 = .ok (.iload_n 3, 1) := by decide +kernel
theorem dL_law_394 : decode cL_law 394 = .ok (.iconst 2, 1) := by decide +kernel
theorem dL_law_395 : decode cL_law 395 = .ok (.iadd, 1) := by decide +kernel
theorem dL_law_396 : decode cL_law 396 = .ok (.iaload, 1) := by decide +kernel
theorem dL_law_397 : decode cL_law 397 = .ok (.invokevirtual 49, 3) := by decide +kernel
theorem dL_law_400 : decode cL_law 400 = .ok (.aload_n 2, 1) := by decide +kernel
theorem dL_law_401 : decode cL_law 401 = .ok (.aload_n 0, 1) := by decide +kernel
theorem dL_law_402 : decode cL_law 402 = .ok (.iload_n 3, 1) := by decide +kernel
theorem dL_law_403 : decode cL_law 403 = .ok (.iconst 1, 1) := by decide +kernel
theorem dL_law_404 : decode cL_law 404 = .ok (.iadd, 1) := by decide +kernel
theorem dL_law_405 : decode cL_law 405 = .ok (.iaload, 1) := by decide +kernel
theorem dL_law_406 : decode cL_law 406 = .ok (.aload_n 0, 1) := by decide +kernel
theorem dL_law_407 : decode cL_law 407 = .ok (.iload_n 3, 1) := by decide +kernel
theorem dL_law_408 : decode cL_law 408 = .ok (.iconst 2, 1) := by decide +kernel
theorem dL_law_409 : decode cL_law 409 = .ok (.iadd, 1) := by decide +kernel
theorem dL_law_410 : decode cL_law 410 = .ok (.iaload, 1) := by decide +kernel
theorem dL_law_411 : decode cL_law 411 = .ok (.invokevirtual 52, 3) := by decide +kernel
theorem dL_law_414 : decode cL_law 414 = .ok (.if_icmp .eq 356, 3) := by decide +kernel
theorem dL_law_417 : decode cL_law 417 = .ok (.iconst 0, 1) := by decide +kernel
theorem dL_law_418 : decode cL_law 418 = .ok (.ireturn, 1) := by decide +kernel
theorem dL_law_419 : decode cL_law 419 = .ok (.aload_n 1, 1) := by decide +kernel
theorem dL_law_420 : decode cL_law 420 = .ok (.aload_n 0, 1) := by decide +kernel
theorem dL_law_421 : decode cL_law 421 = .ok (.iload_n 3, 1) := by decide +kernel
theorem dL_law_422 : decode cL_law 422 = .ok (.iconst 1, 1) := by decide +kernel
theorem dL_law_423 : decode cL_law 423 = .ok (.iadd, 1) := by decide +kernel
theorem dL_law_424 : decode cL_law 424 = .ok (.iaload, 1) := by decide +kernel
theorem dL_law_425 : decode cL_law 425 = .ok (.aload_n 0, 1) := by decide +kernel
theorem dL_law_426 : decode cL_law 426 = .ok (.iload_n 3, 1) := by decide +kernel
theorem dL_law_427 : decode cL_law 427 = .ok (.iconst 2, 1) := by decide +kernel
theorem dL_law_428 : decode cL_law 428 = .ok (.iadd, 1) := by decide +kernel
theorem dL_law_429 : decode cL_law 429 = .ok (.iaload, 1) := by decide +kernel
theorem dL_law_430 : decode cL_law 430 = .ok (.invokevirtual 53, 3) := by decide +kernel
theorem dL_law_433 : decode cL_law 433 = .ok (.aload_n 2, 1) := by decide +kernel
theorem dL_law_434 : decode cL_law 434 = .ok (.aload_n 0, 1) := by decide +kernel
theorem dL_law_435 : decode cL_law 435 = .ok (.iload_n 3, 1) := by decide +kernel
theorem dL_law_436 : decode cL_law 436 = .ok (.iconst 1, 1) := by decide +kernel
theorem dL_law_437 : decode cL_law 437 = .ok (.iadd, 1) := by decide +kernel
theorem dL_law_438 : decode cL_law 438 = .ok (.iaload, 1) := by decide +kernel
theorem dL_law_439 : decode cL_law 439 = .ok (.aload_n 0, 1) := by decide +kernel
theorem dL_law_440 : decode cL_law 440 = .ok (.iload_n 3, 1) := by decide +kernel
theorem dL_law_441 : decode cL_law 441 = .ok (.iconst 2, 1) := by decide +kernel
theorem dL_law_442 : decode cL_law 442 = .ok (.iadd, 1) := by decide +kernel
theorem dL_law_443 : decode cL_law 443 = .ok (.iaload, 1) := by decide +kernel
theorem dL_law_444 : decode cL_law 444 = .ok (.invokevirtual 56, 3) := by decide +kernel
theorem dL_law_447 : decode cL_law 447 = .ok (.if_icmp .eq 323, 3) := by decide +kernel
theorem dL_law_450 : decode cL_law 450 = .ok (.iconst 0, 1) := by decide +kernel
theorem dL_law_451 : decode cL_law 451 = .ok (.ireturn, 1) := by decide +kernel
theorem dL_law_452 : decode cL_law 452 = .ok (.aload_n 1, 1) := by decide +kernel
theorem dL_law_453 : decode cL_law 453 = .ok (.aload_n 0, 1) := by decide +kernel
theorem dL_law_454 : decode cL_law 454 = .ok (.iload_n 3, 1) := by decide +kernel
theorem dL_law_455 : decode cL_law 455 = .ok (.iconst 1, 1) := by decide +kernel
theorem dL_law_456 : decode cL_law 456 = .ok (.iadd, 1) := by decide +kernel
theorem dL_law_457 : decode cL_law 457 = .ok (.iaload, 1) := by decide +kernel
theorem dL_law_458 : decode cL_law 458 = .ok (.invokevirtual 57, 3) := by decide +kernel
theorem dL_law_461 : decode cL_law 461 = .ok (.aload_n 2, 1) := by decide +kernel
theorem dL_law_462 : decode cL_law 462 = .ok (.aload_n 0, 1) := by decide +kernel
theorem dL_law_463 : decode cL_law 463 = .ok (.iload_n 3, 1) := by decide +kernel
theorem dL_law_464 : decode cL_law 464 = .ok (.iconst 1, 1) := by decide +kernel
theorem dL_law_465 : decode cL_law 465 = .ok (.iadd, 1) := by decide +kernel
theorem dL_law_466 : decode cL_law 466 = .ok (.iaload, 1) := by decide +kernel
theorem dL_law_467 : decode cL_law 467 = .ok (.invokevirtual 60, 3) := by decide +kernel
theorem dL_law_470 : decode cL_law 470 = .ok (.if_icmp .eq 300, 3) := by decide +kernel
theorem dL_law_473 : decode cL_law 473 = .ok (.iconst 0, 1) := by decide +kernel
theorem dL_law_474 : decode cL_law 474 = .ok (.ireturn, 1) := by decide +kernel
theorem dL_law_475 : decode cL_law 475 = .ok (.aload_n 1, 1) := by decide +kernel
theorem dL_law_476 : decode cL_law 476 = .ok (.aload_n 0, 1) := by decide +kernel
theorem dL_law_477 : decode cL_law 477 = .ok (.iload_n 3, 1) := by decide +kernel
theorem dL_law_478 : decode cL_law 478 = .ok (.iconst 1, 1) := by decide +kernel
theorem dL_law_479 : decode cL_law 479 = .ok (.iadd, 1) := by decide +kernel
theorem dL_law_480 : decode cL_law 480 = .ok (.iaload, 1) := by decide +kernel
theorem dL_law_481 : decode cL_law 481 = .ok (.aload_n 0, 1) := by decide +kernel
theorem dL_law_482 : decode cL_law 482 = .ok (.iload_n 3, 1) := by decide +kernel
theorem dL_law_483 : decode cL_law 483 = .ok (.iconst 2, 1) := by decide +kernel
theorem dL_law_484 : decode cL_law 484 = .ok (.iadd, 1) := by decide +kernel
theorem dL_law_485 : decode cL_law 485 = .ok (.iaload, 1) := by decide +kernel
theorem dL_law_486 : decode cL_law 486 = .ok (.invokevirtual 61, 3) := by decide +kernel
theorem dL_law_489 : decode cL_law 489 = .ok (.aload_n 2, 1) := by decide +kernel
theorem dL_law_490 : decode cL_law 490 = .ok (.aload_n 0, 1) := by decide +kernel
theorem dL_law_491 : decode cL_law 491 = .ok (.iload_n 3, 1) := by decide +kernel
theorem dL_law_492 : decode cL_law 492 = .ok (.iconst 1, 1) := by decide +kernel
theorem dL_law_493 : decode cL_law 493 = .ok (.iadd, 1) := by decide +kernel
theorem dL_law_494 : decode cL_law 494 = .ok (.iaload, 1) := by decide +kernel
theorem dL_law_495 : decode cL_law 495 = .ok (.aload_n 0, 1) := by decide +kernel
theorem dL_law_496 : decode cL_law 496 = .ok (.iload_n 3, 1) := by decide +kernel
theorem dL_law_497 : decode cL_law 497 = .ok (.iconst 2, 1) := by decide +kernel
theorem dL_law_498 : decode cL_law 498 = .ok (.iadd, 1) := by decide +kernel
theorem dL_law_499 : decode cL_law 499 = .ok (.iaload, 1) := by decide +kernel
theorem dL_law_500 : decode cL_law 500 = .ok (.invokevirtual 64, 3) := by decide +kernel
theorem dL_law_503 : decode cL_law 503 = .ok (.if_icmp .eq 267, 3) := by decide +kernel
theorem dL_law_506 : decode cL_law 506 = .ok (.iconst 0, 1) := by decide +kernel
theorem dL_law_507 : decode cL_law 507 = .ok (.ireturn, 1) := by decide +kernel
theorem dL_law_508 : decode cL_law 508 = .ok (.aload_n 1, 1) := by decide +kernel
theorem dL_law_509 : decode cL_law 509 = .ok (.invokevirtual 65, 3) := by decide +kernel
theorem dL_law_512 : decode cL_law 512 = .ok (.aload_n 2, 1) := by decide +kernel
theorem dL_law_513 : decode cL_law 513 = .ok (.invokevirtual 68, 3) := by decide +kernel
theorem dL_law_516 : decode cL_law 516 = .ok (.if_icmp .eq 254, 3) := by decide +kernel
theorem dL_law_519 : decode cL_law 519 = .ok (.iconst 0, 1) := by decide +kernel
theorem dL_law_520 : decode cL_law 520 = .ok (.ireturn, 1) := by decide +kernel
theorem dL_law_521 : decode cL_law 521 = .ok (.aload_n 1, 1) := by decide +kernel
theorem dL_law_522 : decode cL_law 522 = .ok (.invokevirtual 69, 3) := by decide +kernel
theorem dL_law_525 : decode cL_law 525 = .ok (.aload_n 2, 1) := by decide +kernel
theorem dL_law_526 : decode cL_law 526 = .ok (.invokevirtual 72, 3) := by decide +kernel
theorem dL_law_529 : decode cL_law 529 = .ok (.if_icmp .eq 241, 3) := by decide +kernel
theorem dL_law_532 : decode cL_law 532 = .ok (.iconst 0, 1) := by decide +kernel
theorem dL_law_533 : decode cL_law 533 = .ok (.ireturn, 1) := by decide +kernel
theorem dL_law_534 : decode cL_law 534 = .ok (.aload_n 1, 1) := by decide +kernel
theorem dL_law_535 : decode cL_law 535 = .ok (.aload_n 0, 1) := by decide +kernel
theorem dL_law_536 : decode cL_law 536 = .ok (.iload_n 3, 1) := by decide +kernel
theorem dL_law_537 : decode cL_law 537 = .ok (.iconst 1, 1) := by decide +kernel
theorem dL_law_538 : decode cL_law 538 = .ok (.iadd, 1) := by decide +kernel
theorem dL_law_539 : decode cL_law 539 = .ok (.iaload, 1) := by decide +kernel
theorem dL_law_540 : decode cL_law 540 = .ok (.invokevirtual 73, 3) := by decide +kernel
theorem dL_law_543 : decode cL_law 543 = .ok (.aload_n 2, 1) := by decide +kernel
theorem dL_law_544 : decode cL_law 544 = .ok (.aload_n 0, 1) := by decide +kernel
theorem dL_law_545 : decode cL_law 545 = .ok (.iload_n 3, 1) := by decide +kernel
theorem dL_law_546 : decode cL_law 546 = .ok (.iconst 1, 1) := by decide +kernel
theorem dL_law_547 : decode cL_law 547 = .ok (.iadd, 1) := by decide +kernel
theorem dL_law_548 : decode cL_law 548 = .ok (.iaload, 1) := by decide +kernel
theorem dL_law_549 : decode cL_law 549 = .ok (.invokevirtual 76, 3) := by decide +kernel
theorem dL_law_552 : decode cL_law 552 = .ok (.if_icmp .eq 218, 3) := by decide +kernel
theorem dL_law_555 : decode cL_law 555 = .ok (.iconst 0, 1) := by decide +kernel
theorem dL_law_556 : decode cL_law 556 = .ok (.ireturn, 1) := by decide +kernel
theorem dL_law_557 : decode cL_law 557 = .ok (.aload_n 1, 1) := by decide +kernel
theorem dL_law_558 : decode cL_law 558 = .ok (.aload_n 0, 1) := by decide +kernel
theorem dL_law_559 : decode cL_law 559 = .ok (.iload_n 3, 1) := by decide +kernel
theorem dL_law_560 : decode cL_law 560 = .ok (.iconst 1, 1) := by decide +kernel
theorem dL_law_561 : decode cL_law 561 = .ok (.iadd, 1) := by decide +kernel
theorem dL_law_562 : decode cL_law 562 = .ok (.iaload, 1) := by decide +kernel
theorem dL_law_563 : decode cL_law 563 = .ok (.invokevirtual 77, 3) := by decide +kernel
theorem dL_law_566 : decode cL_law 566 = .ok (.aload_n 2, 1) := by decide +kernel
theorem dL_law_567 : decode cL_law 567 = .ok (.aload_n 0, 1) := by decide +kernel
theorem dL_law_568 : decode cL_law 568 = .ok (.iload_n 3, 1) := by decide +kernel
theorem dL_law_569 : decode cL_law 569 = .ok (.iconst 1, 1) := by decide +kernel
theorem dL_law_570 : decode cL_law 570 = .ok (.iadd, 1) := by decide +kernel
theorem dL_law_571 : decode cL_law 571 = .ok (.iaload, 1) := by decide +kernel
theorem dL_law_572 : decode cL_law 572 = .ok (.invokevirtual 80, 3) := by decide +kernel
theorem dL_law_575 : decode cL_law 575 = .ok (.if_icmp .eq 195, 3) := by decide +kernel
theorem dL_law_578 : decode cL_law 578 = .ok (.iconst 0, 1) := by decide +kernel
theorem dL_law_579 : decode cL_law 579 = .ok (.ireturn, 1) := by decide +kernel
theorem dL_law_580 : decode cL_law 580 = .ok (.aload_n 1, 1) := by decide +kernel
theorem dL_law_581 : decode cL_law 581 = .ok (.invokevirtual 81, 3) := by decide +kernel
theorem dL_law_584 : decode cL_law 584 = .ok (.aload_n 2, 1) := by decide +kernel
theorem dL_law_585 : decode cL_law 585 = .ok (.invokevirtual 84, 3) := by decide +kernel
theorem dL_law_588 : decode cL_law 588 = .ok (.if_icmp .eq 182, 3) := by decide +kernel
theorem dL_law_591 : decode cL_law 591 = .ok (.iconst 0, 1) := by decide +kernel
theorem dL_law_592 : decode cL_law 592 = .ok (.ireturn, 1) := by decide +kernel
theorem dL_law_593 : decode cL_law 593 = .ok (.aload_n 1, 1) := by decide +kernel
theorem dL_law_594 : decode cL_law 594 = .ok (.aload_n 0, 1) := by decide +kernel
theorem dL_law_595 : decode cL_law 595 = .ok (.iload_n 3, 1) := by decide +kernel
theorem dL_law_596 : decode cL_law 596 = .ok (.iconst 1, 1) := by decide +kernel
theorem dL_law_597 : decode cL_law 597 = .ok (.iadd, 1) := by decide +kernel
theorem dL_law_598 : decode cL_law 598 = .ok (.iaload, 1) := by decide +kernel
theorem dL_law_599 : decode cL_law 599 = .ok (.invokevirtual 85, 3) := by decide +kernel
theorem dL_law_602 : decode cL_law 602 = .ok (.aload_n 2, 1) := by decide +kernel
theorem dL_law_603 : decode cL_law 603 = .ok (.aload_n 0, 1) := by decide +kernel
theorem dL_law_604 : decode cL_law 604 = .ok (.iload_n 3, 1) := by decide +kernel
theorem dL_law_605 : decode cL_law 605 = .ok (.iconst 1, 1) := by decide +kernel
theorem dL_law_606 : decode cL_law 606 = .ok (.iadd, 1) := by decide +kernel
theorem dL_law_607 : decode cL_law 607 = .ok (.iaload, 1) := by decide +kernel
theorem dL_law_608 : decode cL_law 608 = .ok (.invokevirtual 88, 3) := by decide +kernel
theorem dL_law_611 : decode cL_law 611 = .ok (.if_icmp .eq 159, 3) := by decide +kernel
theorem dL_law_614 : decode cL_law 614 = .ok (.iconst 0, 1) := by decide +kernel
theorem dL_law_615 : decode cL_law 615 = .ok (.ireturn, 1) := by decide +kernel
theorem dL_law_616 : decode cL_law 616 = .ok (.aload_n 1, 1) := by decide +kernel
theorem dL_law_617 : decode cL_law 617 = .ok (.invokevirtual 89, 3) := by decide +kernel
theorem dL_law_620 : decode cL_law 620 = .ok (.aload_n 2, 1) := by decide +kernel
theorem dL_law_621 : decode cL_law 621 = .ok (.invokevirtual 92, 3) := by decide +kernel
theorem dL_law_624 : decode cL_law 624 = .ok (.if_icmp .eq 146, 3) := by decide +kernel
theorem dL_law_627 : decode cL_law 627 = .ok (.iconst 0, 1) := by decide +kernel
theorem dL_law_628 : decode cL_law 628 = .ok (.ireturn, 1) := by decide +kernel
theorem dL_law_629 : decode cL_law 629 = .ok (.aload_n 1, 1) := by decide +kernel
theorem dL_law_630 : decode cL_law 630 = .ok (.aload_n 0, 1) := by decide +kernel
theorem dL_law_631 : decode cL_law 631 = .ok (.iload_n 3, 1) := by decide +kernel
theorem dL_law_632 : decode cL_law 632 = .ok (.iconst 1, 1) := by decide +kernel
theorem dL_law_633 : decode cL_law 633 = .ok (.iadd, 1) := by decide +kernel
theorem dL_law_634 : decode cL_law 634 = .ok (.iaload, 1) := by decide +kernel
theorem dL_law_635 : decode cL_law 635 = .ok (.aload_n 0, 1) := by decide +kernel
theorem dL_law_636 : decode cL_law 636 = .ok (.iload_n 3, 1) := by decide +kernel
theorem dL_law_637 : decode cL_law 637 = .ok (.iconst 2, 1) := by decide +kernel
theorem dL_law_638 : decode cL_law 638 = .ok (.iadd, 1) := by decide +kernel
theorem dL_law_639 : decode cL_law 639 = .ok (.iaload, 1) := by decide +kernel
theorem dL_law_640 : decode cL_law 640 = .ok (.invokevirtual 93, 3) := by decide +kernel
theorem dL_law_643 : decode cL_law 643 = .ok (.aload_n 2, 1) := by decide +kernel
theorem dL_law_644 : decode cL_law 644 = .ok (.aload_n 0, 1) := by decide +kernel
theorem dL_law_645 : decode cL_law 645 = .ok (.iload_n 3, 1) := by decide +kernel
theorem dL_law_646 : decode cL_law 646 = .ok (.iconst 1, 1) := by decide +kernel
theorem dL_law_647 : decode cL_law 647 = .ok (.iadd, 1) := by decide +kernel
theorem dL_law_648 : decode cL_law 648 = .ok (.iaload, 1) := by decide +kernel
theorem dL_law_649 : decode cL_law 649 = .ok (.aload_n 0, 1) := by decide +kernel
theorem dL_law_650 : decode cL_law 650 = .ok (.iload_n 3, 1) := by decide +kernel
theorem dL_law_651 : decode cL_law 651 = .ok (.iconst 2, 1) := by decide +kernel
theorem dL_law_652 : decode cL_law 652 = .ok (.iadd, 1) := by decide +kernel
theorem dL_law_653 : decode cL_law 653 = .ok (.iaload, 1) := by decide +kernel
theorem dL_law_654 : decode cL_law 654 = .ok (.invokevirtual 96, 3) := by decide +kernel
theorem dL_law_657 : decode cL_law 657 = .ok (.if_icmp .eq 113, 3) := by decide +kernel
theorem dL_law_660 : decode cL_law 660 = .ok (.iconst 0, 1) := by decide +kernel
theorem dL_law_661 : decode cL_law 661 = .ok (.ireturn, 1) := by decide +kernel
theorem dL_law_662 : decode cL_law 662 = .ok (.aload_n 1, 1) := by decide +kernel
theorem dL_law_663 : decode cL_law 663 = .ok (.invokevirtual 97, 3) := by decide +kernel
theorem dL_law_666 : decode cL_law 666 = .ok (.aload_n 2, 1) := by decide +kernel
theorem dL_law_667 : decode cL_law 667 = .ok (.invokevirtual 100, 3) := by decide +kernel
theorem dL_law_670 : decode cL_law 670 = .ok (.if_icmp .eq 100, 3) := by decide +kernel
theorem dL_law_673 : decode cL_law 673 = .ok (.iconst 0, 1) := by decide +kernel
theorem dL_law_674 : decode cL_law 674 = .ok (.ireturn, 1) := by decide +kernel
theorem dL_law_675 : decode cL_law 675 = .ok (.aload_n 1, 1) := by decide +kernel
theorem dL_law_676 : decode cL_law 676 = .ok (.invokevirtual 101, 3) := by decide +kernel
theorem dL_law_679 : decode cL_law 679 = .ok (.aload_n 2, 1) := by decide +kernel
theorem dL_law_680 : decode cL_law 680 = .ok (.invokevirtual 104, 3) := by decide +kernel
theorem dL_law_683 : decode cL_law 683 = .ok (.if_icmp .eq 87, 3) := by decide +kernel
theorem dL_law_686 : decode cL_law 686 = .ok (.iconst 0, 1) := by decide +kernel
theorem dL_law_687 : decode cL_law 687 = .ok (.ireturn, 1) := by decide +kernel
theorem dL_law_688 : decode cL_law 688 = .ok (.aload_n 1, 1) := by decide +kernel
theorem dL_law_689 : decode cL_law 689 = .ok (.aload_n 0, 1) := by decide +kernel
theorem dL_law_690 : decode cL_law 690 = .ok (.iload_n 3, 1) := by decide +kernel
theorem dL_law_691 : decode cL_law 691 = .ok (.iconst 1, 1) := by decide +kernel
theorem dL_law_692 : decode cL_law 692 = .ok (.iadd, 1) := by decide +kernel
theorem dL_law_693 : decode cL_law 693 = .ok (.iaload, 1) := by decide +kernel
theorem dL_law_694 : decode cL_law 694 = .ok (.aload_n 0, 1) := by decide +kernel
theorem dL_law_695 : decode cL_law 695 = .ok (.iload_n 3, 1) := by decide +kernel
theorem dL_law_696 : decode cL_law 696 = .ok (.iconst 2, 1) := by decide +kernel
theorem dL_law_697 : decode cL_law 697 = .ok (.iadd, 1) := by decide +kernel
theorem dL_law_698 : decode cL_law 698 = .ok (.iaload, 1) := by decide +kernel
theorem dL_law_699 : decode cL_law 699 = .ok (.invokevirtual 105, 3) := by decide +kernel
theorem dL_law_702 : decode cL_law 702 = .ok (.aload_n 2, 1) := by decide +kernel
theorem dL_law_703 : decode cL_law 703 = .ok (.aload_n 0, 1) := by decide +kernel
theorem dL_law_704 : decode cL_law 704 = .ok (.iload_n 3, 1) := by decide +kernel
theorem dL_law_705 : decode cL_law 705 = .ok (.iconst 1, 1) := by decide +kernel
theorem dL_law_706 : decode cL_law 706 = .ok (.iadd, 1) := by decide +kernel
theorem dL_law_707 : decode cL_law 707 = .ok (.iaload, 1) := by decide +kernel
theorem dL_law_708 : decode cL_law 708 = .ok (.aload_n 0, 1) := by decide +kernel
theorem dL_law_709 : decode cL_law 709 = .ok (.iload_n 3, 1) := by decide +kernel
theorem dL_law_710 : decode cL_law 710 = .ok (.iconst 2, 1) := by decide +kernel
theorem dL_law_711 : decode cL_law 711 = .ok (.iadd, 1) := by decide +kernel
theorem dL_law_712 : decode cL_law 712 = .ok (.iaload, 1) := by decide +kernel
theorem dL_law_713 : decode cL_law 713 = .ok (.invokevirtual 108, 3) := by decide +kernel
theorem dL_law_716 : decode cL_law 716 = .ok (.if_icmp .eq 54, 3) := by decide +kernel
theorem dL_law_719 : decode cL_law 719 = .ok (.iconst 0, 1) := by decide +kernel
theorem dL_law_720 : decode cL_law 720 = .ok (.ireturn, 1) := by decide +kernel
theorem dL_law_721 : decode cL_law 721 = .ok (.aload_n 1, 1) := by decide +kernel
theorem dL_law_722 : decode cL_law 722 = .ok (.invokevirtual 109, 3) := by decide +kernel
theorem dL_law_725 : decode cL_law 725 = .ok (.aload_n 2, 1) := by decide +kernel
theorem dL_law_726 : decode cL_law 726 = .ok (.invokevirtual 112, 3) := by decide +kernel
theorem dL_law_729 : decode cL_law 729 = .ok (.if_icmp .eq 41, 3) := by decide +kernel
theorem dL_law_732 : decode cL_law 732 = .ok (.iconst 0, 1) := by decide +kernel
theorem dL_law_733 : decode cL_law 733 = .ok (.ireturn, 1) := by decide +kernel
theorem dL_law_734 : decode cL_law 734 = .ok (.aload_n 1, 1) := by decide +kernel
theorem dL_law_735 : decode cL_law 735 = .ok (.invokevirtual 113, 3) := by decide +kernel
theorem dL_law_738 : decode cL_law 738 = .ok (.aload_n 2, 1) := by decide +kernel
theorem dL_law_739 : decode cL_law 739 = .ok (.invokevirtual 116, 3) := by decide +kernel
theorem dL_law_742 : decode cL_law 742 = .ok (.if_icmp .eq 28, 3) := by decide +kernel
theorem dL_law_745 : decode cL_law 745 = .ok (.iconst 0, 1) := by decide +kernel
theorem dL_law_746 : decode cL_law 746 = .ok (.ireturn, 1) := by decide +kernel
theorem dL_law_747 : decode cL_law 747 = .ok (.aload_n 1, 1) := by decide +kernel
theorem dL_law_748 : decode cL_law 748 = .ok (.aload_n 0, 1) := by decide +kernel
theorem dL_law_749 : decode cL_law 749 = .ok (.iload_n 3, 1) := by decide +kernel
theorem dL_law_750 : decode cL_law 750 = .ok (.iconst 1, 1) := by decide +kernel
theorem dL_law_751 : decode cL_law 751 = .ok (.iadd, 1) := by decide +kernel
theorem dL_law_752 : decode cL_law 752 = .ok (.iaload, 1) := by decide +kernel
theorem dL_law_753 : decode cL_law 753 = .ok (.invokevirtual 117, 3) := by decide +kernel
theorem dL_law_756 : decode cL_law 756 = .ok (.aload_n 2, 1) := by decide +kernel
theorem dL_law_757 : decode cL_law 757 = .ok (.aload_n 0, 1) := by decide +kernel
theorem dL_law_758 : decode cL_law 758 = .ok (.iload_n 3, 1) := by decide +kernel
theorem dL_law_759 : decode cL_law 759 = .ok (.iconst 1, 1) := by decide +kernel
theorem dL_law_760 : decode cL_law 760 = .ok (.iadd, 1) := by decide +kernel
theorem dL_law_761 : decode cL_law 761 = .ok (.iaload, 1) := by decide +kernel
theorem dL_law_762 : decode cL_law 762 = .ok (.invokevirtual 120, 3) := by decide +kernel
theorem dL_law_765 : decode cL_law 765 = .ok (.if_icmp .eq 5, 3) := by decide +kernel
theorem dL_law_768 : decode cL_law 768 = .ok (.iconst 0, 1) := by decide +kernel
theorem dL_law_769 : decode cL_law 769 = .ok (.ireturn, 1) := by decide +kernel
theorem dL_law_770 : decode cL_law 770 = .ok (.iinc 3 4, 3) := by decide +kernel
theorem dL_law_773 : decode cL_law 773 = .ok (.goto (-755), 3) := by decide +kernel
theorem dL_law_776 : decode cL_law 776 = .ok (.iconst 1, 1) := by decide +kernel
theorem dL_law_777 : decode cL_law 777 = .ok (.ireturn, 1) := by decide +kernel
end
section
/-! what is told, as numbers: (LEFT, RIGHT, STEP, SHIFT, LAW, KIND of one, BAR of one, LIKING of one of another) -/
abbrev zVw : Type := Int × Int × Int × Int × Int × (Int → Int) × (Int → Int) × (Int → Int → Int)
def vL (v : zVw) : Int := v.1
def vR (v : zVw) : Int := v.2.1
def vS (v : zVw) : Int := v.2.2.1
def vH (v : zVw) : Int := v.2.2.2.1
def vW (v : zVw) : Int := v.2.2.2.2.1
def vK (v : zVw) : Int → Int := v.2.2.2.2.2.1
def vB (v : zVw) : Int → Int := v.2.2.2.2.2.2.1
def vA (v : zVw) : Int → Int → Int := v.2.2.2.2.2.2.2
/-- two of unlike sides -/
abbrev zU (a b : Int) : Prop := (0 ≤ a ∧ a < 5 ∧ 5 ≤ b ∧ b < 10) ∨ (0 ≤ b ∧ b < 5 ∧ 5 ≤ a ∧ a < 10)
/-- the ranges -/
def vOK (v : zVw) : Prop := (0 ≤ vL v ∧ vL v ≤ 5) ∧ (0 ≤ vR v ∧ vR v ≤ 5) ∧ (1 ≤ vS v ∧ vS v ≤ 4) ∧ (0 ≤ vH v ∧ vH v ≤ 4) ∧ (0 ≤ vW v ∧ vW v ≤ 3) ∧ (∀ p, 0 ≤ p → p < 10 → (0 ≤ vK v p ∧ vK v p ≤ 5) ∧ (0 ≤ vB v p ∧ vB v p ≤ 9)) ∧ (∀ a b, zU a b → 0 ≤ vA v a b ∧ vA v a b ≤ 9)
/-- one there is -/
abbrev vTh (v : zVw) (p : Int) : Prop := (0 ≤ p ∧ p < 5 ∧ p < vL v) ∨ (5 ≤ p ∧ p < 10 ∧ p < 5 + vR v)
/-- how the class holds it: its object's cell t -/
def zT (μ : zM) (t : Nat) (v : zVw) : Prop := μ (t + 1) 0 = vL v ∧ μ (t + 1) 1 = vR v ∧ μ t 4 = vS v ∧ μ t 5 = vH v ∧ μ t 6 = vW v ∧ (∀ p, 0 ≤ p → p < 10 → μ (t + 2) p = vK v p ∧ μ (t + 3) p = vB v p) ∧ (∀ a b, zU a b → μ (t + 4) (a * 10 + b) = vA v a b)
theorem zto_lt {t : Nat} (h : zTo t) : t + 4 < 68 := by omega
theorem z_sub {X : zX} {nL : Nat} {μ : zM} {pc : Nat} {L L' : List (Nat × zV)} {st : List zV} (ks : List Nat) (h : ks.filterMap (fun k => L[k]?) = L') (K : zJ X nL μ pc L' st) : zJ X nL μ pc L st := by
  obtain ⟨p, l, e, R, s, m, args, below, meth, c, Q, A, G, cells, slots⟩ := X
  intro hr H locs ls hP hS hl
  refine K hr H locs ls hP hS (lv_sub hl ks ?_)
  rw [← h]
  unfold lv_pick
  rw [List.map_filterMap]
  congr 1
  funext k
  rw [List.getElem?_map]
/-- an int's rest, whatever its sign -/
theorem z_iremT {X : zX} {nL : Nat} {cc : ByteArray} {own : String} {Ts : List Cond} {f nw : Nat} {μ : zM} {pc : Nat} {L : List (Nat × zV)} {st : List zV} (C : zC X nL cc own Ts f nw) {a b : Int} (d : decode cc pc = .ok (.irem, 1)) (ha : zR a) (hb : 0 < b ∧ b < 2147483648) (K : zJ X nL μ (pc + 1) L (.inl (Int.tmod a b) :: st)) : zJ X nL μ pc L (.inl b :: .inl a :: st) := by
  have hb' : zR b := ⟨by omega, by omega⟩
  obtain ⟨p, l, e, R, s, m, args, below, meth, c, Q, A, G, cells, slots⟩ := X
  obtain ⟨hx, hbc, -⟩ := C
  intro hr H locs ls hP hS hl
  refine lv_irem (x := iI a) (y := iI b) hx hbc d (fun z => by rw [← iI_0, iI_eq hb' ⟨by omega, by omega⟩] at z; omega) ?_
  have h := Int32.ofInt_tdiv (a := a) (b := b) (by have := ha.1; have : Int32.minValue.toInt = -2147483648 := by decide
                                                   omega) (by have := ha.2; have : Int32.maxValue.toInt = 2147483647 := by decide
                                                              omega) (by have := hb'.1; have : Int32.minValue.toInt = -2147483648 := by decide
                                                                         omega) (by have := hb'.2; have : Int32.maxValue.toInt = 2147483647 := by decide
                                                                                    omega)
  have e1 : iI a - iI a / iI b * iI b = iI (Int.tmod a b) := by
    have e2 : iI a / iI b = iI (Int.tdiv a b) := h.symm
    rw [e2, iI_mul, iI_sub]
    congr 1
    have := Int.tmod_add_mul_tdiv a b
    have h3 : b * Int.tdiv a b = Int.tdiv a b * b := Int.mul_comm ..
    omega
  rw [e1]
  exact K hr H locs ls hP hS hl
/-- the bit of one among his side's -/
def zbit (p : Int) : Int := zshl 1 (p % 5)
theorem zbit_val : ∀ p : Int, 0 ≤ p → p < 10 → zbit p = if p % 5 = 0 then 1 else if p % 5 = 1 then 2 else if p % 5 = 2 then 4 else if p % 5 = 3 then 8 else 16 := by
  intro p h0 h1
  unfold zbit
  rcases (by omega : p % 5 = 0 ∨ p % 5 = 1 ∨ p % 5 = 2 ∨ p % 5 = 3 ∨ p % 5 = 4) with h | h | h | h | h <;> rw [h] <;> decide
theorem zxor_sign : ∀ a : Int, -64 ≤ a → a < 64 → ∀ b : Int, 1 ≤ b → b < 6 → (zR (zxor a b) ∧ (0 ≤ zxor a b ↔ 0 ≤ a)) := by
  have key : ((List.range 128).all fun i => (List.range 5).all fun j => decide (zR (zxor ((i : Int) - 64) ((j : Int) + 1)) ∧ (0 ≤ zxor ((i : Int) - 64) ((j : Int) + 1) ↔ 0 ≤ (i : Int) - 64))) = true := by decide +kernel
  intro a h1 h2 b h3 h4
  have h5 := List.all_eq_true.mp key (a + 64).toNat (List.mem_range.mpr (by omega))
  have h6 := List.all_eq_true.mp h5 (b - 1).toNat (List.mem_range.mpr (by omega))
  have e1 : ((a + 64).toNat : Int) - 64 = a := by omega
  have e2 : ((b - 1).toNat : Int) + 1 = b := by omega
  rw [e1, e2] at h6
  exact of_decide_eq_true h6
theorem tmod_mod {a b : Int} (hb : 0 < b) : a % b = if 0 ≤ a then Int.tmod a b else if Int.tmod a b = 0 then 0 else Int.tmod a b + b := by
  by_cases h : 0 ≤ a
  · rw [if_pos h, Int.tmod_eq_emod_of_nonneg h]
  · rw [if_neg h, Int.tmod_eq_emod]
    have h1 := Int.emod_nonneg a (show b ≠ 0 by omega)
    have h2 := Int.emod_lt_of_pos a hb
    by_cases hd : b ∣ a
    · have h3 := Int.emod_eq_zero_of_dvd hd
      simp [hd, h3]
    · have h3 : ¬ (0 ≤ a ∨ b ∣ a) := by rintro (q | q); exact h q; exact hd q
      rw [if_neg h3, show ((b.natAbs : Nat) : Int) = b by omega]
      have h4 : a % b ≠ 0 := fun q => hd (Int.dvd_of_emod_eq_zero q)
      split <;> omega
/-- the same, of a class of the JDK that has entries -/
theorem zMi_ofF {l : Launch} {y : MethodName} {cc : ByteArray} {nL f nw : Nat} {ty : FieldType} {as : List zV} {μ : zM} {post : Int → zM → Prop} {own : String} (hy : plainFor y = true) (hown : y.cls = own) (hn : as.length ≤ nL)
    (body : ∀ X : zX, zl X = l → zC X nL cc own (zws y cc nL (some ty)) f nw → zRM μ → (∀ {pc : Nat} {μ' : zM} {L : List (Nat × zV)} {r : Int}, decode cc pc = .ok (.ireturn, 1) → zR r → narrow ty (.int (iI r)) = .int (iI r) → post r μ' → zJ X nL μ' pc L [.inl r]) → zJ X nL μ 0 (zent 0 as) []) : zMi l y cc nL ty f nw as μ post := by
  intro G sz hr
  refine va_MetF (cc := cc) (maxL := nL) (ret := some ty) hy rfl ?_
  intro p e s m args below meth c s₁ B hml hv
  obtain ⟨rfl, hsz, hP, hD0, hE⟩ := hv
  subst hsz
  have hx := B.exec
  have hb := B.bytes
  have hrt := B.returns
  have hlocks := B.notSynchronized
  have hts := atoms_spec (ws := zws y cc nL (some ty)) B.pre
  have hcls : s.vm.findClass own = some m.cls := hown ▸ findClass_of_methodNamed B.named
  have hl := lv_entry (as.map (zv G)) (n := nL) (by rw [zsl_len]; exact hn)
  rw [lg_entry_eq]
  rw [zent_args] at hl
  have hA : ∀ q : Nat, s.heap.size ≤ q → zA G s.heap.size q := fun q h => Or.inr h
  have hD : va_D (zA G s.heap.size) (zW G (fun _ _ => 0)) := zD_weak (zD_any _ hD0) (fun i hi => Or.inl ⟨i, hi, rfl⟩)
  have J := body (p, l, e, (headSpec (zws y cc nL (some ty)) (zrm f nw)).room, s, m, (as.map (zv G)).toArray, below, meth, c, MQ below (va_Qi (fun (r : Int32) (u : Int × zM) => r = iI u.1 ∧ zR u.1 ∧ zRM u.2 ∧ post u.1 u.2) (fun u t => va_P G.1 vwCl (zW G u.2) t.heap) (zA G s.heap.size)) (as.map (zv G)).toArray s 0 0 (zA G s.heap.size), zA G s.heap.size, G, 0, 0) rfl ⟨hx, hb, hml, hcls, hts, fun w hw => List.mem_cons_of_mem _ hw, hA, hD, hE, Nat.le_refl _, Nat.le_refl _, Nat.zero_le _, Nat.zero_le _⟩ hr (by
    intro pc μ' L r d hR hn hp hrm H locs ls hP hS hl
    exact W.zret (v := iI r) hx hb hrt hn (fun t ht hW => ⟨⟨iI r, (r, μ'), rfl, ⟨rfl, hR, hrm, hp⟩, by show va_P G.1 vwCl (zW G μ') t.heap; rw [ht]; exact hP⟩, hS.F ht⟩) hS.2.2 d)
  exact J hr s.heap [] _ hP va_S.rf hl
end
section
/-! contracts: the JDK's floorMod, max, min; the class's static helpers; Told -/
def vN (v : zVw) : Int := if vL v ≤ vR v then vR v else vL v
theorem vN_ok {v : zVw} (h : vOK v) : (0 ≤ vN v ∧ vN v ≤ 5) ∧ vL v ≤ vN v ∧ vR v ≤ vN v ∧ (vN v = vL v ∨ vN v = vR v) := by
  obtain ⟨h1, h2, -⟩ := h
  unfold vN
  split <;> omega
set_option maxHeartbeats 4000000 in
theorem c_J9_floorMod_7cf53 (l : Launch) (μ : zM) (x y : Int) (hx : -64 ≤ x ∧ x < 64) (hy : 1 ≤ y ∧ y < 6) : zMi l yJ9_floorMod_7cf53 cJ9_floorMod_7cf53 3 (.int) 0 0 [.inl x, .inl y] μ (fun (r : Int) (m : zM) => μ = m ∧ r = x % y) := by
  refine zMi_ofF (own := RJ9) (by decide +kernel) rfl (Nat.le_of_ble_eq_true rfl) ?_
  intro X hX C hrm E
  subst hX
  show zJ X 3 μ 0 [(0, .inl x), (1, .inl y)] []
  have hs := zxor_sign x hx.1 hx.2 y hy.1 hy.2
  have ht := tmod_mod (a := x) (b := y) (by omega)
  have hb1 := Int.tmod_lt_of_pos x (show 0 < y by omega)
  have hb2 : -y < Int.tmod x y := Int.lt_tmod_of_pos x (by omega)
  refine z_iload_n C dJ9_floorMod_7cf53_0 0 rfl ?_
  refine z_iload_n C dJ9_floorMod_7cf53_1 1 rfl ?_
  refine z_iremT C dJ9_floorMod_7cf53_2 (by omega) (by omega) ?_
  refine z_istore_n C dJ9_floorMod_7cf53_3 (by decide) (L' := [(0, _), (1, _), (2, _)]) rfl ?_
  refine z_iload_n C dJ9_floorMod_7cf53_4 0 rfl ?_
  refine z_iload_n C dJ9_floorMod_7cf53_5 1 rfl ?_
  refine z_ixor C dJ9_floorMod_7cf53_6 ?_
  refine z_if_ge C dJ9_floorMod_7cf53_7 (tgt := 18) (by decide) (by omega) (fun c1 => ?_) (fun c1 => ?_)
  · refine z_iload_n C dJ9_floorMod_7cf53_18 2 rfl ?_
    exact E dJ9_floorMod_7cf53_19 (by omega) rfl ⟨rfl, (by first | (rw [ht, if_pos (by omega)]) | (rw [ht, if_neg (by omega), if_pos (by omega)]; omega) | (rw [ht, if_neg (by omega), if_neg (by omega)]))⟩
  · refine z_iload_n C dJ9_floorMod_7cf53_10 2 rfl ?_
    refine z_if_eq C dJ9_floorMod_7cf53_11 (tgt := 18) (by decide) (by omega) (fun c2 => ?_) (fun c2 => ?_)
    · refine z_iload_n C dJ9_floorMod_7cf53_18 2 rfl ?_
      exact E dJ9_floorMod_7cf53_19 (by omega) rfl ⟨rfl, (by first | (rw [ht, if_pos (by omega)]) | (rw [ht, if_neg (by omega), if_pos (by omega)]; omega) | (rw [ht, if_neg (by omega), if_neg (by omega)]))⟩
    · refine z_iload_n C dJ9_floorMod_7cf53_14 2 rfl ?_
      refine z_iload_n C dJ9_floorMod_7cf53_15 1 rfl ?_
      refine z_iadd C dJ9_floorMod_7cf53_16 ?_
      exact E dJ9_floorMod_7cf53_17 (by omega) rfl ⟨rfl, (by first | (rw [ht, if_pos (by omega)]) | (rw [ht, if_neg (by omega), if_pos (by omega)]; omega) | (rw [ht, if_neg (by omega), if_neg (by omega)]))⟩
set_option maxHeartbeats 4000000 in
theorem c_J9_max_7cf53 (l : Launch) (μ : zM) (x y : Int) (hx : zR x) (hy : zR y) : zMi l yJ9_max_7cf53 cJ9_max_7cf53 2 (.int) 0 0 [.inl x, .inl y] μ (fun (r : Int) (m : zM) => μ = m ∧ (x ≤ r ∧ y ≤ r ∧ (r = x ∨ r = y))) := by
  refine zMi_ofF (own := RJ9) (by decide +kernel) rfl (Nat.le_of_ble_eq_true rfl) ?_
  intro X hX C hrm E
  subst hX
  show zJ X 2 μ 0 [(0, .inl x), (1, .inl y)] []
  refine z_iload_n C dJ9_max_7cf53_0 0 rfl ?_
  refine z_iload_n C dJ9_max_7cf53_1 1 rfl ?_
  refine z_icmp_lt C dJ9_max_7cf53_2 (tgt := 9) (by decide) (by omega) (by omega) (fun c1 => ?_) (fun c1 => ?_)
  · refine z_iload_n C dJ9_max_7cf53_9 1 rfl ?_
    exact E dJ9_max_7cf53_10 (by omega) rfl ⟨rfl, by omega⟩
  · refine z_iload_n C dJ9_max_7cf53_5 0 rfl ?_
    refine z_goto C dJ9_max_7cf53_6 (tgt := 10) (by decide) ?_
    exact E dJ9_max_7cf53_10 (by omega) rfl ⟨rfl, by omega⟩
set_option maxHeartbeats 4000000 in
theorem c_J9_min_7cf53 (l : Launch) (μ : zM) (x y : Int) (hx : zR x) (hy : zR y) : zMi l yJ9_min_7cf53 cJ9_min_7cf53 2 (.int) 0 0 [.inl x, .inl y] μ (fun (r : Int) (m : zM) => μ = m ∧ (r ≤ x ∧ r ≤ y ∧ (r = x ∨ r = y))) := by
  refine zMi_ofF (own := RJ9) (by decide +kernel) rfl (Nat.le_of_ble_eq_true rfl) ?_
  intro X hX C hrm E
  subst hX
  show zJ X 2 μ 0 [(0, .inl x), (1, .inl y)] []
  refine z_iload_n C dJ9_min_7cf53_0 0 rfl ?_
  refine z_iload_n C dJ9_min_7cf53_1 1 rfl ?_
  refine z_icmp_gt C dJ9_min_7cf53_2 (tgt := 9) (by decide) (by omega) (by omega) (fun c1 => ?_) (fun c1 => ?_)
  · refine z_iload_n C dJ9_min_7cf53_9 1 rfl ?_
    exact E dJ9_min_7cf53_10 (by omega) rfl ⟨rfl, by omega⟩
  · refine z_iload_n C dJ9_min_7cf53_5 0 rfl ?_
    refine z_goto C dJ9_min_7cf53_6 (tgt := 10) (by decide) ?_
    exact E dJ9_min_7cf53_10 (by omega) rfl ⟨rfl, by omega⟩
set_option maxHeartbeats 4000000 in
theorem c_X5_sideOf (l : Launch) (μ : zM) (x : Int) (hx : zR x) : zMi l yX5_sideOf cX5_sideOf 1 (.int) 0 0 [.inl x] μ (fun (r : Int) (m : zM) => μ = m ∧ ((x < 5 ∧ r = 0) ∨ (5 ≤ x ∧ r = 1))) := by
  refine zMi_of (own := RX5) (by decide +kernel) rfl (Nat.le_of_ble_eq_true rfl) ?_
  intro X hX C hrm E
  subst hX
  show zJ X 1 μ 0 [(0, .inl x)] []
  refine z_iload_n C dX5_sideOf_0 0 rfl ?_
  refine z_iconst C dX5_sideOf_1 ?_
  refine z_icmp_ge C dX5_sideOf_2 (tgt := 9) (by decide) (by omega) (by decide) (fun c1 => ?_) (fun c1 => ?_)
  · refine z_iconst C dX5_sideOf_9 ?_
    exact E dX5_sideOf_10 (by decide) rfl ⟨rfl, by omega⟩
  · refine z_iconst C dX5_sideOf_5 ?_
    refine z_goto C dX5_sideOf_6 (tgt := 10) (by decide) ?_
    exact E dX5_sideOf_10 (by decide) rfl ⟨rfl, by omega⟩
set_option maxHeartbeats 4000000 in
theorem c_X5_otherStart (l : Launch) (μ : zM) (x : Int) (hx : zR x) : zMi l yX5_otherStart cX5_otherStart 1 (.int) 0 0 [.inl x] μ (fun (r : Int) (m : zM) => μ = m ∧ ((x < 5 ∧ r = 5) ∨ (5 ≤ x ∧ r = 0))) := by
  refine zMi_of (own := RX5) (by decide +kernel) rfl (Nat.le_of_ble_eq_true rfl) ?_
  intro X hX C hrm E
  subst hX
  show zJ X 1 μ 0 [(0, .inl x)] []
  refine z_iload_n C dX5_otherStart_0 0 rfl ?_
  refine z_iconst C dX5_otherStart_1 ?_
  refine z_icmp_ge C dX5_otherStart_2 (tgt := 9) (by decide) (by omega) (by decide) (fun c1 => ?_) (fun c1 => ?_)
  · refine z_iconst C dX5_otherStart_9 ?_
    exact E dX5_otherStart_10 (by decide) rfl ⟨rfl, by omega⟩
  · refine z_iconst C dX5_otherStart_5 ?_
    refine z_goto C dX5_otherStart_6 (tgt := 10) (by decide) ?_
    exact E dX5_otherStart_10 (by decide) rfl ⟨rfl, by omega⟩
set_option maxHeartbeats 4000000 in
theorem c_X5_bitOf (l : Launch) (μ : zM) (x : Int) (hx : 0 ≤ x ∧ x < 10) : zMi l yX5_bitOf cX5_bitOf 1 (.int) 0 0 [.inl x] μ (fun (r : Int) (m : zM) => μ = m ∧ r = zbit x) := by
  refine zMi_of (own := RX5) (by decide +kernel) rfl (Nat.le_of_ble_eq_true rfl) ?_
  intro X hX C hrm E
  subst hX
  show zJ X 1 μ 0 [(0, .inl x)] []
  refine z_iconst C dX5_bitOf_0 ?_
  refine z_iload_n C dX5_bitOf_1 0 rfl ?_
  refine z_iconst C dX5_bitOf_2 ?_
  refine z_irem C dX5_bitOf_3 (by omega) ?_
  refine z_ishl C dX5_bitOf_4 ?_
  exact E dX5_bitOf_5 (by have := zbit_val x hx.1 hx.2; unfold zbit at this; omega) rfl ⟨rfl, rfl⟩
set_option maxHeartbeats 4000000 in
theorem c_X5_isLaw (l : Launch) (μ : zM) (x : Int) (hx : zR x) : zMi l yX5_isLaw cX5_isLaw 1 (.boolean) 0 0 [.inl x] μ (fun (r : Int) (m : zM) => μ = m ∧ ((r = 1 ∧ (0 ≤ x ∧ x ≤ 3)) ∨ (r = 0 ∧ ¬ (0 ≤ x ∧ x ≤ 3)))) := by
  refine zMi_of (own := RX5) (by decide +kernel) rfl (Nat.le_of_ble_eq_true rfl) ?_
  intro X hX C hrm E
  subst hX
  show zJ X 1 μ 0 [(0, .inl x)] []
  refine z_iload_n C dX5_isLaw_0 0 rfl ?_
  refine z_if_lt C dX5_isLaw_1 (tgt := 13) (by decide) (by omega) (fun c1 => ?_) (fun c1 => ?_)
  · refine z_iconst C dX5_isLaw_13 ?_
    exact E dX5_isLaw_14 (by decide) (z_nb (Or.inl rfl)) ⟨rfl, Or.inr ⟨rfl, by omega⟩⟩
  · refine z_iload_n C dX5_isLaw_4 0 rfl ?_
    refine z_iconst C dX5_isLaw_5 ?_
    refine z_icmp_gt C dX5_isLaw_6 (tgt := 13) (by decide) (by omega) (by decide) (fun c2 => ?_) (fun c2 => ?_)
    · refine z_iconst C dX5_isLaw_13 ?_
      exact E dX5_isLaw_14 (by decide) (z_nb (Or.inl rfl)) ⟨rfl, Or.inr ⟨rfl, by omega⟩⟩
    · refine z_iconst C dX5_isLaw_9 ?_
      refine z_goto C dX5_isLaw_10 (tgt := 14) (by decide) ?_
      exact E dX5_isLaw_14 (by decide) (z_nb (Or.inr rfl)) ⟨rfl, Or.inl ⟨rfl, by omega⟩⟩
set_option maxHeartbeats 4000000 in
theorem c_X4_isThere (l : Launch) (μ : zM) (t : Nat) (ht : zTo t) (v : zVw) (hv : zT μ t v) (ho : vOK v) (x : Int) (hx : zR x) : zMi l yX4_isThere cX4_isThere 2 (.boolean) 1 20 [.inr t, .inl x] μ (fun (r : Int) (m : zM) => μ = m ∧ ((r = 1 ∧ (vTh v x)) ∨ (r = 0 ∧ ¬ (vTh v x)))) := by
  refine zMi_of (own := RX4) (by decide +kernel) rfl (Nat.le_of_ble_eq_true rfl) ?_
  intro X hX C hrm E
  subst hX
  show zJ X 2 μ 0 [(0, .inr t), (1, .inl x)] []
  obtain ⟨hv1, hv2, hv3, hv4, hv5, hv6, hv7⟩ := id hv
  obtain ⟨ho1, ho2, ho3, ho4, ho5, ho6, ho7⟩ := id ho
  refine z_iload_n C dX4_isThere_0 1 rfl ?_
  refine z_if_lt C dX4_isThere_1 (tgt := 29) (by decide) (by omega) (fun c1 => ?_) (fun c1 => ?_)
  · refine z_iconst C dX4_isThere_29 ?_
    exact E dX4_isThere_30 (by decide) (z_nb (Or.inl rfl)) ⟨rfl, Or.inr ⟨rfl, by omega⟩⟩
  · refine z_iload_n C dX4_isThere_4 1 rfl ?_
    refine z_bipush C dX4_isThere_5 (by decide) ?_
    refine z_icmp_ge C dX4_isThere_7 (tgt := 29) (by decide) (by omega) (by decide) (fun c2 => ?_) (fun c2 => ?_)
    · refine z_iconst C dX4_isThere_29 ?_
      exact E dX4_isThere_30 (by decide) (z_nb (Or.inl rfl)) ⟨rfl, Or.inr ⟨rfl, by omega⟩⟩
    · refine z_iload_n C dX4_isThere_10 1 rfl ?_
      refine z_iconst C dX4_isThere_11 ?_
      refine z_irem C dX4_isThere_12 (by omega) ?_
      refine z_aload_n C dX4_isThere_13 0 rfl ?_
      refine z_getR C ffX4_9 dX4_isThere_14 (by have := zto_lt ht; omega) (zd_to0 ht) rfl ?_
      refine z_iload_n C dX4_isThere_17 1 rfl ?_
      refine z_callNi C (c_X5_sideOf (zl X) μ x (by omega)) yyX5_sideOf (by decide +kernel) dX4_isThere_18 rfl rfl (Nat.le_of_ble_eq_true rfl) (by decide) (fun r3 m3 hr3 hp3 => ?_)
      obtain ⟨rfl, hp3⟩ := hp3
      rcases hp3 with ⟨hp3, rfl⟩ | ⟨hp3, rfl⟩
      · refine z_iald C dX4_isThere_21 (by have := zto_lt ht; omega) (zd_to1 ht) (by decide) (by decide) (fun hr4 => ?_)
        refine z_icmp_ge C dX4_isThere_22 (tgt := 29) (by decide) (by omega) (by omega) (fun c5 => ?_) (fun c5 => ?_)
        · refine z_iconst C dX4_isThere_29 ?_
          exact E dX4_isThere_30 (by decide) (z_nb (Or.inl rfl)) ⟨rfl, Or.inr ⟨rfl, by omega⟩⟩
        · refine z_iconst C dX4_isThere_25 ?_
          refine z_goto C dX4_isThere_26 (tgt := 30) (by decide) ?_
          exact E dX4_isThere_30 (by decide) (z_nb (Or.inr rfl)) ⟨rfl, Or.inl ⟨rfl, by omega⟩⟩
      · refine z_iald C dX4_isThere_21 (by have := zto_lt ht; omega) (zd_to1 ht) (by decide) (by decide) (fun hr6 => ?_)
        refine z_icmp_ge C dX4_isThere_22 (tgt := 29) (by decide) (by omega) (by omega) (fun c7 => ?_) (fun c7 => ?_)
        · refine z_iconst C dX4_isThere_29 ?_
          exact E dX4_isThere_30 (by decide) (z_nb (Or.inl rfl)) ⟨rfl, Or.inr ⟨rfl, by omega⟩⟩
        · refine z_iconst C dX4_isThere_25 ?_
          refine z_goto C dX4_isThere_26 (tgt := 30) (by decide) ?_
          exact E dX4_isThere_30 (by decide) (z_nb (Or.inr rfl)) ⟨rfl, Or.inl ⟨rfl, by omega⟩⟩
set_option maxHeartbeats 4000000 in
theorem c_X4_areUnlike (l : Launch) (μ : zM) (t : Nat) (ht : zTo t) (v : zVw) (hv : zT μ t v) (ho : vOK v) (x y : Int) (hx : zR x) (hy : zR y) : zMi l yX4_areUnlike cX4_areUnlike 3 (.boolean) 2 41 [.inr t, .inl x, .inl y] μ (fun (r : Int) (m : zM) => μ = m ∧ ((r = 1 ∧ (vTh v x ∧ vTh v y ∧ zU x y)) ∨ (r = 0 ∧ ¬ (vTh v x ∧ vTh v y ∧ zU x y)))) := by
  refine zMi_of (own := RX4) (by decide +kernel) rfl (Nat.le_of_ble_eq_true rfl) ?_
  intro X hX C hrm E
  subst hX
  show zJ X 3 μ 0 [(0, .inr t), (1, .inl x), (2, .inl y)] []
  obtain ⟨hv1, hv2, hv3, hv4, hv5, hv6, hv7⟩ := id hv
  obtain ⟨ho1, ho2, ho3, ho4, ho5, ho6, ho7⟩ := id ho
  refine z_aload_n C dX4_areUnlike_0 0 rfl ?_
  refine z_iload_n C dX4_areUnlike_1 1 rfl ?_
  refine z_callVi C (c_X4_isThere (zl X) μ t ht v hv ho x (by omega)) yyX4_isThere mlX4_44 (zRc_of C (by have := zto_lt ht; omega) (zd_to0 ht) rfl) dX4_areUnlike_2 rfl rfl (Nat.le_of_ble_eq_true rfl) (by decide) (fun r1 m1 hr1 hp1 => ?_)
  obtain ⟨rfl, hp1⟩ := hp1
  rcases hp1 with ⟨rfl, hp1⟩ | ⟨rfl, hp1⟩
  · refine z_if_eq C dX4_areUnlike_5 (tgt := 31) (by decide) (by decide) (fun c2 => (by exfalso; omega)) (fun _ => ?_)
    refine z_aload_n C dX4_areUnlike_8 0 rfl ?_
    refine z_iload_n C dX4_areUnlike_9 2 rfl ?_
    refine z_callVi C (c_X4_isThere (zl X) μ t ht v hv ho y (by omega)) yyX4_isThere mlX4_44 (zRc_of C (by have := zto_lt ht; omega) (zd_to0 ht) rfl) dX4_areUnlike_10 rfl rfl (Nat.le_of_ble_eq_true rfl) (by decide) (fun r3 m3 hr3 hp3 => ?_)
    obtain ⟨rfl, hp3⟩ := hp3
    rcases hp3 with ⟨rfl, hp3⟩ | ⟨rfl, hp3⟩
    · refine z_if_eq C dX4_areUnlike_13 (tgt := 31) (by decide) (by decide) (fun c4 => (by exfalso; omega)) (fun _ => ?_)
      refine z_iload_n C dX4_areUnlike_16 1 rfl ?_
      refine z_callNi C (c_X5_sideOf (zl X) μ x (by omega)) yyX5_sideOf (by decide +kernel) dX4_areUnlike_17 rfl rfl (Nat.le_of_ble_eq_true rfl) (by decide) (fun r5 m5 hr5 hp5 => ?_)
      obtain ⟨rfl, hp5⟩ := hp5
      rcases hp5 with ⟨hp5, rfl⟩ | ⟨hp5, rfl⟩
      · refine z_iload_n C dX4_areUnlike_20 2 rfl ?_
        refine z_callNi C (c_X5_sideOf (zl X) μ y (by omega)) yyX5_sideOf (by decide +kernel) dX4_areUnlike_21 rfl rfl (Nat.le_of_ble_eq_true rfl) (by decide) (fun r6 m6 hr6 hp6 => ?_)
        obtain ⟨rfl, hp6⟩ := hp6
        rcases hp6 with ⟨hp6, rfl⟩ | ⟨hp6, rfl⟩
        · refine z_icmp_eq C dX4_areUnlike_24 (tgt := 31) (by decide) (by decide) (by decide) (fun _ => ?_) (fun c7 => (by exfalso; omega))
          refine z_iconst C dX4_areUnlike_31 ?_
          exact E dX4_areUnlike_32 (by decide) (z_nb (Or.inl rfl)) ⟨rfl, Or.inr ⟨rfl, by omega⟩⟩
        · refine z_icmp_eq C dX4_areUnlike_24 (tgt := 31) (by decide) (by decide) (by decide) (fun c8 => (by exfalso; omega)) (fun _ => ?_)
          refine z_iconst C dX4_areUnlike_27 ?_
          refine z_goto C dX4_areUnlike_28 (tgt := 32) (by decide) ?_
          exact E dX4_areUnlike_32 (by decide) (z_nb (Or.inr rfl)) ⟨rfl, Or.inl ⟨rfl, by omega⟩⟩
      · refine z_iload_n C dX4_areUnlike_20 2 rfl ?_
        refine z_callNi C (c_X5_sideOf (zl X) μ y (by omega)) yyX5_sideOf (by decide +kernel) dX4_areUnlike_21 rfl rfl (Nat.le_of_ble_eq_true rfl) (by decide) (fun r9 m9 hr9 hp9 => ?_)
        obtain ⟨rfl, hp9⟩ := hp9
        rcases hp9 with ⟨hp9, rfl⟩ | ⟨hp9, rfl⟩
        · refine z_icmp_eq C dX4_areUnlike_24 (tgt := 31) (by decide) (by decide) (by decide) (fun c10 => (by exfalso; omega)) (fun _ => ?_)
          refine z_iconst C dX4_areUnlike_27 ?_
          refine z_goto C dX4_areUnlike_28 (tgt := 32) (by decide) ?_
          exact E dX4_areUnlike_32 (by decide) (z_nb (Or.inr rfl)) ⟨rfl, Or.inl ⟨rfl, by omega⟩⟩
        · refine z_icmp_eq C dX4_areUnlike_24 (tgt := 31) (by decide) (by decide) (by decide) (fun _ => ?_) (fun c11 => (by exfalso; omega))
          refine z_iconst C dX4_areUnlike_31 ?_
          exact E dX4_areUnlike_32 (by decide) (z_nb (Or.inl rfl)) ⟨rfl, Or.inr ⟨rfl, by omega⟩⟩
    · refine z_if_eq C dX4_areUnlike_13 (tgt := 31) (by decide) (by decide) (fun _ => ?_) (fun c12 => (by exfalso; omega))
      refine z_iconst C dX4_areUnlike_31 ?_
      exact E dX4_areUnlike_32 (by decide) (z_nb (Or.inl rfl)) ⟨rfl, Or.inr ⟨rfl, by omega⟩⟩
  · refine z_if_eq C dX4_areUnlike_5 (tgt := 31) (by decide) (by decide) (fun _ => ?_) (fun c13 => (by exfalso; omega))
    refine z_iconst C dX4_areUnlike_31 ?_
    exact E dX4_areUnlike_32 (by decide) (z_nb (Or.inl rfl)) ⟨rfl, Or.inr ⟨rfl, by omega⟩⟩
set_option maxHeartbeats 4000000 in
theorem c_X4_howManyPeople (l : Launch) (μ : zM) (t : Nat) (ht : zTo t) (v : zVw) (hv : zT μ t v) (ho : vOK v) : zMi l yX4_howManyPeople cX4_howManyPeople 1 (.int) 0 0 [.inr t] μ (fun (r : Int) (m : zM) => μ = m ∧ r = vL v + vR v) := by
  refine zMi_of (own := RX4) (by decide +kernel) rfl (Nat.le_of_ble_eq_true rfl) ?_
  intro X hX C hrm E
  subst hX
  show zJ X 1 μ 0 [(0, .inr t)] []
  obtain ⟨hv1, hv2, hv3, hv4, hv5, hv6, hv7⟩ := id hv
  obtain ⟨ho1, ho2, ho3, ho4, ho5, ho6, ho7⟩ := id ho
  refine z_aload_n C dX4_howManyPeople_0 0 rfl ?_
  refine z_getR C ffX4_9 dX4_howManyPeople_1 (by have := zto_lt ht; omega) (zd_to0 ht) rfl ?_
  refine z_iconst C dX4_howManyPeople_4 ?_
  refine z_iald C dX4_howManyPeople_5 (by have := zto_lt ht; omega) (zd_to1 ht) (by decide) (by decide) (fun hr1 => ?_)
  refine z_aload_n C dX4_howManyPeople_6 0 rfl ?_
  refine z_getR C ffX4_9 dX4_howManyPeople_7 (by have := zto_lt ht; omega) (zd_to0 ht) rfl ?_
  refine z_iconst C dX4_howManyPeople_10 ?_
  refine z_iald C dX4_howManyPeople_11 (by have := zto_lt ht; omega) (zd_to1 ht) (by decide) (by decide) (fun hr2 => ?_)
  refine z_iadd C dX4_howManyPeople_12 ?_
  exact E dX4_howManyPeople_13 (by omega) rfl ⟨rfl, by omega⟩
set_option maxHeartbeats 4000000 in
theorem c_X4_howManyFacing (l : Launch) (μ : zM) (t : Nat) (ht : zTo t) (v : zVw) (hv : zT μ t v) (ho : vOK v) (x : Int) (hx : zR x) : zMi l yX4_howManyFacing cX4_howManyFacing 2 (.int) 1 20 [.inr t, .inl x] μ (fun (r : Int) (m : zM) => μ = m ∧ ((x < 5 ∧ r = vR v) ∨ (5 ≤ x ∧ r = vL v))) := by
  refine zMi_of (own := RX4) (by decide +kernel) rfl (Nat.le_of_ble_eq_true rfl) ?_
  intro X hX C hrm E
  subst hX
  show zJ X 2 μ 0 [(0, .inr t), (1, .inl x)] []
  obtain ⟨hv1, hv2, hv3, hv4, hv5, hv6, hv7⟩ := id hv
  obtain ⟨ho1, ho2, ho3, ho4, ho5, ho6, ho7⟩ := id ho
  refine z_aload_n C dX4_howManyFacing_0 0 rfl ?_
  refine z_getR C ffX4_9 dX4_howManyFacing_1 (by have := zto_lt ht; omega) (zd_to0 ht) rfl ?_
  refine z_iconst C dX4_howManyFacing_4 ?_
  refine z_iload_n C dX4_howManyFacing_5 1 rfl ?_
  refine z_callNi C (c_X5_sideOf (zl X) μ x (by omega)) yyX5_sideOf (by decide +kernel) dX4_howManyFacing_6 rfl rfl (Nat.le_of_ble_eq_true rfl) (by decide) (fun r1 m1 hr1 hp1 => ?_)
  obtain ⟨rfl, hp1⟩ := hp1
  rcases hp1 with ⟨hp1, rfl⟩ | ⟨hp1, rfl⟩
  · refine z_isub C dX4_howManyFacing_9 ?_
    refine z_iald C dX4_howManyFacing_10 (by have := zto_lt ht; omega) (zd_to1 ht) (by omega) (by decide) (fun hr2 => ?_)
    exact E dX4_howManyFacing_11 (by have e1 : (1 : Int) - 0 = 1 := rfl; have e2 : (1 : Int) - 1 = 0 := rfl; simp only [e1, e2] at *; omega) rfl ⟨rfl, by have e1 : (1 : Int) - 0 = 1 := rfl; have e2 : (1 : Int) - 1 = 0 := rfl; simp only [e1, e2] at *; omega⟩
  · refine z_isub C dX4_howManyFacing_9 ?_
    refine z_iald C dX4_howManyFacing_10 (by have := zto_lt ht; omega) (zd_to1 ht) (by omega) (by decide) (fun hr3 => ?_)
    exact E dX4_howManyFacing_11 (by have e1 : (1 : Int) - 0 = 1 := rfl; have e2 : (1 : Int) - 1 = 0 := rfl; simp only [e1, e2] at *; omega) rfl ⟨rfl, by have e1 : (1 : Int) - 0 = 1 := rfl; have e2 : (1 : Int) - 1 = 0 := rfl; simp only [e1, e2] at *; omega⟩
set_option maxHeartbeats 4000000 in
theorem c_X4_rounds (l : Launch) (μ : zM) (t : Nat) (ht : zTo t) (v : zVw) (hv : zT μ t v) (ho : vOK v) : zMi l yX4_rounds cX4_rounds 1 (.int) 1 21 [.inr t] μ (fun (r : Int) (m : zM) => μ = m ∧ r = vN v) := by
  refine zMi_of (own := RX4) (by decide +kernel) rfl (Nat.le_of_ble_eq_true rfl) ?_
  intro X hX C hrm E
  subst hX
  show zJ X 1 μ 0 [(0, .inr t)] []
  obtain ⟨hv1, hv2, hv3, hv4, hv5, hv6, hv7⟩ := id hv
  obtain ⟨ho1, ho2, ho3, ho4, ho5, ho6, ho7⟩ := id ho
  refine z_aload_n C dX4_rounds_0 0 rfl ?_
  refine z_getR C ffX4_9 dX4_rounds_1 (by have := zto_lt ht; omega) (zd_to0 ht) rfl ?_
  refine z_iconst C dX4_rounds_4 ?_
  refine z_iald C dX4_rounds_5 (by have := zto_lt ht; omega) (zd_to1 ht) (by decide) (by decide) (fun hr1 => ?_)
  refine z_aload_n C dX4_rounds_6 0 rfl ?_
  refine z_getR C ffX4_9 dX4_rounds_7 (by have := zto_lt ht; omega) (zd_to0 ht) rfl ?_
  refine z_iconst C dX4_rounds_10 ?_
  refine z_iald C dX4_rounds_11 (by have := zto_lt ht; omega) (zd_to1 ht) (by decide) (by decide) (fun hr2 => ?_)
  refine z_callSi C (c_J9_max_7cf53 (zl X) μ (μ (t + 1) 0) (μ (t + 1) 1) (by omega) (by omega)) yyJ9_max_7cf53 mlX4_48 dX4_rounds_12 rfl rfl (Nat.le_of_ble_eq_true rfl) (by decide) (fun r3 m3 hr3 hp3 => ?_)
  obtain ⟨rfl, hp3⟩ := hp3
  exact E dX4_rounds_15 (by omega) rfl ⟨rfl, (by unfold vN; split <;> omega)⟩
set_option maxHeartbeats 4000000 in
theorem c_X4_isRound (l : Launch) (μ : zM) (t : Nat) (ht : zTo t) (v : zVw) (hv : zT μ t v) (ho : vOK v) (x : Int) (hx : zR x) : zMi l yX4_isRound cX4_isRound 2 (.boolean) 2 41 [.inr t, .inl x] μ (fun (r : Int) (m : zM) => μ = m ∧ ((r = 1 ∧ (0 ≤ x ∧ x < vN v)) ∨ (r = 0 ∧ ¬ (0 ≤ x ∧ x < vN v)))) := by
  refine zMi_of (own := RX4) (by decide +kernel) rfl (Nat.le_of_ble_eq_true rfl) ?_
  intro X hX C hrm E
  subst hX
  show zJ X 2 μ 0 [(0, .inr t), (1, .inl x)] []
  obtain ⟨hv1, hv2, hv3, hv4, hv5, hv6, hv7⟩ := id hv
  obtain ⟨ho1, ho2, ho3, ho4, ho5, ho6, ho7⟩ := id ho
  have hN := vN_ok ho
  refine z_iload_n C dX4_isRound_0 1 rfl ?_
  refine z_if_lt C dX4_isRound_1 (tgt := 16) (by decide) (by omega) (fun c1 => ?_) (fun c1 => ?_)
  · refine z_iconst C dX4_isRound_16 ?_
    exact E dX4_isRound_17 (by decide) (z_nb (Or.inl rfl)) ⟨rfl, Or.inr ⟨rfl, by omega⟩⟩
  · refine z_iload_n C dX4_isRound_4 1 rfl ?_
    refine z_aload_n C dX4_isRound_5 0 rfl ?_
    refine z_callVi C (c_X4_rounds (zl X) μ t ht v hv ho) yyX4_rounds mlX4_54 (zRc_of C (by have := zto_lt ht; omega) (zd_to0 ht) rfl) dX4_isRound_6 rfl rfl (Nat.le_of_ble_eq_true rfl) (by decide) (fun r2 m2 hr2 hp2 => ?_)
    obtain ⟨rfl, hp2⟩ := hp2
    refine z_icmp_ge C dX4_isRound_9 (tgt := 16) (by decide) (by omega) (by omega) (fun c3 => ?_) (fun c3 => ?_)
    · refine z_iconst C dX4_isRound_16 ?_
      exact E dX4_isRound_17 (by decide) (z_nb (Or.inl rfl)) ⟨rfl, Or.inr ⟨rfl, by omega⟩⟩
    · refine z_iconst C dX4_isRound_12 ?_
      refine z_goto C dX4_isRound_13 (tgt := 17) (by decide) ?_
      exact E dX4_isRound_17 (by decide) (z_nb (Or.inr rfl)) ⟨rfl, Or.inl ⟨rfl, by omega⟩⟩
set_option maxHeartbeats 4000000 in
theorem c_X4_likes (l : Launch) (μ : zM) (t : Nat) (ht : zTo t) (v : zVw) (hv : zT μ t v) (ho : vOK v) (x y : Int) (hxy : zU x y) : zMi l yX4_likes cX4_likes 3 (.int) 0 0 [.inr t, .inl x, .inl y] μ (fun (r : Int) (m : zM) => μ = m ∧ r = vA v x y) := by
  refine zMi_of (own := RX4) (by decide +kernel) rfl (Nat.le_of_ble_eq_true rfl) ?_
  intro X hX C hrm E
  subst hX
  show zJ X 3 μ 0 [(0, .inr t), (1, .inl x), (2, .inl y)] []
  obtain ⟨hv1, hv2, hv3, hv4, hv5, hv6, hv7⟩ := id hv
  obtain ⟨ho1, ho2, ho3, ho4, ho5, ho6, ho7⟩ := id ho
  refine z_aload_n C dX4_likes_0 0 rfl ?_
  refine z_getR C ffX4_21 dX4_likes_1 (by have := zto_lt ht; omega) (zd_to0 ht) rfl ?_
  refine z_iload_n C dX4_likes_4 1 rfl ?_
  refine z_bipush C dX4_likes_5 (by decide) ?_
  refine z_imul C dX4_likes_7 ?_
  refine z_iload_n C dX4_likes_8 2 rfl ?_
  refine z_iadd C dX4_likes_9 ?_
  refine z_iald C dX4_likes_10 (by have := zto_lt ht; omega) (zd_to4 ht) (by omega) (by decide) (fun hr1 => ?_)
  exact E dX4_likes_11 (by omega) rfl ⟨rfl, hv7 x y hxy⟩
set_option maxHeartbeats 4000000 in
theorem c_X4_setLiking (l : Launch) (μ : zM) (t : Nat) (ht : zTo t) (x y z : Int) (hx : 0 ≤ x ∧ x < 10) (hy : 0 ≤ y ∧ y < 10) (hz : 0 ≤ z ∧ z < 10) : zMv l yX4_setLiking cX4_setLiking 4 0 0 [.inr t, .inl x, .inl y, .inl z] μ (fun (m : zM) => m = zs μ (t + 4) (x * 10 + y) z) := by
  refine zMv_of (own := RX4) (by decide +kernel) rfl (Nat.le_of_ble_eq_true rfl) ?_
  intro X hX C hrm E
  subst hX
  show zJ X 4 μ 0 [(0, .inr t), (1, .inl x), (2, .inl y), (3, .inl z)] []
  refine z_aload_n C dX4_setLiking_0 0 rfl ?_
  refine z_getR C ffX4_21 dX4_setLiking_1 (by have := zto_lt ht; omega) (zd_to0 ht) rfl ?_
  refine z_iload_n C dX4_setLiking_4 1 rfl ?_
  refine z_bipush C dX4_setLiking_5 (by decide) ?_
  refine z_imul C dX4_setLiking_7 ?_
  refine z_iload_n C dX4_setLiking_8 2 rfl ?_
  refine z_iadd C dX4_setLiking_9 ?_
  refine z_iload_n C dX4_setLiking_10 3 rfl ?_
  refine z_iast C dX4_setLiking_11 (by have := zto_lt ht; omega) (zd_to4 ht) (by omega) (by decide) (by omega) ?_
  refine z_mem (fun m1 em1 => ?_)
  exact E dX4_setLiking_12 (by assumption)
end
section
/-! a row copied whole; what is told, changed -/
def zcp (μ : zM) (i j : Nat) (n : Int) : zM := fun a => if a = j then fun x => if 0 ≤ x ∧ x < n then μ i x else μ j x else μ a
theorem zcp_ne (μ : zM) {i j a : Nat} (n : Int) (h : a ≠ j) : zcp μ i j n a = μ a := by simp [zcp, h]
theorem zcp_at (μ : zM) (i j : Nat) (n x : Int) : zcp μ i j n j x = if 0 ≤ x ∧ x < n then μ i x else μ j x := by simp [zcp]
theorem zcp_R {μ : zM} (h : zRM μ) (i j : Nat) (n : Int) : zRM (zcp μ i j n) := by
  intro a b
  unfold zcp
  by_cases e : a = j
  · rw [if_pos e]
    by_cases e2 : 0 ≤ b ∧ b < n
    · rw [if_pos e2]; exact h i b
    · rw [if_neg e2]; exact h j b
  · rw [if_neg e]; exact h a b
theorem zW_setr (G : zG) (μ : zM) {i : Nat} (h : i < 68) (r : Int → Int) : (zW G μ).set i (G.2.2.2 i, zc G (zd i) r) = zW G (fun a => if a = i then r else μ a) := by
  apply List.ext_getElem?
  intro k
  by_cases hk : k = i
  · subst hk
    rw [List.getElem?_set_self (by simpa [zW] using h), zW_get G _ h]
    simp
  · rw [List.getElem?_set_ne (Ne.symm hk)]
    by_cases h2 : k < 68
    · rw [zW_get G _ h2, zW_get G _ h2]
      simp [hk]
    · rw [List.getElem?_eq_none (by simp [zW]; omega), List.getElem?_eq_none (by simp [zW]; omega)]
theorem zz_nat : Cond.native arraycopyName ∈ zBIG := zB_t 334 (by decide +kernel) rfl
theorem zz_sta : Cond.static arraycopyName ∈ zBIG := zB_t 333 (by decide +kernel) rfl
theorem zz_ini : Cond.initialized "java/lang/System" ∈ zBIG := zB_t 14 (by decide +kernel) rfl
theorem zz_lnk : Cond.methodLink RX4 34 arraycopyName ∈ zBIG := zB_t 332 (by decide +kernel) rfl
theorem z_acopy {X : zX} {nL : Nat} {cc : ByteArray} {own : String} {Ts : List Cond} {f nw : Nat} {μ : zM} {pc : Nat} {L : List (Nat × zV)} (C : zC X nL cc own Ts f nw) {idx i j n : Nat} (d : decode cc pc = .ok (.invokestatic idx, 3)) (hl0 : Cond.methodLink own idx arraycopyName ∈ zBIG) (hi : i < 68) (hj : j < 68) (hdi : zd i = .inr (.inl n)) (hdj : zd j = .inr (.inl n)) (hn : n ≤ 100) (nz : Int) (hnz : nz = (n : Int)) (hR : 1 ≤ f ∧ 18 ≤ nw) (K : zJ X nL (zcp μ i j nz) (pc + 3) L []) : zJ X nL μ pc L [.inl nz, .inl 0, .inr j, .inl 0, .inr i] := by
  obtain ⟨p, l, e, R, s, m, args, below, meth, c, Q, A, G, cells, slots⟩ := X
  obtain ⟨hx, hb, hml, hown, hts, hbig, hA, hD, hE, hr1, hr2, hr3, hr4⟩ := C
  intro hr H locs ls hP hS hl
  have hgi := zW_get G μ hi
  have hgj := zW_get G μ hj
  rw [hdi] at hgi
  rw [hdj] at hgj
  have e0 : (iI 0).toNatClampNeg = 0 := by decide
  have en : (iI nz).toNatClampNeg = n := by rw [hnz]; exact iI_clamp (n := 101) (by omega) (by omega) (by omega)
  have hz : ∀ z : Int, 0 ≤ z → z < 101 → ¬ iI z < 0 := fun z h1 h2 q => by
    rw [← iI_0, iI_lt ⟨by omega, by omega⟩ ⟨by omega, by omega⟩] at q
    omega
  refine va_copyi (f := fun x => iI (μ i (x : Int))) (g := fun x => iI (μ j (x : Int))) (sp := iI 0) (dp := iI 0) (n := iI nz) (rest := []) hx hb (by rw [hml]; exact hl.1.symm) hown (hts _ (hbig _ hl0)) (hts _ (hbig _ zz_nat)) (hts _ (hbig _ zz_sta)) (hts _ (hbig _ zz_ini)) hE.1 hP (zD_any μ hD) hS i j 0 0 hgi hgj rfl rfl rfl (hz 0 (by omega) (by omega)) (hz 0 (by omega) (by omega)) (hz nz (by omega) (by omega)) (by rw [e0, en]; omega) (by rw [e0, en]; omega) (fun _ _ => rfl) (Nat.le_trans hR.1 hr1) (Nat.le_trans hR.2 hr2) d (fun H1 locs1 hP1 hD1 hS1 => ?_)
  refine K (zcp_R hr i j nz) H1 locs1 ls ?_ hS1 hl
  have e1 : (zW G μ).set j (G.2.2.2 j, .inl (G.2.1, n, .inl (va_cpy (fun x : Nat => iI (μ i (x : Int))) (fun x : Nat => iI (μ j (x : Int))) (iI 0).toNatClampNeg (iI 0).toNatClampNeg (iI nz).toNatClampNeg))) = zW G (zcp μ i j nz) := by
    have e2 := zW_setr G μ hj (fun x => if 0 ≤ x ∧ x < nz then μ i x else μ j x)
    rw [hdj] at e2
    refine Eq.trans ?_ e2
    congr 6
    funext x
    rw [e0, en]
    unfold va_cpy
    by_cases h : x < n
    · rw [if_pos (by omega)]
      show iI (μ i ((0 + (x - 0) : Nat) : Int)) = iI (if 0 ≤ (x : Int) ∧ (x : Int) < nz then μ i (x : Int) else μ j (x : Int))
      rw [if_pos (by omega), Nat.sub_zero, Nat.zero_add]
    · rw [if_neg (by omega)]
      show iI (μ j (x : Int)) = iI (if 0 ≤ (x : Int) ∧ (x : Int) < nz then μ i (x : Int) else μ j (x : Int))
      rw [if_neg (by omega)]
  rw [← e1]
  exact hP1
/-- a set of what is told, elsewhere than at t -/
theorem zT_fr {μ m : zM} {t : Nat} {v : zVw} (h : zT μ t v) (hf : ∀ i, t ≤ i → i < t + 5 → m i = μ i) : zT m t v := by
  unfold zT at h ⊢
  rw [hf t (by omega) (by omega), hf (t + 1) (by omega) (by omega), hf (t + 2) (by omega) (by omega), hf (t + 3) (by omega) (by omega), hf (t + 4) (by omega) (by omega)]
  exact h
/-- one more comes -/
def vOne (v : zVw) (s : Int) : Int := if s = 0 then vL v else 5 + vR v
def vAdd (v : zVw) (s k b : Int) : zVw := (if s = 0 then vL v + 1 else vL v, if s = 0 then vR v else vR v + 1, vS v, vH v, vW v, fun p => if p = vOne v s then k else vK v p, fun p => if p = vOne v s then b else vB v p, fun x y => if x = vOne v s ∨ y = vOne v s then 5 else vA v x y)
def vLike (v : zVw) (a b z : Int) : zVw := (vL v, vR v, vS v, vH v, vW v, vK v, vB v, fun x y => if x = a ∧ y = b then z else vA v x y)
def vOrd (v : zVw) (s h : Int) : zVw := (vL v, vR v, s, h, vW v, vK v, vB v, vA v)
def vLaw (v : zVw) (w : Int) : zVw := (vL v, vR v, vS v, vH v, w, vK v, vB v, vA v)
theorem vAdd_ok {v : zVw} (h : vOK v) {s k b : Int} (hs : (s = 0 ∧ vL v < 5) ∨ (s = 1 ∧ vR v < 5)) (hk : 0 ≤ k ∧ k ≤ 5) (hb : 0 ≤ b ∧ b ≤ 9) : vOK (vAdd v s k b) := by
  obtain ⟨h1, h2, h3, h4, h5, h6, h7⟩ := h
  refine ⟨?_, ?_, h3, h4, h5, fun p p0 p1 => ⟨?_, ?_⟩, fun x y hxy => ?_⟩
  · show 0 ≤ (if s = 0 then vL v + 1 else vL v) ∧ (if s = 0 then vL v + 1 else vL v) ≤ 5
    split <;> omega
  · show 0 ≤ (if s = 0 then vR v else vR v + 1) ∧ (if s = 0 then vR v else vR v + 1) ≤ 5
    split <;> omega
  · show 0 ≤ (if p = vOne v s then k else vK v p) ∧ (if p = vOne v s then k else vK v p) ≤ 5
    have := (h6 p p0 p1).1
    split <;> omega
  · show 0 ≤ (if p = vOne v s then b else vB v p) ∧ (if p = vOne v s then b else vB v p) ≤ 9
    have := (h6 p p0 p1).2
    split <;> omega
  · show 0 ≤ (if x = vOne v s ∨ y = vOne v s then 5 else vA v x y) ∧ (if x = vOne v s ∨ y = vOne v s then 5 else vA v x y) ≤ 9
    have := h7 x y hxy
    split <;> omega
theorem vLike_ok {v : zVw} (h : vOK v) {a b z : Int} (hz : 0 ≤ z ∧ z ≤ 9) : vOK (vLike v a b z) := by
  obtain ⟨h1, h2, h3, h4, h5, h6, h7⟩ := h
  refine ⟨h1, h2, h3, h4, h5, h6, fun x y hxy => ?_⟩
  show 0 ≤ (if x = a ∧ y = b then z else vA v x y) ∧ (if x = a ∧ y = b then z else vA v x y) ≤ 9
  have := h7 x y hxy
  split <;> omega
theorem vOrd_ok {v : zVw} (h : vOK v) {s k : Int} (hs : 1 ≤ s ∧ s ≤ 4) (hk : 0 ≤ k ∧ k ≤ 4) : vOK (vOrd v s k) := by
  obtain ⟨h1, h2, h3, h4, h5, h6, h7⟩ := h
  exact ⟨h1, h2, hs, hk, h5, h6, h7⟩
theorem vLaw_ok {v : zVw} (h : vOK v) {w : Int} (hw : 0 ≤ w ∧ w ≤ 3) : vOK (vLaw v w) := by
  obtain ⟨h1, h2, h3, h4, h5, h6, h7⟩ := h
  exact ⟨h1, h2, h3, h4, hw, h6, h7⟩
theorem zT_like {μ : zM} {t : Nat} {v : zVw} (h : zT μ t v) {a b z : Int} (hab : zU a b) : zT (zs μ (t + 4) (a * 10 + b) z) t (vLike v a b z) := by
  obtain ⟨h1, h2, h3, h4, h5, h6, h7⟩ := h
  refine ⟨?_, ?_, ?_, ?_, ?_, fun p p0 p1 => ?_, fun x y hxy => ?_⟩
  · rw [zs_ne _ _ _ (by omega)]; exact h1
  · rw [zs_ne _ _ _ (by omega)]; exact h2
  · rw [zs_ne _ _ _ (by omega)]; exact h3
  · rw [zs_ne _ _ _ (by omega)]; exact h4
  · rw [zs_ne _ _ _ (by omega)]; exact h5
  · rw [zs_ne _ _ _ (by omega), zs_ne _ _ _ (by omega)]; exact h6 p p0 p1
  · rw [zs_at]
    show _ = if x = a ∧ y = b then z else vA v x y
    by_cases e : x = a ∧ y = b
    · rw [if_pos e, if_pos (by omega)]
    · rw [if_neg e, if_neg (by omega)]; exact h7 x y hxy
theorem zT_law {μ : zM} {t : Nat} {v : zVw} (h : zT μ t v) {w : Int} : zT (zs μ t 6 w) t (vLaw v w) := by
  obtain ⟨h1, h2, h3, h4, h5, h6, h7⟩ := h
  refine ⟨?_, ?_, ?_, ?_, ?_, fun p p0 p1 => ?_, fun x y hxy => ?_⟩
  · rw [zs_ne _ _ _ (by omega)]; exact h1
  · rw [zs_ne _ _ _ (by omega)]; exact h2
  · rw [zs_ne2 _ _ _ (by omega)]; exact h3
  · rw [zs_ne2 _ _ _ (by omega)]; exact h4
  · rw [zs_self]; rfl
  · rw [zs_ne _ _ _ (by omega), zs_ne _ _ _ (by omega)]; exact h6 p p0 p1
  · rw [zs_ne _ _ _ (by omega)]; exact h7 x y hxy
theorem zT_ord {μ : zM} {t : Nat} {v : zVw} (h : zT μ t v) {s k : Int} : zT (zs (zs μ t 4 s) t 5 k) t (vOrd v s k) := by
  obtain ⟨h1, h2, h3, h4, h5, h6, h7⟩ := h
  refine ⟨?_, ?_, ?_, ?_, ?_, fun p p0 p1 => ?_, fun x y hxy => ?_⟩
  · rw [zs_ne _ _ _ (by omega), zs_ne _ _ _ (by omega)]; exact h1
  · rw [zs_ne _ _ _ (by omega), zs_ne _ _ _ (by omega)]; exact h2
  · rw [zs_ne2 _ _ _ (by omega), zs_self]; rfl
  · rw [zs_self]; rfl
  · rw [zs_ne2 _ _ _ (by omega), zs_ne2 _ _ _ (by omega)]; exact h5
  · rw [zs_ne _ _ _ (by omega), zs_ne _ _ _ (by omega), zs_ne _ _ _ (by omega), zs_ne _ _ _ (by omega)]; exact h6 p p0 p1
  · rw [zs_ne _ _ _ (by omega), zs_ne _ _ _ (by omega)]; exact h7 x y hxy
theorem become_T {μ m1 m2 m3 m4 m5 m6 m7 : zM} {t u : Nat} {w : zVw} (ht : zTo t) (hu : zTo u) (hne : t ≠ u) (h : zT μ u w) (e1 : m1 = zcp μ (u + 1) (t + 1) 2) (e2 : m2 = zcp m1 (u + 2) (t + 2) 10) (e3 : m3 = zcp m2 (u + 3) (t + 3) 10) (e4 : m4 = zcp m3 (u + 4) (t + 4) 100) (e5 : m5 = zs m4 t 4 (m4 u 4)) (e6 : m6 = zs m5 t 5 (m5 u 5)) (e7 : m7 = zs m6 t 6 (m6 u 6)) : zT m7 t w ∧ ∀ i, (i < t ∨ t + 5 ≤ i) → m7 i = μ i := by
  have hne' : u + 5 ≤ t ∨ t + 5 ≤ u := by omega
  obtain ⟨h1, h2, h3, h4, h5, h6, h7⟩ := h
  have f1 : ∀ a, a ≠ t + 1 → m1 a = μ a := fun a ha => by rw [e1, zcp_ne _ _ ha]
  have f2 : ∀ a, a ≠ t + 2 → m2 a = m1 a := fun a ha => by rw [e2, zcp_ne _ _ ha]
  have f3 : ∀ a, a ≠ t + 3 → m3 a = m2 a := fun a ha => by rw [e3, zcp_ne _ _ ha]
  have f4 : ∀ a, a ≠ t + 4 → m4 a = m3 a := fun a ha => by rw [e4, zcp_ne _ _ ha]
  have f5 : ∀ a, a ≠ t → m5 a = m4 a := fun a ha => by rw [e5, zs_ne _ _ _ ha]
  have f6 : ∀ a, a ≠ t → m6 a = m5 a := fun a ha => by rw [e6, zs_ne _ _ _ ha]
  have f7 : ∀ a, a ≠ t → m7 a = m6 a := fun a ha => by rw [e7, zs_ne _ _ _ ha]
  have g1 : ∀ x, 0 ≤ x → x < 2 → m7 (t + 1) x = μ (u + 1) x := fun x x0 x1 => by
    rw [f7 _ (by omega), f6 _ (by omega), f5 _ (by omega), f4 _ (by omega), f3 _ (by omega), f2 _ (by omega), e1, zcp_at, if_pos ⟨x0, x1⟩]
  have g2 : ∀ x, 0 ≤ x → x < 10 → m7 (t + 2) x = μ (u + 2) x := fun x x0 x1 => by
    rw [f7 _ (by omega), f6 _ (by omega), f5 _ (by omega), f4 _ (by omega), f3 _ (by omega), e2, zcp_at, if_pos ⟨x0, x1⟩, f1 _ (by omega)]
  have g3 : ∀ x, 0 ≤ x → x < 10 → m7 (t + 3) x = μ (u + 3) x := fun x x0 x1 => by
    rw [f7 _ (by omega), f6 _ (by omega), f5 _ (by omega), f4 _ (by omega), e3, zcp_at, if_pos ⟨x0, x1⟩, f2 _ (by omega), f1 _ (by omega)]
  have g4 : ∀ x, 0 ≤ x → x < 100 → m7 (t + 4) x = μ (u + 4) x := fun x x0 x1 => by
    rw [f7 _ (by omega), f6 _ (by omega), f5 _ (by omega), e4, zcp_at, if_pos ⟨x0, x1⟩, f3 _ (by omega), f2 _ (by omega), f1 _ (by omega)]
  have gu : ∀ x, m4 u x = μ u x := fun x => by rw [f4 _ (by omega), f3 _ (by omega), f2 _ (by omega), f1 _ (by omega)]
  refine ⟨⟨?_, ?_, ?_, ?_, ?_, fun p p0 p1 => ?_, fun a b hab => ?_⟩, fun i hi => ?_⟩
  · rw [g1 0 (by omega) (by omega)]; exact h1
  · rw [g1 1 (by omega) (by omega)]; exact h2
  · rw [e7, zs_ne2 _ _ _ (by omega), e6, zs_ne2 _ _ _ (by omega), e5, zs_self, gu]; exact h3
  · rw [e7, zs_ne2 _ _ _ (by omega), e6, zs_self, f5 _ (by omega), gu]; exact h4
  · rw [e7, zs_self, f6 _ (by omega), f5 _ (by omega), gu]; exact h5
  · rw [g2 p p0 p1, g3 p p0 p1]; exact h6 p p0 p1
  · rw [g4 _ (by omega) (by omega)]; exact h7 a b hab
  · rw [f7 _ (by omega), f6 _ (by omega), f5 _ (by omega), f4 _ (by omega), f3 _ (by omega), f2 _ (by omega), f1 _ (by omega)]
theorem vAdd_T {μ m1 m2 m0 m : zM} {t : Nat} {v : zVw} {s k b i : Int} (h : zT μ t v) (ho : vOK v) (hs : s = 0 ∨ s = 1) (h5 : μ (t + 1) s < 5) (hi : 10 ≤ i) (e1 : m1 = zs μ (t + 1) s (μ (t + 1) s + 1)) (e2 : m2 = zs m1 (t + 2) (s * 5 + μ (t + 1) s) k) (e3 : m0 = zs m2 (t + 3) (s * 5 + μ (t + 1) s) b) (hf : ∀ a, a ≠ t + 4 → m a = m0 a) (hc : ∀ x y, 0 ≤ x → x < 10 → 0 ≤ y → y < 10 → m (t + 4) (x * 10 + y) = if (x = s * 5 + μ (t + 1) s ∧ y < i) ∨ (y = s * 5 + μ (t + 1) s ∧ x < i) then 5 else m0 (t + 4) (x * 10 + y)) : zT m t (vAdd v s k b) ∧ ∀ a, (a < t ∨ t + 5 ≤ a) → m a = μ a := by
  obtain ⟨h1, h2, h3, h4, h5', h6, h7⟩ := h
  obtain ⟨o1, o2, -⟩ := ho
  have hone : s * 5 + μ (t + 1) s = vOne v s := by
    unfold vOne
    rcases hs with rfl | rfl
    · rw [if_pos rfl]; omega
    · rw [if_neg (by omega)]; omega
  have hr : 0 ≤ vOne v s ∧ vOne v s < 10 := by
    rw [← hone]
    rcases hs with rfl | rfl <;> omega
  rw [hone] at e2 e3 hc
  refine ⟨⟨?_, ?_, ?_, ?_, ?_, fun p p0 p1 => ⟨?_, ?_⟩, fun x y hxy => ?_⟩, fun a ha => ?_⟩
  · rw [hf _ (by omega), e3, zs_ne _ _ _ (by omega), e2, zs_ne _ _ _ (by omega), e1, zs_at]
    show _ = if s = 0 then vL v + 1 else vL v
    rcases hs with rfl | rfl
    · rw [if_pos rfl, if_pos rfl, h1]
    · rw [if_neg (by omega), if_neg (by omega), h1]
  · rw [hf _ (by omega), e3, zs_ne _ _ _ (by omega), e2, zs_ne _ _ _ (by omega), e1, zs_at]
    show _ = if s = 0 then vR v else vR v + 1
    rcases hs with rfl | rfl
    · rw [if_neg (by omega), if_pos rfl, h2]
    · rw [if_pos rfl, if_neg (by omega), h2]
  · rw [hf _ (by omega), e3, zs_ne _ _ _ (by omega), e2, zs_ne _ _ _ (by omega), e1, zs_ne _ _ _ (by omega)]; exact h3
  · rw [hf _ (by omega), e3, zs_ne _ _ _ (by omega), e2, zs_ne _ _ _ (by omega), e1, zs_ne _ _ _ (by omega)]; exact h4
  · rw [hf _ (by omega), e3, zs_ne _ _ _ (by omega), e2, zs_ne _ _ _ (by omega), e1, zs_ne _ _ _ (by omega)]; exact h5'
  · rw [hf _ (by omega), e3, zs_ne _ _ _ (by omega), e2, zs_at, e1, zs_ne _ _ _ (by omega), (h6 p p0 p1).1]; rfl
  · rw [hf _ (by omega), e3, zs_at, e2, zs_ne _ _ _ (by omega), e1, zs_ne _ _ _ (by omega), (h6 p p0 p1).2]; rfl
  · rw [hc x y (by omega) (by omega) (by omega) (by omega), e3, zs_ne _ _ _ (by omega), e2, zs_ne _ _ _ (by omega), e1, zs_ne _ _ _ (by omega)]
    show _ = if x = vOne v s ∨ y = vOne v s then 5 else vA v x y
    by_cases q : x = vOne v s ∨ y = vOne v s
    · rw [if_pos q, if_pos (by omega)]
    · rw [if_neg q, if_neg (by omega)]; exact h7 x y hxy
  · rw [hf _ (by omega), e3, zs_ne _ _ _ (by omega), e2, zs_ne _ _ _ (by omega), e1, zs_ne _ _ _ (by omega)]
end
section
/-! contracts: become, addPerson -/
set_option maxHeartbeats 4000000 in
theorem c_X4_become (l : Launch) (μ : zM) (t u : Nat) (ht : zTo t) (hu : zTo u) (hne : t ≠ u) (w : zVw) (hw : zT μ u w) : zMv l yX4_become cX4_become 2 1 68 [.inr t, .inr u] μ (fun (m : zM) => zT m t w ∧ ∀ i, (i < t ∨ t + 5 ≤ i) → m i = μ i) := by
  refine zMv_of (own := RX4) (by decide +kernel) rfl (Nat.le_of_ble_eq_true rfl) ?_
  intro X hX C hrm E
  subst hX
  show zJ X 2 μ 0 [(0, .inr t), (1, .inr u)] []
  refine z_aload_n C dX4_become_0 1 rfl ?_
  refine z_getR C ffX4_9 dX4_become_1 (by have := zto_lt hu; omega) (zd_to0 hu) rfl ?_
  refine z_iconst C dX4_become_4 ?_
  refine z_aload_n C dX4_become_5 0 rfl ?_
  refine z_getR C ffX4_9 dX4_become_6 (by have := zto_lt ht; omega) (zd_to0 ht) rfl ?_
  refine z_iconst C dX4_become_9 ?_
  refine z_aload_n C dX4_become_10 0 rfl ?_
  refine z_getR C ffX4_9 dX4_become_11 (by have := zto_lt ht; omega) (zd_to0 ht) rfl ?_
  refine z_alen C dX4_become_14 (by have := zto_lt ht; omega) (zd_to1 ht) 2 rfl ?_
  refine z_acopy C dX4_become_15 zz_lnk (by have := zto_lt hu; omega) (by have := zto_lt ht; omega) (zd_to1 hu) (zd_to1 ht) (by decide) 2 rfl (by decide) ?_
  refine z_mem (fun m1 em1 => ?_)
  refine z_aload_n C dX4_become_18 1 rfl ?_
  refine z_getR C ffX4_15 dX4_become_19 (by have := zto_lt hu; omega) (zd_to0 hu) rfl ?_
  refine z_iconst C dX4_become_22 ?_
  refine z_aload_n C dX4_become_23 0 rfl ?_
  refine z_getR C ffX4_15 dX4_become_24 (by have := zto_lt ht; omega) (zd_to0 ht) rfl ?_
  refine z_iconst C dX4_become_27 ?_
  refine z_aload_n C dX4_become_28 0 rfl ?_
  refine z_getR C ffX4_15 dX4_become_29 (by have := zto_lt ht; omega) (zd_to0 ht) rfl ?_
  refine z_alen C dX4_become_32 (by have := zto_lt ht; omega) (zd_to2 ht) 10 rfl ?_
  refine z_acopy C dX4_become_33 zz_lnk (by have := zto_lt hu; omega) (by have := zto_lt ht; omega) (zd_to2 hu) (zd_to2 ht) (by decide) 10 rfl (by decide) ?_
  refine z_mem (fun m2 em2 => ?_)
  refine z_aload_n C dX4_become_36 1 rfl ?_
  refine z_getR C ffX4_18 dX4_become_37 (by have := zto_lt hu; omega) (zd_to0 hu) rfl ?_
  refine z_iconst C dX4_become_40 ?_
  refine z_aload_n C dX4_become_41 0 rfl ?_
  refine z_getR C ffX4_18 dX4_become_42 (by have := zto_lt ht; omega) (zd_to0 ht) rfl ?_
  refine z_iconst C dX4_become_45 ?_
  refine z_aload_n C dX4_become_46 0 rfl ?_
  refine z_getR C ffX4_18 dX4_become_47 (by have := zto_lt ht; omega) (zd_to0 ht) rfl ?_
  refine z_alen C dX4_become_50 (by have := zto_lt ht; omega) (zd_to3 ht) 10 rfl ?_
  refine z_acopy C dX4_become_51 zz_lnk (by have := zto_lt hu; omega) (by have := zto_lt ht; omega) (zd_to3 hu) (zd_to3 ht) (by decide) 10 rfl (by decide) ?_
  refine z_mem (fun m3 em3 => ?_)
  refine z_aload_n C dX4_become_54 1 rfl ?_
  refine z_getR C ffX4_21 dX4_become_55 (by have := zto_lt hu; omega) (zd_to0 hu) rfl ?_
  refine z_iconst C dX4_become_58 ?_
  refine z_aload_n C dX4_become_59 0 rfl ?_
  refine z_getR C ffX4_21 dX4_become_60 (by have := zto_lt ht; omega) (zd_to0 ht) rfl ?_
  refine z_iconst C dX4_become_63 ?_
  refine z_aload_n C dX4_become_64 0 rfl ?_
  refine z_getR C ffX4_21 dX4_become_65 (by have := zto_lt ht; omega) (zd_to0 ht) rfl ?_
  refine z_alen C dX4_become_68 (by have := zto_lt ht; omega) (zd_to4 ht) 100 rfl ?_
  refine z_acopy C dX4_become_69 zz_lnk (by have := zto_lt hu; omega) (by have := zto_lt ht; omega) (zd_to4 hu) (zd_to4 ht) (by decide) 100 rfl (by decide) ?_
  refine z_mem (fun m4 em4 => ?_)
  refine z_aload_n C dX4_become_72 0 rfl ?_
  refine z_aload_n C dX4_become_73 1 rfl ?_
  refine z_getI C ffX4_24 dX4_become_74 (by have := zto_lt hu; omega) (zd_to0 hu) rfl 4 rfl (fun hr5 => ?_)
  refine z_putI C ffX4_24 fp4_4 dX4_become_77 (by have := zto_lt ht; omega) (zd_to0 ht) rfl 4 rfl (by omega) ?_
  refine z_mem (fun m6 em6 => ?_)
  refine z_aload_n C dX4_become_80 0 rfl ?_
  refine z_aload_n C dX4_become_81 1 rfl ?_
  refine z_getI C ffX4_28 dX4_become_82 (by have := zto_lt hu; omega) (zd_to0 hu) rfl 5 rfl (fun hr7 => ?_)
  refine z_putI C ffX4_28 fp4_5 dX4_become_85 (by have := zto_lt ht; omega) (zd_to0 ht) rfl 5 rfl (by omega) ?_
  refine z_mem (fun m8 em8 => ?_)
  refine z_aload_n C dX4_become_88 0 rfl ?_
  refine z_aload_n C dX4_become_89 1 rfl ?_
  refine z_getI C ffX4_31 dX4_become_90 (by have := zto_lt hu; omega) (zd_to0 hu) rfl 6 rfl (fun hr9 => ?_)
  refine z_putI C ffX4_31 fp4_6 dX4_become_93 (by have := zto_lt ht; omega) (zd_to0 ht) rfl 6 rfl (by omega) ?_
  refine z_mem (fun m10 em10 => ?_)
  exact E dX4_become_96 (become_T ht hu hne hw em1 em2 em3 em4 em6 em8 em10)
set_option maxHeartbeats 4000000 in
theorem c_X4_addPerson (l : Launch) (μ : zM) (t : Nat) (ht : zTo t) (v : zVw) (hv : zT μ t v) (ho : vOK v) (s k b : Int) (hs : s = 0 ∨ s = 1) (hk : 0 ≤ k ∧ k ≤ 5) (hb : 0 ≤ b ∧ b ≤ 9) : zMi l yX4_addPerson cX4_addPerson 6 (.boolean) 1 23 [.inr t, .inl s, .inl k, .inl b] μ (fun (r : Int) (m : zM) => (r = 1 ∧ ((s = 0 ∧ vL v < 5) ∨ (s = 1 ∧ vR v < 5)) ∧ zT m t (vAdd v s k b) ∧ ∀ a, (a < t ∨ t + 5 ≤ a) → m a = μ a) ∨ (r = 0 ∧ ¬ ((s = 0 ∧ vL v < 5) ∨ (s = 1 ∧ vR v < 5)) ∧ μ = m)) := by
  refine zMi_of (own := RX4) (by decide +kernel) rfl (Nat.le_of_ble_eq_true rfl) ?_
  intro X hX C hrm E
  subst hX
  show zJ X 6 μ 0 [(0, .inr t), (1, .inl s), (2, .inl k), (3, .inl b)] []
  obtain ⟨hv1, hv2, hv3, hv4, hv5, hv6, hv7⟩ := id hv
  obtain ⟨ho1, ho2, ho3, ho4, ho5, ho6, ho7⟩ := id ho
  have hp : 0 ≤ μ (t + 1) s ∧ μ (t + 1) s ≤ 5 := by rcases hs with rfl | rfl <;> omega
  refine z_aload_n C dX4_addPerson_0 0 rfl ?_
  refine z_getR C ffX4_9 dX4_addPerson_1 (by have := zto_lt ht; omega) (zd_to0 ht) rfl ?_
  refine z_iload_n C dX4_addPerson_4 1 rfl ?_
  refine z_iald C dX4_addPerson_5 (by have := zto_lt ht; omega) (zd_to1 ht) (by omega) (by decide) (fun hr1 => ?_)
  refine z_iconst C dX4_addPerson_6 ?_
  refine z_icmp_lt C dX4_addPerson_7 (tgt := 12) (by decide) (by omega) (by decide) (fun c2 => ?_) (fun c2 => ?_)
  · refine z_iload_n C dX4_addPerson_12 1 rfl ?_
    refine z_iconst C dX4_addPerson_13 ?_
    refine z_imul C dX4_addPerson_14 ?_
    refine z_aload_n C dX4_addPerson_15 0 rfl ?_
    refine z_getR C ffX4_9 dX4_addPerson_16 (by have := zto_lt ht; omega) (zd_to0 ht) rfl ?_
    refine z_iload_n C dX4_addPerson_19 1 rfl ?_
    refine z_iald C dX4_addPerson_20 (by have := zto_lt ht; omega) (zd_to1 ht) (by omega) (by decide) (fun hr3 => ?_)
    refine z_iadd C dX4_addPerson_21 ?_
    refine z_istore C dX4_addPerson_22 (by decide) (L' := [(0, _), (1, _), (2, _), (3, _), (4, _)]) rfl ?_
    refine z_aload_n C dX4_addPerson_24 0 rfl ?_
    refine z_getR C ffX4_9 dX4_addPerson_25 (by have := zto_lt ht; omega) (zd_to0 ht) rfl ?_
    refine z_iload_n C dX4_addPerson_28 1 rfl ?_
    refine z_dup2 C dX4_addPerson_29 ?_
    refine z_iald C dX4_addPerson_30 (by have := zto_lt ht; omega) (zd_to1 ht) (by omega) (by decide) (fun hr4 => ?_)
    refine z_iconst C dX4_addPerson_31 ?_
    refine z_iadd C dX4_addPerson_32 ?_
    refine z_iast C dX4_addPerson_33 (by have := zto_lt ht; omega) (zd_to1 ht) (by omega) (by decide) (by omega) ?_
    refine z_mem (fun m5 em5 => ?_)
    refine z_aload_n C dX4_addPerson_34 0 rfl ?_
    refine z_getR C ffX4_15 dX4_addPerson_35 (by have := zto_lt ht; omega) (zd_to0 ht) rfl ?_
    refine z_iload C dX4_addPerson_38 4 rfl ?_
    refine z_iload_n C dX4_addPerson_40 2 rfl ?_
    refine z_iast C dX4_addPerson_41 (by have := zto_lt ht; omega) (zd_to2 ht) (by omega) (by decide) (by omega) ?_
    refine z_mem (fun m6 em6 => ?_)
    refine z_aload_n C dX4_addPerson_42 0 rfl ?_
    refine z_getR C ffX4_18 dX4_addPerson_43 (by have := zto_lt ht; omega) (zd_to0 ht) rfl ?_
    refine z_iload C dX4_addPerson_46 4 rfl ?_
    refine z_iload_n C dX4_addPerson_48 3 rfl ?_
    refine z_iast C dX4_addPerson_49 (by have := zto_lt ht; omega) (zd_to3 ht) (by omega) (by decide) (by omega) ?_
    refine z_mem (fun m7 em7 => ?_)
    refine z_iconst C dX4_addPerson_50 ?_
    refine z_istore C dX4_addPerson_51 (by decide) (L' := [(0, _), (1, _), (2, _), (3, _), (4, _), (5, _)]) rfl ?_
    have LP53 : ∀ (N53 : Nat) (i : Int) (m : zM), (0 ≤ i) → (i ≤ 10) → (∀ a, a ≠ t + 4 → m a = m7 a) → (∀ x y, 0 ≤ x → x < 10 → 0 ≤ y → y < 10 → m (t + 4) (x * 10 + y) = if (x = s * 5 + μ (t + 1) s ∧ y < i) ∨ (y = s * 5 + μ (t + 1) s ∧ x < i) then 5 else m7 (t + 4) (x * 10 + y)) → (10 - i).toNat < N53 → zJ X 6 m 53 [(0, .inr t), (1, .inl s), (2, .inl k), (3, .inl b), (4, .inl ((s * 5) + (μ (t + 1) s))), (5, .inl i)] [] := by
      intro N53
      induction N53 with
      | zero => intro i m h53_0 h53_1 h53_2 h53_3 hN; exact absurd hN (Nat.not_lt_zero _)
      | succ N53 ih53 =>
        intro i m h53_0 h53_1 h53_2 h53_3 hN53
        refine z_iload C dX4_addPerson_53 5 rfl ?_
        refine z_bipush C dX4_addPerson_55 (by decide) ?_
        refine z_icmp_ge C dX4_addPerson_57 (tgt := 84) (by decide) (by omega) (by decide) (fun c8 => ?_) (fun c8 => ?_)
        · refine z_iconst C dX4_addPerson_84 ?_
          exact E dX4_addPerson_85 (by decide) (z_nb (Or.inr rfl)) (Or.inl ⟨rfl, (by rcases hs with rfl | rfl <;> omega), vAdd_T hv ho hs (by omega) (by omega) em5 em6 em7 h53_2 h53_3⟩)
        · refine z_aload_n C dX4_addPerson_60 0 rfl ?_
          refine z_iload C dX4_addPerson_61 4 rfl ?_
          refine z_iload C dX4_addPerson_63 5 rfl ?_
          refine z_iconst C dX4_addPerson_65 ?_
          refine z_callVv C (c_X4_setLiking (zl X) m t ht ((s * 5) + (μ (t + 1) s)) i 5 (by omega) (by omega) (by omega)) yyX4_setLiking mlX4_58 (zRc_of C (by have := zto_lt ht; omega) (zd_to0 ht) rfl) dX4_addPerson_66 rfl rfl (Nat.le_of_ble_eq_true rfl) (by decide) (fun m9 hp9 => ?_)
          refine z_aload_n C dX4_addPerson_69 0 rfl ?_
          refine z_iload C dX4_addPerson_70 5 rfl ?_
          refine z_iload C dX4_addPerson_72 4 rfl ?_
          refine z_iconst C dX4_addPerson_74 ?_
          refine z_callVv C (c_X4_setLiking (zl X) m9 t ht i ((s * 5) + (μ (t + 1) s)) 5 (by omega) (by omega) (by omega)) yyX4_setLiking mlX4_58 (zRc_of C (by have := zto_lt ht; omega) (zd_to0 ht) rfl) dX4_addPerson_75 rfl rfl (Nat.le_of_ble_eq_true rfl) (by decide) (fun m10 hp10 => ?_)
          refine z_iinc C dX4_addPerson_78 5 rfl (by decide) (L' := [(0, _), (1, _), (2, _), (3, _), (4, _), (5, _)]) rfl ?_
          refine z_goto C dX4_addPerson_81 (tgt := 53) (by decide) ?_
          exact ih53 _ m10 (by omega) (by omega) (fun a ha => by rw [hp10, zs_ne _ _ _ ha, hp9, zs_ne _ _ _ ha]; exact h53_2 a ha) (fun x y x0 x1 y0 y1 => by rw [hp10, zs_at, hp9, zs_at, h53_3 x y x0 x1 y0 y1]; split <;> (try split) <;> (try split) <;> (try split) <;> first | rfl | (exfalso; omega)) (by omega)
    exact LP53 _ _ m7 (by omega) (by omega) (fun _ _ => rfl) (fun x y x0 x1 y0 y1 => by rw [if_neg (by omega)]) (Nat.lt_succ_self _)
  · refine z_iconst C dX4_addPerson_10 ?_
    exact E dX4_addPerson_11 (by decide) (z_nb (Or.inl rfl)) (Or.inr ⟨rfl, (by rcases hs with rfl | rfl <;> omega), rfl⟩)
end
section
/-! who meets whom, what is felt, what is said: as functions of what is told -/
def sAl (v : zVw) (k : Int) : Int := vH v + k * vS v
def sMet (v : zVw) (p k : Int) : Int := if p < 5 then (if (p + sAl v k) % vN v < vR v then 5 + (p + sAl v k) % vN v else -9) else (if (p - 5 - sAl v k) % vN v < vL v then (p - 5 - sAl v k) % vN v else -9)
def sPar (v : zVw) (p k : Int) : Int := if k < vN v ∧ vTh v p then sMet v p k else -9
def sFeel (v : zVw) (p o k : Int) : Int :=
  if vK v p = 1 then (if k = 0 then vA v p o - 2 else vA v p o)
  else if vK v p = 2 then vA v p o - k / 2
  else if vK v p = 3 then (if 0 < k ∧ ¬ sPar v p (k - 1) = -9 ∧ vA v p o < vA v p (sPar v p (k - 1)) then vA v p o - 3 else vA v p o)
  else if vK v p = 4 then (if 5 ≤ vA v o p then vA v p o + 1 else vA v p o - 1)
  else if vK v p = 5 then vA v p o - k / 2 - (if 0 < k ∧ sPar v p (k - 1) = -9 then 1 else 0)
  else vA v p o
def sFl (v : zVw) (p k : Int) : Int := if sPar v p k = -9 then 999 else sFeel v p (sPar v p k) k
/-- in round k one says yes -/
abbrev sSay (v : zVw) (p k : Int) : Prop := ¬ sPar v p k = -9 ∧ vB v p ≤ sFeel v p (sPar v p k) k
def sSlN (v : zVw) (p : Int) : Nat → Int
  | 0 => 0
  | k + 1 => if sSay v p (k : Int) then zor (sSlN v p k) (zbit (sPar v p (k : Int))) else sSlN v p k
def sSl (v : zVw) (p : Int) : Int := sSlN v p 5
abbrev sShade (v : zVw) (p k : Int) : Prop := ¬ sPar v p k = -9 ∧ ¬ sFeel v p (sPar v p k) k = vA v p (sPar v p k)
def sShN (v : zVw) (p : Int) : Nat → Int
  | 0 => 0
  | k + 1 => sShN v p k + (if sShade v p (k : Int) then 1 else 0)
def sSh (v : zVw) : Nat → Int
  | 0 => 0
  | p + 1 => sSh v p + sShN v (p : Int) 5
theorem zmulb {k s : Int} (hk : 0 ≤ k ∧ k ≤ 4) (hs : 0 ≤ s ∧ s ≤ 4) : 0 ≤ k * s ∧ k * s ≤ 16 := ⟨Int.mul_nonneg hk.1 hs.1, by
  have := Int.mul_le_mul hk.2 hs.2 hs.1 (by omega)
  omega⟩
theorem zmodb {x n : Int} (h : 1 ≤ n) : 0 ≤ x % n ∧ x % n < n := ⟨Int.emod_nonneg x (by omega), Int.emod_lt_of_pos x (by omega)⟩
theorem sMet_U {v : zVw} (ho : vOK v) {p k : Int} (hp : vTh v p) : sMet v p k = -9 ∨ (vTh v (sMet v p k) ∧ zU p (sMet v p k)) := by
  obtain ⟨h1, h2, h3, h4⟩ := vN_ok ho
  obtain ⟨o1, o2, -⟩ := id ho
  unfold sMet
  have a1 := zmodb (x := p + sAl v k) (n := vN v) (by omega)
  have a2 := zmodb (x := p - 5 - sAl v k) (n := vN v) (by omega)
  generalize (p + sAl v k) % vN v = x1 at *
  generalize (p - 5 - sAl v k) % vN v = x2 at *
  split <;> split <;> omega
theorem sPar_U {v : zVw} (ho : vOK v) {p k : Int} : sPar v p k = -9 ∨ (vTh v p ∧ k < vN v ∧ vTh v (sPar v p k) ∧ zU p (sPar v p k)) := by
  unfold sPar
  by_cases h : k < vN v ∧ vTh v p
  · rw [if_pos h]
    rcases sMet_U ho (k := k) h.2 with q | q
    · exact Or.inl q
    · exact Or.inr ⟨h.2, h.1, q⟩
  · rw [if_neg h]
    exact Or.inl rfl
theorem zor_bit : ∀ s : Int, 0 ≤ s → s < 32 → ∀ p : Int, 0 ≤ p → p < 10 → 0 ≤ zor s (zbit p) ∧ zor s (zbit p) < 32 := by
  have key : ((List.range 32).all fun i => (List.range 10).all fun j => decide (0 ≤ zor (i : Int) (zbit (j : Int)) ∧ zor (i : Int) (zbit (j : Int)) < 32)) = true := by decide +kernel
  intro s h1 h2 p h3 h4
  have h5 := List.all_eq_true.mp key s.toNat (List.mem_range.mpr (by omega))
  have h6 := List.all_eq_true.mp h5 p.toNat (List.mem_range.mpr (by omega))
  rw [Int.toNat_of_nonneg h1, Int.toNat_of_nonneg h3] at h6
  exact of_decide_eq_true h6
theorem sSlN_b {v : zVw} (ho : vOK v) (p : Int) : ∀ k, 0 ≤ sSlN v p k ∧ sSlN v p k < 32
  | 0 => by show (0 : Int) ≤ 0 ∧ (0 : Int) < 32; omega
  | k + 1 => by
    have h := sSlN_b ho p k
    rw [sSlN]
    by_cases q : sSay v p (k : Int)
    · rw [if_pos q]
      have h1 := sPar_U ho (p := p) (k := (k : Int))
      have h2 := q.1
      exact zor_bit _ h.1 h.2 _ (by omega) (by omega)
    · rw [if_neg q]; exact h
theorem sShN_b (v : zVw) (p : Int) : ∀ k : Nat, 0 ≤ sShN v p k ∧ sShN v p k ≤ (k : Int)
  | 0 => by show (0 : Int) ≤ 0 ∧ (0 : Int) ≤ ((0 : Nat) : Int); omega
  | k + 1 => by
    have h := sShN_b v p k
    rw [sShN]
    split <;> omega
theorem sSh_b (v : zVw) : ∀ p : Nat, 0 ≤ sSh v p ∧ sSh v p ≤ 5 * (p : Int)
  | 0 => by show (0 : Int) ≤ 0 ∧ (0 : Int) ≤ 5 * ((0 : Nat) : Int); omega
  | p + 1 => by
    have h := sSh_b v p
    have h2 := sShN_b v (p : Int) 5
    rw [sSh]
    omega
theorem sSlN_s (v : zVw) (p : Int) {j : Int} (h : 0 ≤ j) : sSlN v p (j + 1).toNat = if sSay v p j then zor (sSlN v p j.toNat) (zbit (sPar v p j)) else sSlN v p j.toNat := by
  rw [show (j + 1).toNat = j.toNat + 1 by omega, sSlN, Int.toNat_of_nonneg h]
theorem sShN_s (v : zVw) (p : Int) {j : Int} (h : 0 ≤ j) : sShN v p (j + 1).toNat = sShN v p j.toNat + (if sShade v p j then 1 else 0) := by
  rw [show (j + 1).toNat = j.toNat + 1 by omega, sShN, Int.toNat_of_nonneg h]
theorem sSh_s (v : zVw) {i : Int} (h : 0 ≤ i) : sSh v (i + 1).toNat = sSh v i.toNat + sShN v i 5 := by
  rw [show (i + 1).toNat = i.toNat + 1 by omega, sSh, Int.toNat_of_nonneg h]
theorem sFeel_b {v : zVw} (ho : vOK v) {p o k : Int} (hk : 0 ≤ k ∧ k < 5) (h : zU p o) : -4 ≤ sFeel v p o k ∧ sFeel v p o k ≤ 10 := by
  obtain ⟨-, -, -, -, -, -, h7⟩ := ho
  have a1 := h7 p o h
  unfold sFeel
  repeat' split
  all_goals omega
/-- the tables, held for the first i (sh: shaded so far) -/
def zHd (μ m : zM) (v : zVw) (i sh : Int) : Prop := (∀ a, a < 48 → a ≠ 18 → a ≠ 21 → m a = μ a) ∧ m 18 4 = vN v ∧ m 18 3 = sh ∧ (∀ p, 0 ≤ p → p < i → m 21 p = sSl v p) ∧ (∀ p k, 0 ≤ p → p < i → 0 ≤ k → k < 5 → m (48 + p.toNat) k = sPar v p k ∧ m (58 + p.toNat) k = sFl v p k)
/-- the tables, held -/
def zH (m : zM) (v : zVw) : Prop := m 18 4 = vN v ∧ m 18 3 = sSh v 10 ∧ (∀ p, 0 ≤ p → p < 10 → m 21 p = sSl v p) ∧ (∀ p k, 0 ≤ p → p < 10 → 0 ≤ k → k < 5 → m (48 + p.toNat) k = sPar v p k ∧ m (58 + p.toNat) k = sFl v p k)
theorem zHd_row1 {μ m : zM} {v : zVw} {i sh : Int} (h : zHd μ m v i sh) (hi : 0 ≤ i ∧ i < 10) (x z : Int) : zHd μ (zs m (48 + i.toNat) x z) v i sh := by
  obtain ⟨h1, h2, h3, h4, h5⟩ := h
  refine ⟨fun a a1 a2 a3 => ?_, ?_, ?_, fun p p0 p1 => ?_, fun p k p0 p1 k0 k1 => ?_⟩
  · rw [zs_ne _ _ _ (by omega)]; exact h1 a a1 a2 a3
  · rw [zs_ne _ _ _ (by omega)]; exact h2
  · rw [zs_ne _ _ _ (by omega)]; exact h3
  · rw [zs_ne _ _ _ (by omega)]; exact h4 p p0 p1
  · rw [zs_ne _ _ _ (by omega), zs_ne _ _ _ (by omega)]; exact h5 p k p0 p1 k0 k1
theorem zHd_row2 {μ m : zM} {v : zVw} {i sh : Int} (h : zHd μ m v i sh) (hi : 0 ≤ i ∧ i < 10) (x z : Int) : zHd μ (zs m (58 + i.toNat) x z) v i sh := by
  obtain ⟨h1, h2, h3, h4, h5⟩ := h
  refine ⟨fun a a1 a2 a3 => ?_, ?_, ?_, fun p p0 p1 => ?_, fun p k p0 p1 k0 k1 => ?_⟩
  · rw [zs_ne _ _ _ (by omega)]; exact h1 a a1 a2 a3
  · rw [zs_ne _ _ _ (by omega)]; exact h2
  · rw [zs_ne _ _ _ (by omega)]; exact h3
  · rw [zs_ne _ _ _ (by omega)]; exact h4 p p0 p1
  · rw [zs_ne _ _ _ (by omega), zs_ne _ _ _ (by omega)]; exact h5 p k p0 p1 k0 k1
theorem zHd_slip {μ m : zM} {v : zVw} {i sh : Int} (h : zHd μ m v i sh) (z : Int) : zHd μ (zs m 21 i z) v i sh := by
  obtain ⟨h1, h2, h3, h4, h5⟩ := h
  refine ⟨fun a a1 a2 a3 => ?_, ?_, ?_, fun p p0 p1 => ?_, fun p k p0 p1 k0 k1 => ?_⟩
  · rw [zs_ne _ _ _ (by omega)]; exact h1 a a1 a2 a3
  · rw [zs_ne _ _ _ (by omega)]; exact h2
  · rw [zs_ne _ _ _ (by omega)]; exact h3
  · rw [zs_ne2 _ _ _ (by omega)]; exact h4 p p0 p1
  · rw [zs_ne _ _ _ (by omega), zs_ne _ _ _ (by omega)]; exact h5 p k p0 p1 k0 k1

theorem zHd_feel {μ m m' : zM} {v : zVw} {i j sh : Int} (h : zHd μ m v i sh) (hi : 0 ≤ i ∧ i < 10) (e1 : ∀ a x, ¬ (a = 58 + i.toNat ∧ x = j) → ¬ (a = 21 ∧ x = i) → ¬ (a = 18 ∧ x = 3) → m' a x = m a x) (e2 : ∀ a, a < 48 → a ≠ 18 → a ≠ 21 → m' a = m a) {sh' : Int} (e3 : m' 18 3 = sh') : zHd μ m' v i sh' := by
  obtain ⟨h1, h2, h3, h4, h5⟩ := h
  refine ⟨fun a a1 a2 a3 => ?_, ?_, e3, fun p p0 p1 => ?_, fun p k p0 p1 k0 k1 => ?_⟩
  · rw [e2 a a1 a2 a3]; exact h1 a a1 a2 a3
  · rw [e1 18 4 (by omega) (by omega) (by omega)]; exact h2
  · rw [e1 21 p (by omega) (by omega) (by omega)]; exact h4 p p0 p1
  · rw [e1 _ k (by omega) (by omega) (by omega), e1 _ k (by omega) (by omega) (by omega)]; exact h5 p k p0 p1 k0 k1
theorem zHd_next {μ m : zM} {v : zVw} {i j sh sh' : Int} (h : zHd μ m v i sh) (hi : 0 ≤ i ∧ i < 10) (hj : 5 ≤ j) (h1 : ∀ k, 0 ≤ k → k < 5 → m (48 + i.toNat) k = sPar v i k) (h2 : ∀ k, 0 ≤ k → k < j → m (58 + i.toNat) k = sFl v i k) (h3 : m 21 i = sSl v i) (he : sh = sh') : zHd μ m v (i + 1) sh' := by
  subst he
  obtain ⟨g1, g2, g3, g4, g5⟩ := h
  refine ⟨g1, g2, g3, fun p p0 p1 => ?_, fun p k p0 p1 k0 k1 => ?_⟩
  · by_cases e : p = i
    · subst e; exact h3
    · exact g4 p p0 (by omega)
  · by_cases e : p = i
    · subst e; exact ⟨h1 k k0 k1, h2 k k0 (by omega)⟩
    · exact g5 p k p0 (by omega) k0 k1
/-- gaps -/
def sGpN (v : zVw) (p : Int) : Nat → Int
  | 0 => 0
  | k + 1 => sGpN v p k + (if sPar v p (k : Int) = -9 then 1 else 0)
def sGap (v : zVw) (p : Int) : Int := sGpN v p (vN v).toNat
theorem sGpN_s (v : zVw) (p : Int) {j : Int} (h : 0 ≤ j) : sGpN v p (j + 1).toNat = sGpN v p j.toNat + (if sPar v p j = -9 then 1 else 0) := by
  rw [show (j + 1).toNat = j.toNat + 1 by omega, sGpN, Int.toNat_of_nonneg h]
theorem sGpN_b (v : zVw) (p : Int) : ∀ k : Nat, 0 ≤ sGpN v p k ∧ sGpN v p k ≤ (k : Int)
  | 0 => by show (0 : Int) ≤ 0 ∧ (0 : Int) ≤ ((0 : Nat) : Int); omega
  | k + 1 => by
    have h := sGpN_b v p k
    rw [sGpN]
    split <;> omega
def sGaN (v : zVw) : Nat → Int
  | 0 => 0
  | p + 1 => sGaN v p + (if vTh v (p : Int) then sGap v (p : Int) else 0)
theorem sGaN_s (v : zVw) {i : Int} (h : 0 ≤ i) : sGaN v (i + 1).toNat = sGaN v i.toNat + (if vTh v i then sGap v i else 0) := by
  rw [show (i + 1).toNat = i.toNat + 1 by omega, sGaN, Int.toNat_of_nonneg h]
theorem sGap_b {v : zVw} (ho : vOK v) (p : Int) : 0 ≤ sGap v p ∧ sGap v p ≤ 5 := by
  have h := sGpN_b v p (vN v).toNat
  obtain ⟨h1, -⟩ := vN_ok ho
  unfold sGap
  omega
theorem sGaN_b {v : zVw} (ho : vOK v) : ∀ p : Nat, 0 ≤ sGaN v p ∧ sGaN v p ≤ 5 * (p : Int)
  | 0 => by show (0 : Int) ≤ 0 ∧ (0 : Int) ≤ 5 * ((0 : Nat) : Int); omega
  | p + 1 => by
    have h := sGaN_b ho p
    have h2 := sGap_b ho (p : Int)
    rw [sGaN]
    split <;> omega
/-- bits of a set of five -/
theorem zor_has : ∀ s : Int, 0 ≤ s → s < 32 → ∀ p : Int, 0 ≤ p → p < 10 → ∀ q : Int, 0 ≤ q → q < 10 → ((¬ zand (zor s (zbit p)) (zbit q) = 0) ↔ ((¬ zand s (zbit q) = 0) ∨ p % 5 = q % 5)) := by
  have key : ((List.range 32).all fun i => (List.range 10).all fun j => (List.range 10).all fun k => decide ((¬ zand (zor (i : Int) (zbit (j : Int))) (zbit (k : Int)) = 0) ↔ ((¬ zand (i : Int) (zbit (k : Int)) = 0) ∨ (j : Int) % 5 = (k : Int) % 5))) = true := by decide +kernel
  intro s h1 h2 p h3 h4 q h5 h6
  have g1 := List.all_eq_true.mp key s.toNat (List.mem_range.mpr (by omega))
  have g2 := List.all_eq_true.mp g1 p.toNat (List.mem_range.mpr (by omega))
  have g3 := List.all_eq_true.mp g2 q.toNat (List.mem_range.mpr (by omega))
  rw [Int.toNat_of_nonneg h1, Int.toNat_of_nonneg h3, Int.toNat_of_nonneg h5] at g3
  exact of_decide_eq_true g3
theorem zand_b : ∀ s : Int, 0 ≤ s → s < 32 → ∀ q : Int, 0 ≤ q → q < 10 → 0 ≤ zand s (zbit q) ∧ zand s (zbit q) < 32 := by
  have key : ((List.range 32).all fun i => (List.range 10).all fun k => decide (0 ≤ zand (i : Int) (zbit (k : Int)) ∧ zand (i : Int) (zbit (k : Int)) < 32)) = true := by decide +kernel
  intro s h1 h2 q h5 h6
  have g1 := List.all_eq_true.mp key s.toNat (List.mem_range.mpr (by omega))
  have g3 := List.all_eq_true.mp g1 q.toNat (List.mem_range.mpr (by omega))
  rw [Int.toNat_of_nonneg h1, Int.toNat_of_nonneg h5] at g3
  exact of_decide_eq_true g3
theorem zand_0 : ∀ q : Int, 0 ≤ q → q < 10 → zand 0 (zbit q) = 0 := by
  have key : ((List.range 10).all fun k => decide (zand 0 (zbit (k : Int)) = 0)) = true := by decide +kernel
  intro q h5 h6
  have g3 := List.all_eq_true.mp key q.toNat (List.mem_range.mpr (by omega))
  rw [Int.toNat_of_nonneg h5] at g3
  exact of_decide_eq_true g3
/-- the other side's i-th -/
def sOth (p i : Int) : Int := if p < 5 then 5 + i else i
def sToN (v : zVw) (p : Int) : Nat → Int
  | 0 => 0
  | i + 1 => if ¬ zand (sSl v (sOth p (i : Int))) (zbit p) = 0 then zor (sToN v p i) (zbit (sOth p (i : Int))) else sToN v p i
theorem sToN_s (v : zVw) (p : Int) {j : Int} (h : 0 ≤ j) : sToN v p (j + 1).toNat = if ¬ zand (sSl v (sOth p j)) (zbit p) = 0 then zor (sToN v p j.toNat) (zbit (sOth p j)) else sToN v p j.toNat := by
  rw [show (j + 1).toNat = j.toNat + 1 by omega, sToN, Int.toNat_of_nonneg h]
theorem sToN_b (v : zVw) (p : Int) : ∀ i : Nat, i ≤ 5 → 0 ≤ sToN v p i ∧ sToN v p i < 32
  | 0, _ => by show (0 : Int) ≤ 0 ∧ (0 : Int) < 32; omega
  | i + 1, hi => by
    have h := sToN_b v p i (by omega)
    rw [sToN]
    have hq : 0 ≤ sOth p (i : Int) ∧ sOth p (i : Int) < 10 := by unfold sOth; split <;> omega
    by_cases q : ¬ zand (sSl v (sOth p (i : Int))) (zbit p) = 0
    · rw [if_pos q]; exact zor_bit _ h.1 h.2 _ hq.1 hq.2
    · rw [if_neg q]; exact h
/-- whom a left one meets, in all rounds -/
def sMmN (v : zVw) (p : Int) : Nat → Int
  | 0 => 0
  | k + 1 => if sPar v p (k : Int) = -9 then sMmN v p k else zor (sMmN v p k) (zbit (sPar v p (k : Int)))
theorem sMmN_s (v : zVw) (p : Int) {j : Int} (h : 0 ≤ j) : sMmN v p (j + 1).toNat = if sPar v p j = -9 then sMmN v p j.toNat else zor (sMmN v p j.toNat) (zbit (sPar v p j)) := by
  rw [show (j + 1).toNat = j.toNat + 1 by omega, sMmN, Int.toNat_of_nonneg h]
theorem sMmN_b {v : zVw} (ho : vOK v) (p : Int) : ∀ k, 0 ≤ sMmN v p k ∧ sMmN v p k < 32
  | 0 => by show (0 : Int) ≤ 0 ∧ (0 : Int) < 32; omega
  | k + 1 => by
    have h := sMmN_b ho p k
    rw [sMmN]
    by_cases q : sPar v p (k : Int) = -9
    · rw [if_pos q]; exact h
    · rw [if_neg q]
      have h1 := sPar_U ho (p := p) (k := (k : Int))
      exact zor_bit _ h.1 h.2 _ (by omega) (by omega)
def sAll (v : zVw) : Prop := ∀ l, 0 ≤ l → l < vL v → sMmN v l (vN v).toNat = zshl 1 (vR v) - 1
theorem zshl_b : ∀ r : Int, 0 ≤ r → r ≤ 5 → 1 ≤ zshl 1 r ∧ zshl 1 r ≤ 32 := by
  intro r h0 h1
  rcases (by omega : r = 0 ∨ r = 1 ∨ r = 2 ∨ r = 3 ∨ r = 4 ∨ r = 5) with h | h | h | h | h | h <;> rw [h] <;> decide
theorem zor_0 {s : Int} (h : zR s) : zor s 0 = s := by
  unfold zor
  rw [iI_0, Int32.or_zero, iI_toInt h]
theorem zs_o (μ : zM) {i a : Nat} {j x : Int} (v : Int) (h : ¬ (a = i ∧ x = j)) : zs μ i j v a x = μ a x := by
  by_cases e : a = i
  · subst e; exact zs_ne2 _ _ _ (fun q => h ⟨rfl, q⟩)
  · rw [zs_ne _ _ _ e]
theorem zs_upto {m : zM} {c : Nat} {j val : Int} {f : Int → Int} (h : ∀ k, 0 ≤ k → k < j → m c k = f k) (hv : val = f j) : ∀ k, 0 ≤ k → k < j + 1 → zs m c j val c k = f k := fun k k0 k1 => by
  rw [zs_at]
  by_cases q : k = j
  · rw [if_pos q, q]; exact hv
  · rw [if_neg q]; exact h k k0 (by omega)
theorem sPar_no {v : zVw} {p k : Int} (h : ¬ vTh v p) : sPar v p k = -9 := by
  unfold sPar
  rw [if_neg (fun q => h q.2)]
def zHi (μ m : zM) (v : zVw) (i j : Int) : Prop := zHd μ m v i (sSh v i.toNat + sShN v i j.toNat) ∧ (∀ k, 0 ≤ k → k < 5 → m (48 + i.toNat) k = sPar v i k) ∧ (∀ k, 0 ≤ k → k < j → m (58 + i.toNat) k = sFl v i k) ∧ m 21 i = sSlN v i j.toNat
theorem zHi_alone {μ m m1 : zM} {v : zVw} {i j : Int} (h : zHi μ m v i j) (hi : 0 ≤ i ∧ i < 10) (hj : 0 ≤ j ∧ j < 5) (c : sPar v i j = -9) (e : m1 = zs m (58 + i.toNat) j 999) : zHi μ m1 v i (j + 1) := by
  obtain ⟨h1, h2, h3, h4⟩ := h
  refine ⟨?_, fun k k0 k1 => ?_, ?_, ?_⟩
  · rw [sShN_s v i hj.1, if_neg (fun q => q.1 c), Int.add_zero, e]
    exact zHd_row2 h1 hi _ _
  · rw [e, zs_o _ _ (by omega)]; exact h2 k k0 k1
  · rw [e]
    exact zs_upto h3 (by unfold sFl; rw [if_pos c])
  · rw [e, zs_o _ _ (by omega), h4, sSlN_s v i hj.1, if_neg (fun q => q.1 c)]
theorem zHi_felt {μ m m1 m2 : zM} {v : zVw} {i j : Int} (h : zHi μ m v i j) (hi : 0 ≤ i ∧ i < 10) (hj : 0 ≤ j ∧ j < 5) (c : ¬ sPar v i j = -9) (e : m1 = zs m (58 + i.toNat) j 999) (f1 : ∀ a x, ¬ (a = 58 + i.toNat ∧ x = j) → ¬ (a = 21 ∧ x = i) → ¬ (a = 18 ∧ x = 3) → m2 a x = m1 a x) (f2 : ∀ a, a < 48 → a ≠ 18 → a ≠ 21 → m2 a = m1 a) (f3 : m2 (58 + i.toNat) j = sFeel v i (sPar v i j) j) (f4 : m2 21 i = (if vB v i ≤ sFeel v i (sPar v i j) j then zor (m1 21 i) (zbit (sPar v i j)) else m1 21 i)) (f5 : m2 18 3 = m1 18 3 + (if ¬ sFeel v i (sPar v i j) j = vA v i (sPar v i j) then 1 else 0)) : zHi μ m2 v i (j + 1) := by
  obtain ⟨h1, h2, h3, h4⟩ := h
  have g1 : zHd μ m1 v i (sSh v i.toNat + sShN v i j.toNat) := by rw [e]; exact zHd_row2 h1 hi _ _
  refine ⟨zHd_feel g1 hi f1 f2 ?_, fun k k0 k1 => ?_, fun k k0 k1 => ?_, ?_⟩
  · rw [f5, g1.2.2.1, sShN_s v i hj.1, Int.add_assoc]
    by_cases q : sFeel v i (sPar v i j) j = vA v i (sPar v i j)
    · rw [if_neg (fun z => z q), if_neg (fun z => z.2 q)]
    · rw [if_pos q, if_pos ⟨c, q⟩]
  · rw [f1 _ k (by omega) (by omega) (by omega), e, zs_o _ _ (by omega)]; exact h2 k k0 k1
  · by_cases q : k = j
    · subst q
      rw [f3]; unfold sFl; rw [if_neg c]
    · rw [f1 _ k (by omega) (by omega) (by omega), e, zs_o _ _ (by omega)]; exact h3 k k0 (by omega)
  · have e21 : m1 21 i = sSlN v i j.toNat := by rw [e, zs_o _ _ (by omega)]; exact h4
    rw [f4, e21, sSlN_s v i hj.1]
    by_cases q : vB v i ≤ sFeel v i (sPar v i j) j
    · rw [if_pos q, if_pos ⟨c, q⟩]
    · rw [if_neg q, if_neg (fun z => q z.2)]
theorem zHi_next {μ m : zM} {v : zVw} {i j : Int} (h : zHi μ m v i j) (hi : 0 ≤ i ∧ i < 10) (hj : 5 ≤ j ∧ j ≤ 5) : zHd μ m v (i + 1) (sSh v (i + 1).toNat) := by
  obtain ⟨h1, h2, h3, h4⟩ := h
  have e5 : j.toNat = 5 := by omega
  rw [e5] at h1 h4
  exact zHd_next h1 hi hj.1 h2 h3 h4 (by rw [sSh_s v hi.1])
theorem zHd_end {μ m : zM} {v : zVw} {i : Int} (h : zHd μ m v i (sSh v i.toNat)) (hi : 10 ≤ i ∧ i ≤ 10) : zH m v ∧ ∀ a, a < 48 → a ≠ 18 → a ≠ 21 → m a = μ a := by
  obtain ⟨h1, h2, h3, h4, h5⟩ := h
  have e : i.toNat = 10 := by omega
  rw [e] at h3
  exact ⟨⟨h2, h3, fun p p0 p1 => h4 p p0 (by omega), fun p k p0 p1 => h5 p k p0 (by omega)⟩, h1⟩
end
section
/-! contracts: Rounds, what one meets and feels -/
set_option maxHeartbeats 4000000 in
theorem c_X2_partner (l : Launch) (μ : zM) (t : Nat) (ht : zTo t) (v : zVw) (hv : zT μ t v) (ho : vOK v) (p k : Int) (hp : vTh v p) (hk : 0 ≤ k ∧ k < 5) (h18 : μ 18 4 = vN v) : zMi l yX2_partner cX2_partner 7 (.int) 2 41 [.inr 18, .inr t, .inl p, .inl k] μ (fun (r : Int) (m : zM) => μ = m ∧ r = sPar v p k) := by
  refine zMi_of (own := RX2) (by decide +kernel) rfl (Nat.le_of_ble_eq_true rfl) ?_
  intro X hX C hrm E
  subst hX
  show zJ X 7 μ 0 [(0, .inr 18), (1, .inr t), (2, .inl p), (3, .inl k)] []
  obtain ⟨hv1, hv2, hv3, hv4, hv5, hv6, hv7⟩ := id hv
  obtain ⟨ho1, ho2, ho3, ho4, ho5, ho6, ho7⟩ := id ho
  obtain ⟨n1, n2, n3, n4⟩ := vN_ok ho
  have hm := zmulb (k := k) (s := μ t 4) (by omega) (by omega)
  refine z_aload_n C dX2_partner_0 0 rfl ?_
  refine z_getI C ffX2_27 dX2_partner_1 (by decide) rfl rfl 4 rfl (fun hr1 => ?_)
  refine z_iconst C dX2_partner_4 ?_
  refine z_icmp_lt C dX2_partner_5 (tgt := 16) (by decide) (by omega) (by decide) (fun c2 => ?_) (fun c2 => ?_)
  · refine z_bipush C dX2_partner_16 (by decide) ?_
    exact E dX2_partner_18 (by decide) rfl ⟨rfl, (by unfold sPar sMet; (first | (rw [ea]) | (rw [eb]) | skip); split <;> (try split) <;> (try split) <;> omega)⟩
  · refine z_iload_n C dX2_partner_8 3 rfl ?_
    refine z_aload_n C dX2_partner_9 0 rfl ?_
    refine z_getI C ffX2_27 dX2_partner_10 (by decide) rfl rfl 4 rfl (fun hr3 => ?_)
    refine z_icmp_lt C dX2_partner_13 (tgt := 19) (by decide) (by omega) (by omega) (fun c4 => ?_) (fun c4 => ?_)
    · refine z_aload_n C dX2_partner_19 1 rfl ?_
      refine z_getI C ffX2_48 dX2_partner_20 (by have := zto_lt ht; omega) (zd_to0 ht) rfl 5 rfl (fun hr5 => ?_)
      refine z_iload_n C dX2_partner_23 3 rfl ?_
      refine z_aload_n C dX2_partner_24 1 rfl ?_
      refine z_getI C ffX2_51 dX2_partner_25 (by have := zto_lt ht; omega) (zd_to0 ht) rfl 4 rfl (fun hr6 => ?_)
      refine z_imul C dX2_partner_28 ?_
      refine z_iadd C dX2_partner_29 ?_
      refine z_istore C dX2_partner_30 (by decide) (L' := [(0, _), (1, _), (2, _), (3, _), (4, _)]) rfl ?_
      refine z_iload_n C dX2_partner_32 2 rfl ?_
      refine z_callNi C (c_X5_sideOf (zl X) μ p (by omega)) yyX5_sideOf (by decide +kernel) dX2_partner_33 rfl rfl (Nat.le_of_ble_eq_true rfl) (by decide) (fun r7 m7 hr7 hp7 => ?_)
      obtain ⟨rfl, hp7⟩ := hp7
      rcases hp7 with ⟨hp7, rfl⟩ | ⟨hp7, rfl⟩
      · refine z_if_ne C dX2_partner_36 (tgt := 46) (by decide) (by decide) (fun c8 => (by exfalso; omega)) (fun _ => ?_)
        refine z_iload_n C dX2_partner_39 2 rfl ?_
        refine z_iload C dX2_partner_40 4 rfl ?_
        refine z_iadd C dX2_partner_42 ?_
        refine z_goto C dX2_partner_43 (tgt := 52) (by decide) ?_
        refine z_istore C dX2_partner_52 (by decide) (L' := [(0, _), (1, _), (2, _), (3, _), (4, _), (5, _)]) rfl ?_
        refine z_iload_n C dX2_partner_54 2 rfl ?_
        refine z_callNi C (c_X5_otherStart (zl X) μ p (by omega)) yyX5_otherStart (by decide +kernel) dX2_partner_55 rfl rfl (Nat.le_of_ble_eq_true rfl) (by decide) (fun r9 m9 hr9 hp9 => ?_)
        obtain ⟨rfl, hp9⟩ := hp9
        rcases hp9 with ⟨hp9, rfl⟩ | ⟨hp9, rfl⟩
        · refine z_iload C dX2_partner_58 5 rfl ?_
          refine z_aload_n C dX2_partner_60 0 rfl ?_
          refine z_getI C ffX2_27 dX2_partner_61 (by decide) rfl rfl 4 rfl (fun hr10 => ?_)
          refine z_callSi C (c_J9_floorMod_7cf53 (zl X) μ (p + ((μ t 5) + (k * (μ t 4)))) (μ 18 4) (by omega) (by omega)) yyJ9_floorMod_7cf53 mlX2_61 dX2_partner_64 rfl rfl (Nat.le_of_ble_eq_true rfl) (by decide) (fun r11 m11 hr11 hp11 => ?_)
          obtain ⟨rfl, hp11⟩ := hp11
          have hb11 : 0 ≤ r11 ∧ r11 < vN v := by rw [hp11, h18]; exact zmodb (by omega)
          have ea : (p + sAl v k) % vN v = r11 := by first | (exfalso; omega) | (rw [hp11, h18, hv3, hv4]; rfl)
          refine z_iadd C dX2_partner_67 ?_
          refine z_istore C dX2_partner_68 (by decide) (L' := [(0, _), (1, _), (2, _), (3, _), (4, _), (5, _), (6, _)]) rfl ?_
          refine z_aload_n C dX2_partner_70 1 rfl ?_
          refine z_iload C dX2_partner_71 6 rfl ?_
          refine z_callVi C (c_X4_isThere (zl X) μ t ht v hv ho (5 + r11) (by omega)) yyX4_isThere mlX2_36 (zRc_of (i := t) C (by have := zto_lt ht; omega) (zd_to0 ht) rfl) dX2_partner_73 rfl rfl (Nat.le_of_ble_eq_true rfl) (by decide) (fun r12 m12 hr12 hp12 => ?_)
          obtain ⟨rfl, hp12⟩ := hp12
          rcases hp12 with ⟨rfl, hp12⟩ | ⟨rfl, hp12⟩
          · refine z_if_eq C dX2_partner_76 (tgt := 84) (by decide) (by decide) (fun c13 => (by exfalso; omega)) (fun _ => ?_)
            refine z_iload C dX2_partner_79 6 rfl ?_
            refine z_goto C dX2_partner_81 (tgt := 86) (by decide) ?_
            exact E dX2_partner_86 (by omega) rfl ⟨rfl, (by unfold sPar sMet; (first | (rw [ea]) | (rw [eb]) | skip); split <;> (try split) <;> (try split) <;> omega)⟩
          · refine z_if_eq C dX2_partner_76 (tgt := 84) (by decide) (by decide) (fun _ => ?_) (fun c14 => (by exfalso; omega))
            refine z_bipush C dX2_partner_84 (by decide) ?_
            exact E dX2_partner_86 (by decide) rfl ⟨rfl, (by unfold sPar sMet; (first | (rw [ea]) | (rw [eb]) | skip); split <;> (try split) <;> (try split) <;> omega)⟩
        · refine z_iload C dX2_partner_58 5 rfl ?_
          refine z_aload_n C dX2_partner_60 0 rfl ?_
          refine z_getI C ffX2_27 dX2_partner_61 (by decide) rfl rfl 4 rfl (fun hr15 => ?_)
          refine z_callSi C (c_J9_floorMod_7cf53 (zl X) μ (p + ((μ t 5) + (k * (μ t 4)))) (μ 18 4) (by omega) (by omega)) yyJ9_floorMod_7cf53 mlX2_61 dX2_partner_64 rfl rfl (Nat.le_of_ble_eq_true rfl) (by decide) (fun r16 m16 hr16 hp16 => ?_)
          obtain ⟨rfl, hp16⟩ := hp16
          have hb16 : 0 ≤ r16 ∧ r16 < vN v := by rw [hp16, h18]; exact zmodb (by omega)
          have eb : (p - 5 - sAl v k) % vN v = r16 := by first | (exfalso; omega) | (rw [hp16, h18, hv3, hv4]; rfl)
          refine z_iadd C dX2_partner_67 ?_
          refine z_istore C dX2_partner_68 (by decide) (L' := [(0, _), (1, _), (2, _), (3, _), (4, _), (5, _), (6, _)]) rfl ?_
          refine z_aload_n C dX2_partner_70 1 rfl ?_
          refine z_iload C dX2_partner_71 6 rfl ?_
          refine z_callVi C (c_X4_isThere (zl X) μ t ht v hv ho (0 + r16) (by omega)) yyX4_isThere mlX2_36 (zRc_of (i := t) C (by have := zto_lt ht; omega) (zd_to0 ht) rfl) dX2_partner_73 rfl rfl (Nat.le_of_ble_eq_true rfl) (by decide) (fun r17 m17 hr17 hp17 => ?_)
          obtain ⟨rfl, hp17⟩ := hp17
          rcases hp17 with ⟨rfl, hp17⟩ | ⟨rfl, hp17⟩
          · refine z_if_eq C dX2_partner_76 (tgt := 84) (by decide) (by decide) (fun c18 => (by exfalso; omega)) (fun _ => ?_)
            refine z_iload C dX2_partner_79 6 rfl ?_
            refine z_goto C dX2_partner_81 (tgt := 86) (by decide) ?_
            exact E dX2_partner_86 (by omega) rfl ⟨rfl, (by unfold sPar sMet; (first | (rw [ea]) | (rw [eb]) | skip); split <;> (try split) <;> (try split) <;> omega)⟩
          · refine z_if_eq C dX2_partner_76 (tgt := 84) (by decide) (by decide) (fun _ => ?_) (fun c19 => (by exfalso; omega))
            refine z_bipush C dX2_partner_84 (by decide) ?_
            exact E dX2_partner_86 (by decide) rfl ⟨rfl, (by unfold sPar sMet; (first | (rw [ea]) | (rw [eb]) | skip); split <;> (try split) <;> (try split) <;> omega)⟩
      · refine z_if_ne C dX2_partner_36 (tgt := 46) (by decide) (by decide) (fun _ => ?_) (fun c20 => (by exfalso; omega))
        refine z_iload_n C dX2_partner_46 2 rfl ?_
        refine z_iconst C dX2_partner_47 ?_
        refine z_isub C dX2_partner_48 ?_
        refine z_iload C dX2_partner_49 4 rfl ?_
        refine z_isub C dX2_partner_51 ?_
        refine z_istore C dX2_partner_52 (by decide) (L' := [(0, _), (1, _), (2, _), (3, _), (4, _), (5, _)]) rfl ?_
        refine z_iload_n C dX2_partner_54 2 rfl ?_
        refine z_callNi C (c_X5_otherStart (zl X) μ p (by omega)) yyX5_otherStart (by decide +kernel) dX2_partner_55 rfl rfl (Nat.le_of_ble_eq_true rfl) (by decide) (fun r21 m21 hr21 hp21 => ?_)
        obtain ⟨rfl, hp21⟩ := hp21
        rcases hp21 with ⟨hp21, rfl⟩ | ⟨hp21, rfl⟩
        · refine z_iload C dX2_partner_58 5 rfl ?_
          refine z_aload_n C dX2_partner_60 0 rfl ?_
          refine z_getI C ffX2_27 dX2_partner_61 (by decide) rfl rfl 4 rfl (fun hr22 => ?_)
          refine z_callSi C (c_J9_floorMod_7cf53 (zl X) μ ((p - 5) - ((μ t 5) + (k * (μ t 4)))) (μ 18 4) (by omega) (by omega)) yyJ9_floorMod_7cf53 mlX2_61 dX2_partner_64 rfl rfl (Nat.le_of_ble_eq_true rfl) (by decide) (fun r23 m23 hr23 hp23 => ?_)
          obtain ⟨rfl, hp23⟩ := hp23
          have hb23 : 0 ≤ r23 ∧ r23 < vN v := by rw [hp23, h18]; exact zmodb (by omega)
          have ea : (p + sAl v k) % vN v = r23 := by first | (exfalso; omega) | (rw [hp23, h18, hv3, hv4]; rfl)
          refine z_iadd C dX2_partner_67 ?_
          refine z_istore C dX2_partner_68 (by decide) (L' := [(0, _), (1, _), (2, _), (3, _), (4, _), (5, _), (6, _)]) rfl ?_
          refine z_aload_n C dX2_partner_70 1 rfl ?_
          refine z_iload C dX2_partner_71 6 rfl ?_
          refine z_callVi C (c_X4_isThere (zl X) μ t ht v hv ho (5 + r23) (by omega)) yyX4_isThere mlX2_36 (zRc_of (i := t) C (by have := zto_lt ht; omega) (zd_to0 ht) rfl) dX2_partner_73 rfl rfl (Nat.le_of_ble_eq_true rfl) (by decide) (fun r24 m24 hr24 hp24 => ?_)
          obtain ⟨rfl, hp24⟩ := hp24
          rcases hp24 with ⟨rfl, hp24⟩ | ⟨rfl, hp24⟩
          · refine z_if_eq C dX2_partner_76 (tgt := 84) (by decide) (by decide) (fun c25 => (by exfalso; omega)) (fun _ => ?_)
            refine z_iload C dX2_partner_79 6 rfl ?_
            refine z_goto C dX2_partner_81 (tgt := 86) (by decide) ?_
            exact E dX2_partner_86 (by omega) rfl ⟨rfl, (by unfold sPar sMet; (first | (rw [ea]) | (rw [eb]) | skip); split <;> (try split) <;> (try split) <;> omega)⟩
          · refine z_if_eq C dX2_partner_76 (tgt := 84) (by decide) (by decide) (fun _ => ?_) (fun c26 => (by exfalso; omega))
            refine z_bipush C dX2_partner_84 (by decide) ?_
            exact E dX2_partner_86 (by decide) rfl ⟨rfl, (by unfold sPar sMet; (first | (rw [ea]) | (rw [eb]) | skip); split <;> (try split) <;> (try split) <;> omega)⟩
        · refine z_iload C dX2_partner_58 5 rfl ?_
          refine z_aload_n C dX2_partner_60 0 rfl ?_
          refine z_getI C ffX2_27 dX2_partner_61 (by decide) rfl rfl 4 rfl (fun hr27 => ?_)
          refine z_callSi C (c_J9_floorMod_7cf53 (zl X) μ ((p - 5) - ((μ t 5) + (k * (μ t 4)))) (μ 18 4) (by omega) (by omega)) yyJ9_floorMod_7cf53 mlX2_61 dX2_partner_64 rfl rfl (Nat.le_of_ble_eq_true rfl) (by decide) (fun r28 m28 hr28 hp28 => ?_)
          obtain ⟨rfl, hp28⟩ := hp28
          have hb28 : 0 ≤ r28 ∧ r28 < vN v := by rw [hp28, h18]; exact zmodb (by omega)
          have eb : (p - 5 - sAl v k) % vN v = r28 := by first | (exfalso; omega) | (rw [hp28, h18, hv3, hv4]; rfl)
          refine z_iadd C dX2_partner_67 ?_
          refine z_istore C dX2_partner_68 (by decide) (L' := [(0, _), (1, _), (2, _), (3, _), (4, _), (5, _), (6, _)]) rfl ?_
          refine z_aload_n C dX2_partner_70 1 rfl ?_
          refine z_iload C dX2_partner_71 6 rfl ?_
          refine z_callVi C (c_X4_isThere (zl X) μ t ht v hv ho (0 + r28) (by omega)) yyX4_isThere mlX2_36 (zRc_of (i := t) C (by have := zto_lt ht; omega) (zd_to0 ht) rfl) dX2_partner_73 rfl rfl (Nat.le_of_ble_eq_true rfl) (by decide) (fun r29 m29 hr29 hp29 => ?_)
          obtain ⟨rfl, hp29⟩ := hp29
          rcases hp29 with ⟨rfl, hp29⟩ | ⟨rfl, hp29⟩
          · refine z_if_eq C dX2_partner_76 (tgt := 84) (by decide) (by decide) (fun c30 => (by exfalso; omega)) (fun _ => ?_)
            refine z_iload C dX2_partner_79 6 rfl ?_
            refine z_goto C dX2_partner_81 (tgt := 86) (by decide) ?_
            exact E dX2_partner_86 (by omega) rfl ⟨rfl, (by unfold sPar sMet; (first | (rw [ea]) | (rw [eb]) | skip); split <;> (try split) <;> (try split) <;> omega)⟩
          · refine z_if_eq C dX2_partner_76 (tgt := 84) (by decide) (by decide) (fun _ => ?_) (fun c31 => (by exfalso; omega))
            refine z_bipush C dX2_partner_84 (by decide) ?_
            exact E dX2_partner_86 (by decide) rfl ⟨rfl, (by unfold sPar sMet; (first | (rw [ea]) | (rw [eb]) | skip); split <;> (try split) <;> (try split) <;> omega)⟩
    · refine z_bipush C dX2_partner_16 (by decide) ?_
      exact E dX2_partner_18 (by decide) rfl ⟨rfl, (by unfold sPar sMet; (first | (rw [ea]) | (rw [eb]) | skip); split <;> (try split) <;> (try split) <;> omega)⟩
set_option maxHeartbeats 4000000 in
theorem c_X2_wasAlone (l : Launch) (μ : zM) (v : zVw) (p k : Int) (hp : 0 ≤ p ∧ p < 10) (hk : 0 ≤ k ∧ k < 5) (hpar : ∀ k, 0 ≤ k → k < 5 → μ (48 + p.toNat) k = sPar v p k) : zMi l yX2_wasAlone cX2_wasAlone 3 (.boolean) 0 0 [.inr 18, .inl p, .inl k] μ (fun (r : Int) (m : zM) => μ = m ∧ ((r = 1 ∧ (0 < k ∧ sPar v p (k - 1) = -9)) ∨ (r = 0 ∧ ¬ (0 < k ∧ sPar v p (k - 1) = -9)))) := by
  refine zMi_of (own := RX2) (by decide +kernel) rfl (Nat.le_of_ble_eq_true rfl) ?_
  intro X hX C hrm E
  subst hX
  show zJ X 3 μ 0 [(0, .inr 18), (1, .inl p), (2, .inl k)] []
  refine z_iload_n C dX2_wasAlone_0 2 rfl ?_
  refine z_if_le C dX2_wasAlone_1 (tgt := 23) (by decide) (by omega) (fun c1 => ?_) (fun c1 => ?_)
  · refine z_iconst C dX2_wasAlone_23 ?_
    exact E dX2_wasAlone_24 (by decide) (z_nb (Or.inl rfl)) ⟨rfl, Or.inr ⟨rfl, by omega⟩⟩
  · refine z_aload_n C dX2_wasAlone_4 0 rfl ?_
    refine z_getR C ffX2_11 dX2_wasAlone_5 (by decide) rfl rfl ?_
    refine z_iload_n C dX2_wasAlone_8 1 rfl ?_
    refine z_aald C dX2_wasAlone_9 (by decide) rfl (by omega) (by decide) ?_
    refine z_iload_n C dX2_wasAlone_10 2 rfl ?_
    skip
    refine z_iconst C dX2_wasAlone_11 ?_
    refine z_isub C dX2_wasAlone_12 ?_
    refine z_iald C dX2_wasAlone_13 (by omega) (zd_row (by omega)) (by omega) (by decide) (fun hr2 => ?_)
    rw [hpar (k - 1) (by omega) (by omega)] at *
    refine z_bipush C dX2_wasAlone_14 (by decide) ?_
    refine z_icmp_ne C dX2_wasAlone_16 (tgt := 23) (by decide) (by omega) (by decide) (fun c3 => ?_) (fun c3 => ?_)
    · refine z_iconst C dX2_wasAlone_23 ?_
      exact E dX2_wasAlone_24 (by decide) (z_nb (Or.inl rfl)) ⟨rfl, Or.inr ⟨rfl, by omega⟩⟩
    · refine z_iconst C dX2_wasAlone_19 ?_
      refine z_goto C dX2_wasAlone_20 (tgt := 24) (by decide) ?_
      exact E dX2_wasAlone_24 (by decide) (z_nb (Or.inr rfl)) ⟨rfl, Or.inl ⟨rfl, by omega⟩⟩
set_option maxHeartbeats 4000000 in
theorem c_X2_isInShade (l : Launch) (μ : zM) (t : Nat) (ht : zTo t) (v : zVw) (hv : zT μ t v) (ho : vOK v) (p z k : Int) (hp : vTh v p) (hz : 0 ≤ z ∧ z ≤ 9) (hk : 0 ≤ k ∧ k < 5) (hpar : ∀ k, 0 ≤ k → k < 5 → μ (48 + p.toNat) k = sPar v p k) : zMi l yX2_isInShade cX2_isInShade 5 (.boolean) 1 22 [.inr 18, .inr t, .inl p, .inl z, .inl k] μ (fun (r : Int) (m : zM) => μ = m ∧ ((r = 1 ∧ (0 < k ∧ ¬ sPar v p (k - 1) = -9 ∧ z < vA v p (sPar v p (k - 1)))) ∨ (r = 0 ∧ ¬ (0 < k ∧ ¬ sPar v p (k - 1) = -9 ∧ z < vA v p (sPar v p (k - 1)))))) := by
  refine zMi_of (own := RX2) (by decide +kernel) rfl (Nat.le_of_ble_eq_true rfl) ?_
  intro X hX C hrm E
  subst hX
  show zJ X 5 μ 0 [(0, .inr 18), (1, .inr t), (2, .inl p), (3, .inl z), (4, .inl k)] []
  obtain ⟨hv1, hv2, hv3, hv4, hv5, hv6, hv7⟩ := id hv
  obtain ⟨ho1, ho2, ho3, ho4, ho5, ho6, ho7⟩ := id ho
  have hu := sPar_U ho (p := p) (k := k - 1)
  refine z_iload C dX2_isInShade_0 4 rfl ?_
  refine z_iconst C dX2_isInShade_2 ?_
  refine z_icmp_lt C dX2_isInShade_3 (tgt := 16) (by decide) (by omega) (by decide) (fun c1 => ?_) (fun c1 => ?_)
  · refine z_iconst C dX2_isInShade_16 ?_
    exact E dX2_isInShade_17 (by decide) (z_nb (Or.inl rfl)) ⟨rfl, Or.inr ⟨rfl, by omega⟩⟩
  · refine z_aload_n C dX2_isInShade_6 0 rfl ?_
    refine z_iload_n C dX2_isInShade_7 2 rfl ?_
    refine z_iload C dX2_isInShade_8 4 rfl ?_
    refine z_callVi C (c_X2_wasAlone (zl X) μ v p k (by omega) (by omega) hpar) yyX2_wasAlone mlX2_87 (zRc_of (i := 18) C (by decide) rfl rfl) dX2_isInShade_10 rfl rfl (Nat.le_of_ble_eq_true rfl) (by decide) (fun r2 m2 hr2 hp2 => ?_)
    obtain ⟨rfl, hp2⟩ := hp2
    rcases hp2 with ⟨rfl, hp2⟩ | ⟨rfl, hp2⟩
    · refine z_if_eq C dX2_isInShade_13 (tgt := 18) (by decide) (by decide) (fun c3 => (by exfalso; omega)) (fun _ => ?_)
      refine z_iconst C dX2_isInShade_16 ?_
      exact E dX2_isInShade_17 (by decide) (z_nb (Or.inl rfl)) ⟨rfl, Or.inr ⟨rfl, by omega⟩⟩
    · refine z_if_eq C dX2_isInShade_13 (tgt := 18) (by decide) (by decide) (fun _ => ?_) (fun c4 => (by exfalso; omega))
      refine z_aload_n C dX2_isInShade_18 1 rfl ?_
      refine z_iload_n C dX2_isInShade_19 2 rfl ?_
      refine z_aload_n C dX2_isInShade_20 0 rfl ?_
      refine z_getR C ffX2_11 dX2_isInShade_21 (by decide) rfl rfl ?_
      refine z_iload_n C dX2_isInShade_24 2 rfl ?_
      refine z_aald C dX2_isInShade_25 (by decide) rfl (by omega) (by decide) ?_
      refine z_iload C dX2_isInShade_26 4 rfl ?_
      refine z_iconst C dX2_isInShade_28 ?_
      refine z_isub C dX2_isInShade_29 ?_
      refine z_iald C dX2_isInShade_30 (by omega) (zd_row (by omega)) (by omega) (by decide) (fun hr5 => ?_)
      rw [hpar (k - 1) (by omega) (by omega)] at *
      refine z_callVi C (c_X4_likes (zl X) μ t ht v hv ho p (sPar v p (k - 1)) (by omega)) yyX4_likes mlX2_77 (zRc_of (i := t) C (by have := zto_lt ht; omega) (zd_to0 ht) rfl) dX2_isInShade_31 rfl rfl (Nat.le_of_ble_eq_true rfl) (by decide) (fun r6 m6 hr6 hp6 => ?_)
      obtain ⟨rfl, hp6⟩ := hp6
      have hq := ho7 p (sPar v p (k - 1)) (by omega)
      refine z_iload_n C dX2_isInShade_34 3 rfl ?_
      refine z_icmp_le C dX2_isInShade_35 (tgt := 42) (by decide) (by omega) (by omega) (fun c7 => ?_) (fun c7 => ?_)
      · refine z_iconst C dX2_isInShade_42 ?_
        exact E dX2_isInShade_43 (by decide) (z_nb (Or.inl rfl)) ⟨rfl, Or.inr ⟨rfl, by omega⟩⟩
      · refine z_iconst C dX2_isInShade_38 ?_
        refine z_goto C dX2_isInShade_39 (tgt := 43) (by decide) ?_
        exact E dX2_isInShade_43 (by decide) (z_nb (Or.inr rfl)) ⟨rfl, Or.inl ⟨rfl, by omega⟩⟩
set_option maxHeartbeats 4000000 in
theorem c_X2_feeling (l : Launch) (μ : zM) (t : Nat) (ht : zTo t) (v : zVw) (hv : zT μ t v) (ho : vOK v) (p o k : Int) (hp : vTh v p) (hpo : zU p o) (hk : 0 ≤ k ∧ k < 5) (hpar : ∀ k, 0 ≤ k → k < 5 → μ (48 + p.toNat) k = sPar v p k) : zMi l yX2_feeling cX2_feeling 6 (.int) 2 46 [.inr 18, .inr t, .inl p, .inl o, .inl k] μ (fun (r : Int) (m : zM) => μ = m ∧ r = sFeel v p o k) := by
  refine zMi_of (own := RX2) (by decide +kernel) rfl (Nat.le_of_ble_eq_true rfl) ?_
  intro X hX C hrm E
  subst hX
  show zJ X 6 μ 0 [(0, .inr 18), (1, .inr t), (2, .inl p), (3, .inl o), (4, .inl k)] []
  obtain ⟨hv1, hv2, hv3, hv4, hv5, hv6, hv7⟩ := id hv
  obtain ⟨ho1, ho2, ho3, ho4, ho5, ho6, ho7⟩ := id ho
  have hq := ho7 p o hpo
  have hq2 := ho7 o p (by omega)
  have hkd := (ho6 p (by omega) (by omega)).1
  have hvk := (hv6 p (by omega) (by omega)).1
  have hfb := sFeel_b ho hk hpo
  refine z_aload_n C dX2_feeling_0 1 rfl ?_
  refine z_iload_n C dX2_feeling_1 2 rfl ?_
  refine z_iload_n C dX2_feeling_2 3 rfl ?_
  refine z_callVi C (c_X4_likes (zl X) μ t ht v hv ho p o (by omega)) yyX4_likes mlX2_77 (zRc_of (i := t) C (by have := zto_lt ht; omega) (zd_to0 ht) rfl) dX2_feeling_3 rfl rfl (Nat.le_of_ble_eq_true rfl) (by decide) (fun r1 m1 hr1 hp1 => ?_)
  obtain ⟨rfl, hp1⟩ := hp1
  rw [hp1] at *
  refine z_istore C dX2_feeling_6 (by decide) (L' := [(0, _), (1, _), (2, _), (3, _), (4, _), (5, _)]) rfl ?_
  refine z_aload_n C dX2_feeling_8 1 rfl ?_
  refine z_getR C ffX2_80 dX2_feeling_9 (by have := zto_lt ht; omega) (zd_to0 ht) rfl ?_
  refine z_iload_n C dX2_feeling_12 2 rfl ?_
  refine z_iald C dX2_feeling_13 (by have := zto_lt ht; omega) (zd_to2 ht) (by omega) (by decide) (fun hr2 => ?_)
  rw [hvk] at *
  by_cases e3_0 : (vK v p) = 1
  · refine z_tabIn C dX2_feeling_14 (by omega) 0 (by omega) (by omega) (off := 34) (tgt := 48) rfl (by decide) ?_
    refine z_iload C dX2_feeling_48 4 rfl ?_
    refine z_if_ne C dX2_feeling_50 (tgt := 60) (by decide) (by omega) (fun c4 => ?_) (fun c4 => ?_)
    · refine z_iload C dX2_feeling_60 5 rfl ?_
      exact E dX2_feeling_62 (by omega) rfl ⟨rfl, (by unfold sFeel; simp [*]; try omega)⟩
    · refine z_iload C dX2_feeling_53 5 rfl ?_
      refine z_iconst C dX2_feeling_55 ?_
      refine z_isub C dX2_feeling_56 ?_
      refine z_goto C dX2_feeling_57 (tgt := 62) (by decide) ?_
      exact E dX2_feeling_62 (by omega) rfl ⟨rfl, (by unfold sFeel; simp [*]; try omega)⟩
  by_cases e3_1 : (vK v p) = 2
  · refine z_tabIn C dX2_feeling_14 (by omega) 1 (by omega) (by omega) (off := 49) (tgt := 63) rfl (by decide) ?_
    refine z_iload C dX2_feeling_63 5 rfl ?_
    refine z_iload C dX2_feeling_65 4 rfl ?_
    refine z_iconst C dX2_feeling_67 ?_
    refine z_idiv C dX2_feeling_68 (by omega) ?_
    refine z_isub C dX2_feeling_69 ?_
    exact E dX2_feeling_70 (by omega) rfl ⟨rfl, (by unfold sFeel; simp [*]; try omega)⟩
  by_cases e3_2 : (vK v p) = 3
  · refine z_tabIn C dX2_feeling_14 (by omega) 2 (by omega) (by omega) (off := 57) (tgt := 71) rfl (by decide) ?_
    refine z_aload_n C dX2_feeling_71 0 rfl ?_
    refine z_aload_n C dX2_feeling_72 1 rfl ?_
    refine z_iload_n C dX2_feeling_73 2 rfl ?_
    refine z_iload C dX2_feeling_74 5 rfl ?_
    refine z_iload C dX2_feeling_76 4 rfl ?_
    refine z_callVi C (c_X2_isInShade (zl X) μ t ht v hv ho p (vA v p o) k (by omega) (by omega) (by omega) hpar) yyX2_isInShade mlX2_83 (zRc_of (i := 18) C (by decide) rfl rfl) dX2_feeling_78 rfl rfl (Nat.le_of_ble_eq_true rfl) (by decide) (fun r5 m5 hr5 hp5 => ?_)
    obtain ⟨rfl, hp5⟩ := hp5
    rcases hp5 with ⟨rfl, hp5⟩ | ⟨rfl, hp5⟩
    · refine z_if_eq C dX2_feeling_81 (tgt := 91) (by decide) (by decide) (fun c6 => (by exfalso; omega)) (fun _ => ?_)
      refine z_iload C dX2_feeling_84 5 rfl ?_
      refine z_iconst C dX2_feeling_86 ?_
      refine z_isub C dX2_feeling_87 ?_
      refine z_goto C dX2_feeling_88 (tgt := 93) (by decide) ?_
      exact E dX2_feeling_93 (by omega) rfl ⟨rfl, (by unfold sFeel; simp [*]; try omega)⟩
    · refine z_if_eq C dX2_feeling_81 (tgt := 91) (by decide) (by decide) (fun _ => ?_) (fun c7 => (by exfalso; omega))
      refine z_iload C dX2_feeling_91 5 rfl ?_
      exact E dX2_feeling_93 (by omega) rfl ⟨rfl, (by unfold sFeel; simp [*]; try omega)⟩
  by_cases e3_3 : (vK v p) = 4
  · refine z_tabIn C dX2_feeling_14 (by omega) 3 (by omega) (by omega) (off := 80) (tgt := 94) rfl (by decide) ?_
    refine z_aload_n C dX2_feeling_94 1 rfl ?_
    refine z_iload_n C dX2_feeling_95 3 rfl ?_
    refine z_iload_n C dX2_feeling_96 2 rfl ?_
    refine z_callVi C (c_X4_likes (zl X) μ t ht v hv ho o p (by omega)) yyX4_likes mlX2_77 (zRc_of (i := t) C (by have := zto_lt ht; omega) (zd_to0 ht) rfl) dX2_feeling_97 rfl rfl (Nat.le_of_ble_eq_true rfl) (by decide) (fun r8 m8 hr8 hp8 => ?_)
    obtain ⟨rfl, hp8⟩ := hp8
    rw [hp8] at *
    refine z_iconst C dX2_feeling_100 ?_
    refine z_icmp_lt C dX2_feeling_101 (tgt := 111) (by decide) (by omega) (by decide) (fun c9 => ?_) (fun c9 => ?_)
    · refine z_iload C dX2_feeling_111 5 rfl ?_
      refine z_iconst C dX2_feeling_113 ?_
      refine z_isub C dX2_feeling_114 ?_
      exact E dX2_feeling_115 (by omega) rfl ⟨rfl, (by unfold sFeel; simp [*]; try omega)⟩
    · refine z_iload C dX2_feeling_104 5 rfl ?_
      refine z_iconst C dX2_feeling_106 ?_
      refine z_iadd C dX2_feeling_107 ?_
      refine z_goto C dX2_feeling_108 (tgt := 115) (by decide) ?_
      exact E dX2_feeling_115 (by omega) rfl ⟨rfl, (by unfold sFeel; simp [*]; try omega)⟩
  by_cases e3_4 : (vK v p) = 5
  · refine z_tabIn C dX2_feeling_14 (by omega) 4 (by omega) (by omega) (off := 102) (tgt := 116) rfl (by decide) ?_
    refine z_iload C dX2_feeling_116 5 rfl ?_
    refine z_iload C dX2_feeling_118 4 rfl ?_
    refine z_iconst C dX2_feeling_120 ?_
    refine z_idiv C dX2_feeling_121 (by omega) ?_
    refine z_isub C dX2_feeling_122 ?_
    refine z_aload_n C dX2_feeling_123 0 rfl ?_
    refine z_iload_n C dX2_feeling_124 2 rfl ?_
    refine z_iload C dX2_feeling_125 4 rfl ?_
    refine z_callVi C (c_X2_wasAlone (zl X) μ v p k (by omega) (by omega) hpar) yyX2_wasAlone mlX2_87 (zRc_of (i := 18) C (by decide) rfl rfl) dX2_feeling_127 rfl rfl (Nat.le_of_ble_eq_true rfl) (by decide) (fun r10 m10 hr10 hp10 => ?_)
    obtain ⟨rfl, hp10⟩ := hp10
    rcases hp10 with ⟨rfl, hp10⟩ | ⟨rfl, hp10⟩
    · refine z_if_eq C dX2_feeling_130 (tgt := 137) (by decide) (by decide) (fun c11 => (by exfalso; omega)) (fun _ => ?_)
      refine z_iconst C dX2_feeling_133 ?_
      refine z_goto C dX2_feeling_134 (tgt := 138) (by decide) ?_
      refine z_isub C dX2_feeling_138 ?_
      exact E dX2_feeling_139 (by omega) rfl ⟨rfl, (by unfold sFeel; simp [*]; try omega)⟩
    · refine z_if_eq C dX2_feeling_130 (tgt := 137) (by decide) (by decide) (fun _ => ?_) (fun c12 => (by exfalso; omega))
      refine z_iconst C dX2_feeling_137 ?_
      refine z_isub C dX2_feeling_138 ?_
      exact E dX2_feeling_139 (by omega) rfl ⟨rfl, (by unfold sFeel; simp [*]; try omega)⟩
  refine z_tabOut C dX2_feeling_14 (by omega) (by omega) (tgt := 140) (by decide) ?_
  refine z_iload C dX2_feeling_140 5 rfl ?_
  exact E dX2_feeling_142 (by omega) rfl ⟨rfl, (by unfold sFeel; simp [*]; try omega)⟩
end
section
/-! contracts: Rounds, hold -/
set_option maxHeartbeats 4000000 in
theorem c_X2_feelAndSay (l : Launch) (μ : zM) (t : Nat) (ht : zTo t) (v : zVw) (hv : zT μ t v) (ho : vOK v) (p k o : Int) (hp : vTh v p) (hk : 0 ≤ k ∧ k < 5) (hpar : ∀ k, 0 ≤ k → k < 5 → μ (48 + p.toNat) k = sPar v p k) (hov : sPar v p k = o) (hno : ¬ o = -9) (hs : 0 ≤ μ 21 p ∧ μ 21 p < 32) (hsh : 0 ≤ μ 18 3 ∧ μ 18 3 ≤ 100) : zMv l yX2_feelAndSay cX2_feelAndSay 6 3 71 [.inr 18, .inr t, .inl p, .inl k] μ (fun (m : zM) => (∀ a x, ¬ (a = 58 + p.toNat ∧ x = k) → ¬ (a = 21 ∧ x = p) → ¬ (a = 18 ∧ x = 3) → m a x = μ a x) ∧ (∀ a, a < 48 → a ≠ 18 → a ≠ 21 → m a = μ a) ∧ m (58 + p.toNat) k = sFeel v p o k ∧ m 21 p = (if vB v p ≤ sFeel v p o k then zor (μ 21 p) (zbit o) else μ 21 p) ∧ m 18 3 = μ 18 3 + (if ¬ sFeel v p o k = vA v p o then 1 else 0)) := by
  refine zMv_of (own := RX2) (by decide +kernel) rfl (Nat.le_of_ble_eq_true rfl) ?_
  intro X hX C hrm E
  subst hX
  show zJ X 6 μ 0 [(0, .inr 18), (1, .inr t), (2, .inl p), (3, .inl k)] []
  obtain ⟨hv1, hv2, hv3, hv4, hv5, hv6, hv7⟩ := id hv
  obtain ⟨ho1, ho2, ho3, ho4, ho5, ho6, ho7⟩ := id ho
  have hu := sPar_U ho (p := p) (k := k)
  rw [hov] at hu
  have hpo : zU p o := by omega
  have hfb := sFeel_b ho hk hpo
  have hbb := (ho6 p (by omega) (by omega)).2
  have hvb := (hv6 p (by omega) (by omega)).2
  have hq := ho7 p o hpo
  have hzb := zor_bit (μ 21 p) hs.1 hs.2 o (by omega) (by omega)
  refine z_aload_n C dX2_feelAndSay_0 0 rfl ?_
  refine z_getR C ffX2_11 dX2_feelAndSay_1 (by decide) rfl rfl ?_
  refine z_iload_n C dX2_feelAndSay_4 2 rfl ?_
  refine z_aald C dX2_feelAndSay_5 (by decide) rfl (by omega) (by decide) ?_
  refine z_iload_n C dX2_feelAndSay_6 3 rfl ?_
  refine z_iald C dX2_feelAndSay_7 (by omega) (zd_row (by omega)) (by omega) (by decide) (fun hr1 => ?_)
  rw [hpar k (by omega) (by omega), hov]
  refine z_istore C dX2_feelAndSay_8 (by decide) (L' := [(0, _), (1, _), (2, _), (3, _), (4, _)]) rfl ?_
  refine z_aload_n C dX2_feelAndSay_10 0 rfl ?_
  refine z_aload_n C dX2_feelAndSay_11 1 rfl ?_
  refine z_iload_n C dX2_feelAndSay_12 2 rfl ?_
  refine z_iload C dX2_feelAndSay_13 4 rfl ?_
  refine z_iload_n C dX2_feelAndSay_15 3 rfl ?_
  refine z_callVi C (c_X2_feeling (zl X) μ t ht v hv ho p o k (by omega) (by omega) (by omega) hpar) yyX2_feeling mlX2_67 (zRc_of (i := 18) C (by decide) rfl rfl) dX2_feelAndSay_16 rfl rfl (Nat.le_of_ble_eq_true rfl) (by decide) (fun r2 m2 hr2 hp2 => ?_)
  obtain ⟨rfl, hp2⟩ := hp2
  rw [hp2]
  refine z_istore C dX2_feelAndSay_19 (by decide) (L' := [(0, _), (1, _), (2, _), (3, _), (4, _), (5, _)]) rfl ?_
  refine z_aload_n C dX2_feelAndSay_21 0 rfl ?_
  refine z_getR C ffX2_16 dX2_feelAndSay_22 (by decide) rfl rfl ?_
  refine z_iload_n C dX2_feelAndSay_25 2 rfl ?_
  refine z_aald C dX2_feelAndSay_26 (by decide) rfl (by omega) (by decide) ?_
  refine z_iload_n C dX2_feelAndSay_27 3 rfl ?_
  refine z_iload C dX2_feelAndSay_28 5 rfl ?_
  refine z_iast C dX2_feelAndSay_30 (by omega) (zd_row (by omega)) (by omega) (by decide) (by omega) ?_
  refine z_mem (fun m3 em3 => ?_)
  refine z_iload C dX2_feelAndSay_31 5 rfl ?_
  refine z_aload_n C dX2_feelAndSay_33 1 rfl ?_
  refine z_getR C ffX2_71 dX2_feelAndSay_34 (by have := zto_lt ht; omega) (zd_to0 ht) rfl ?_
  refine z_iload_n C dX2_feelAndSay_37 2 rfl ?_
  refine z_iald C dX2_feelAndSay_38 (by have := zto_lt ht; omega) (zd_to3 ht) (by omega) (by decide) (fun hr4 => ?_)
  have ht3 : m3 (t + 3) p = vB v p := by rw [em3, zs_o _ _ (by omega)]; exact hvb
  rw [ht3]
  refine z_icmp_lt C dX2_feelAndSay_39 (tgt := 56) (by decide) (by omega) (by omega) (fun c5 => ?_) (fun c5 => ?_)
  · refine z_iload C dX2_feelAndSay_56 5 rfl ?_
    refine z_aload_n C dX2_feelAndSay_58 1 rfl ?_
    refine z_iload_n C dX2_feelAndSay_59 2 rfl ?_
    refine z_iload C dX2_feelAndSay_60 4 rfl ?_
    refine z_callVi C (c_X4_likes (zl X) m3 t ht v (zT_fr hv (fun i i0 i1 => by rw [em3, zs_ne _ _ _ (by omega)])) ho p o (by omega)) yyX4_likes mlX2_77 (zRc_of (i := t) C (by have := zto_lt ht; omega) (zd_to0 ht) rfl) dX2_feelAndSay_62 rfl rfl (Nat.le_of_ble_eq_true rfl) (by decide) (fun r6 m6 hr6 hp6 => ?_)
    obtain ⟨rfl, hp6⟩ := hp6
    rw [hp6]
    refine z_icmp_eq C dX2_feelAndSay_65 (tgt := 78) (by decide) (by omega) (by omega) (fun c7 => ?_) (fun c7 => ?_)
    · exact E dX2_feelAndSay_78 ⟨(fun a x q1 q2 q3 => by rw [em3, zs_o _ _ (by assumption)]), (fun a q1 q2 q3 => by rw [em3, zs_ne _ _ _ (by omega)]), (by rw [em3, zs_self]), (by rw [em3, zs_o _ _ (by omega), if_neg (by omega)]), (by rw [em3, zs_o _ _ (by omega), if_neg (by omega), Int.add_zero])⟩
    · refine z_aload_n C dX2_feelAndSay_68 0 rfl ?_
      refine z_dup C dX2_feelAndSay_69 ?_
      refine z_getI C ffX2_23 dX2_feelAndSay_70 (by decide) rfl rfl 3 rfl (fun hr8 => ?_)
      have hs18 : m3 18 3 = μ 18 3 := by rw [em3, zs_o _ _ (by omega)]
      rw [hs18]
      refine z_iconst C dX2_feelAndSay_73 ?_
      refine z_iadd C dX2_feelAndSay_74 ?_
      refine z_putI C ffX2_23 fp2_3 dX2_feelAndSay_75 (by decide) rfl rfl 3 rfl (by omega) ?_
      refine z_mem (fun m9 em9 => ?_)
      exact E dX2_feelAndSay_78 ⟨(fun a x q1 q2 q3 => by rw [em9, zs_o _ _ (by assumption), em3, zs_o _ _ (by assumption)]), (fun a q1 q2 q3 => by rw [em9, zs_ne _ _ _ (by omega), em3, zs_ne _ _ _ (by omega)]), (by rw [em9, zs_o _ _ (by omega), em3, zs_self]), (by rw [em9, zs_o _ _ (by omega), em3, zs_o _ _ (by omega), if_neg (by omega)]), (by rw [em9, zs_self, if_pos (by omega)])⟩
  · refine z_aload_n C dX2_feelAndSay_42 0 rfl ?_
    refine z_getR C ffX2_19 dX2_feelAndSay_43 (by decide) rfl rfl ?_
    refine z_iload_n C dX2_feelAndSay_46 2 rfl ?_
    refine z_dup2 C dX2_feelAndSay_47 ?_
    refine z_iald C dX2_feelAndSay_48 (by decide) rfl (by omega) (by decide) (fun hr10 => ?_)
    have hs21 : m3 21 p = μ 21 p := by rw [em3, zs_o _ _ (by omega)]
    rw [hs21]
    refine z_iload C dX2_feelAndSay_49 4 rfl ?_
    refine z_callNi C (c_X5_bitOf (zl X) m3 o (by omega)) yyX5_bitOf (by decide +kernel) dX2_feelAndSay_51 rfl rfl (Nat.le_of_ble_eq_true rfl) (by decide) (fun r11 m11 hr11 hp11 => ?_)
    obtain ⟨rfl, hp11⟩ := hp11
    rw [hp11]
    refine z_ior C dX2_feelAndSay_54 ?_
    refine z_iast C dX2_feelAndSay_55 (by decide) rfl (by omega) (by decide) (by omega) ?_
    refine z_mem (fun m12 em12 => ?_)
    refine z_iload C dX2_feelAndSay_56 5 rfl ?_
    refine z_aload_n C dX2_feelAndSay_58 1 rfl ?_
    refine z_iload_n C dX2_feelAndSay_59 2 rfl ?_
    refine z_iload C dX2_feelAndSay_60 4 rfl ?_
    refine z_callVi C (c_X4_likes (zl X) m12 t ht v (zT_fr hv (fun i i0 i1 => by rw [em12, zs_ne _ _ _ (by omega), em3, zs_ne _ _ _ (by omega)])) ho p o (by omega)) yyX4_likes mlX2_77 (zRc_of (i := t) C (by have := zto_lt ht; omega) (zd_to0 ht) rfl) dX2_feelAndSay_62 rfl rfl (Nat.le_of_ble_eq_true rfl) (by decide) (fun r13 m13 hr13 hp13 => ?_)
    obtain ⟨rfl, hp13⟩ := hp13
    rw [hp13]
    refine z_icmp_eq C dX2_feelAndSay_65 (tgt := 78) (by decide) (by omega) (by omega) (fun c14 => ?_) (fun c14 => ?_)
    · exact E dX2_feelAndSay_78 ⟨(fun a x q1 q2 q3 => by rw [em12, zs_o _ _ (by assumption), em3, zs_o _ _ (by assumption)]), (fun a q1 q2 q3 => by rw [em12, zs_ne _ _ _ (by omega), em3, zs_ne _ _ _ (by omega)]), (by rw [em12, zs_o _ _ (by omega), em3, zs_self]), (by rw [em12, zs_self, if_pos (by omega)]), (by rw [em12, zs_o _ _ (by omega), em3, zs_o _ _ (by omega), if_neg (by omega), Int.add_zero])⟩
    · refine z_aload_n C dX2_feelAndSay_68 0 rfl ?_
      refine z_dup C dX2_feelAndSay_69 ?_
      refine z_getI C ffX2_23 dX2_feelAndSay_70 (by decide) rfl rfl 3 rfl (fun hr15 => ?_)
      have hs18 : m12 18 3 = μ 18 3 := by rw [em12, zs_o _ _ (by omega), em3, zs_o _ _ (by omega)]
      rw [hs18]
      refine z_iconst C dX2_feelAndSay_73 ?_
      refine z_iadd C dX2_feelAndSay_74 ?_
      refine z_putI C ffX2_23 fp2_3 dX2_feelAndSay_75 (by decide) rfl rfl 3 rfl (by omega) ?_
      refine z_mem (fun m16 em16 => ?_)
      exact E dX2_feelAndSay_78 ⟨(fun a x q1 q2 q3 => by rw [em16, zs_o _ _ (by assumption), em12, zs_o _ _ (by assumption), em3, zs_o _ _ (by assumption)]), (fun a q1 q2 q3 => by rw [em16, zs_ne _ _ _ (by omega), em12, zs_ne _ _ _ (by omega), em3, zs_ne _ _ _ (by omega)]), (by rw [em16, zs_o _ _ (by omega), em12, zs_o _ _ (by omega), em3, zs_self]), (by rw [em16, zs_o _ _ (by omega), em12, zs_self, if_pos (by omega)]), (by rw [em16, zs_self, if_pos (by omega)])⟩
set_option maxHeartbeats 4000000 in
theorem c_X2_hold (l : Launch) (μ : zM) (t : Nat) (ht : zTo t) (v : zVw) (hv : zT μ t v) (ho : vOK v) : zMv l yX2_hold cX2_hold 5 4 96 [.inr 18, .inr t] μ (fun (m : zM) => zH m v ∧ ∀ a, a < 48 → a ≠ 18 → a ≠ 21 → m a = μ a) := by
  refine zMv_of (own := RX2) (by decide +kernel) rfl (Nat.le_of_ble_eq_true rfl) ?_
  intro X hX C hrm E
  subst hX
  show zJ X 5 μ 0 [(0, .inr 18), (1, .inr t)] []
  obtain ⟨hv1, hv2, hv3, hv4, hv5, hv6, hv7⟩ := id hv
  obtain ⟨ho1, ho2, ho3, ho4, ho5, ho6, ho7⟩ := id ho
  obtain ⟨n1, n2, n3, n4⟩ := vN_ok ho
  refine z_aload_n C dX2_hold_0 0 rfl ?_
  refine z_aload_n C dX2_hold_1 1 rfl ?_
  refine z_callVi C (c_X4_rounds (zl X) μ t ht v hv ho) yyX4_rounds mlX2_30 (zRc_of (i := t) C (by have := zto_lt ht; omega) (zd_to0 ht) rfl) dX2_hold_2 rfl rfl (Nat.le_of_ble_eq_true rfl) (by decide) (fun r1 m1 hr1 hp1 => ?_)
  obtain ⟨rfl, hp1⟩ := hp1
  rw [hp1]
  refine z_putI C ffX2_27 fp2_4 dX2_hold_5 (by decide) rfl rfl 4 rfl (by omega) ?_
  refine z_mem (fun m2 em2 => ?_)
  refine z_aload_n C dX2_hold_8 0 rfl ?_
  refine z_iconst C dX2_hold_9 ?_
  refine z_putI C ffX2_23 fp2_3 dX2_hold_10 (by decide) rfl rfl 3 rfl (by decide) ?_
  refine z_mem (fun m3 em3 => ?_)
  refine z_iconst C dX2_hold_13 ?_
  refine z_istore_n C dX2_hold_14 (by decide) (L' := [(0, _), (1, _), (2, _)]) rfl ?_
  have LP15 : ∀ (N15 : Nat) (i : Int) (ma : zM), (0 ≤ i) → (i ≤ 10) → (zHd μ ma v i (sSh v i.toNat)) → (10 - i).toNat < N15 → zJ X 5 ma 15 [(0, .inr 18), (1, .inr t), (2, .inl i)] [] := by
    intro N15
    induction N15 with
    | zero => intro i ma h15_0 h15_1 h15_2 hN; exact absurd hN (Nat.not_lt_zero _)
    | succ N15 ih15 =>
      intro i ma h15_0 h15_1 h15_2 hN15
      refine z_iload_n C dX2_hold_15 2 rfl ?_
      refine z_bipush C dX2_hold_16 (by decide) ?_
      refine z_icmp_ge C dX2_hold_18 (tgt := 130) (by decide) (by omega) (by decide) (fun c4 => ?_) (fun c4 => ?_)
      · exact E dX2_hold_130 (zHd_end h15_2 (by omega))
      · refine z_aload_n C dX2_hold_21 1 rfl ?_
        refine z_iload_n C dX2_hold_22 2 rfl ?_
        refine z_callVi C (c_X4_isThere (zl X) ma t ht v (zT_fr hv (fun a a0 a1 => h15_2.1 a (by omega) (by omega) (by omega))) ho i (by omega)) yyX4_isThere mlX2_36 (zRc_of (i := t) C (by have := zto_lt ht; omega) (zd_to0 ht) rfl) dX2_hold_23 rfl rfl (Nat.le_of_ble_eq_true rfl) (by decide) (fun r5 m5 hr5 hp5 => ?_)
        obtain ⟨rfl, hp5⟩ := hp5
        refine z_istore_n C dX2_hold_26 (by decide) (L' := [(0, _), (1, _), (2, _), (3, _)]) rfl ?_
        refine z_iconst C dX2_hold_27 ?_
        refine z_istore C dX2_hold_28 (by decide) (L' := [(0, _), (1, _), (2, _), (3, _), (4, _)]) rfl ?_
        have LP30 : ∀ (N30 : Nat) (j : Int) (mb : zM), (0 ≤ j) → (j ≤ 5) → (zHd μ mb v i (sSh v i.toNat)) → (∀ k, 0 ≤ k → k < j → mb (48 + i.toNat) k = sPar v i k) → (5 - j).toNat < N30 → zJ X 5 mb 30 [(0, .inr 18), (1, .inr t), (2, .inl i), (3, .inl r5), (4, .inl j)] [] := by
          intro N30
          induction N30 with
          | zero => intro j mb h30_0 h30_1 h30_2 h30_3 hN; exact absurd hN (Nat.not_lt_zero _)
          | succ N30 ih30 =>
            intro j mb h30_0 h30_1 h30_2 h30_3 hN30
            refine z_iload C dX2_hold_30 4 rfl ?_
            refine z_iconst C dX2_hold_32 ?_
            refine z_icmp_ge C dX2_hold_33 (tgt := 68) (by decide) (by omega) (by decide) (fun c6 => ?_) (fun c6 => ?_)
            · refine z_aload_n C dX2_hold_68 0 rfl ?_
              refine z_getR C ffX2_19 dX2_hold_69 (by decide) rfl rfl ?_
              refine z_iload_n C dX2_hold_72 2 rfl ?_
              refine z_iconst C dX2_hold_73 ?_
              refine z_iast C dX2_hold_74 (by decide) rfl (by omega) (by decide) (by decide) ?_
              refine z_mem (fun m7 em7 => ?_)
              refine z_iconst C dX2_hold_75 ?_
              refine z_istore C dX2_hold_76 (by decide) (L' := [(0, _), (1, _), (2, _), (3, _), (4, _)]) rfl ?_
              have LP78 : ∀ (N78 : Nat) (j : Int) (mc : zM), (0 ≤ j) → (j ≤ 5) → (zHi μ mc v i j) → (5 - j).toNat < N78 → zJ X 5 mc 78 [(0, .inr 18), (1, .inr t), (2, .inl i), (3, .inl r5), (4, .inl j)] [] := by
                intro N78
                induction N78 with
                | zero => intro j mc h78_0 h78_1 h78_2 hN; exact absurd hN (Nat.not_lt_zero _)
                | succ N78 ih78 =>
                  intro j mc h78_0 h78_1 h78_2 hN78
                  refine z_iload C dX2_hold_78 4 rfl ?_
                  refine z_iconst C dX2_hold_80 ?_
                  refine z_icmp_ge C dX2_hold_81 (tgt := 124) (by decide) (by omega) (by decide) (fun c8 => ?_) (fun c8 => ?_)
                  · refine z_iinc C dX2_hold_124 2 rfl (by decide) (L' := [(0, _), (1, _), (2, _), (3, _), (4, _)]) rfl ?_
                    refine z_goto C dX2_hold_127 (tgt := 15) (by decide) ?_
                    refine z_sub [0, 1, 2] rfl ?_; exact ih15 _ mc (by omega) (by omega) (zHi_next h78_2 (by omega) (by omega)) (by omega)
                  · refine z_aload_n C dX2_hold_84 0 rfl ?_
                    refine z_getR C ffX2_16 dX2_hold_85 (by decide) rfl rfl ?_
                    refine z_iload_n C dX2_hold_88 2 rfl ?_
                    refine z_aald C dX2_hold_89 (by decide) rfl (by omega) (by decide) ?_
                    refine z_iload C dX2_hold_90 4 rfl ?_
                    refine z_sipush C dX2_hold_92 (by decide) ?_
                    refine z_iast C dX2_hold_95 (by omega) (zd_row (by omega)) (by omega) (by decide) (by decide) ?_
                    refine z_mem (fun m9 em9 => ?_)
                    refine z_aload_n C dX2_hold_96 0 rfl ?_
                    refine z_getR C ffX2_11 dX2_hold_97 (by decide) rfl rfl ?_
                    refine z_iload_n C dX2_hold_100 2 rfl ?_
                    refine z_aald C dX2_hold_101 (by decide) rfl (by omega) (by decide) ?_
                    refine z_iload C dX2_hold_102 4 rfl ?_
                    refine z_iald C dX2_hold_104 (by omega) (zd_row (by omega)) (by omega) (by decide) (fun hr10 => ?_)
                    have hx : m9 (48 + i.toNat) j = sPar v i j := by rw [em9, zs_o _ _ (by omega)]; exact h78_2.2.1 j (by omega) (by omega)
                    rw [hx]
                    have hu := sPar_U ho (p := i) (k := j)
                    refine z_bipush C dX2_hold_105 (by decide) ?_
                    refine z_icmp_eq C dX2_hold_107 (tgt := 118) (by decide) (by omega) (by decide) (fun c11 => ?_) (fun c11 => ?_)
                    · skip
                      refine z_iinc C dX2_hold_118 4 rfl (by decide) (L' := [(0, _), (1, _), (2, _), (3, _), (4, _)]) rfl ?_
                      refine z_goto C dX2_hold_121 (tgt := 78) (by decide) ?_
                      exact ih78 _ m9 (by omega) (by omega) (zHi_alone h78_2 (by omega) (by omega) (by omega) em9) (by omega)
                    · have e21 : m9 21 i = sSlN v i j.toNat := by rw [em9, zs_o _ _ (by omega)]; exact h78_2.2.2.2
                      have e18 : m9 18 3 = sSh v i.toNat + sShN v i j.toNat := by rw [em9, zs_o _ _ (by omega)]; exact h78_2.1.2.2.1
                      have b1 := sSlN_b ho i j.toNat
                      have b2 := sSh_b v i.toNat
                      have b3 := sShN_b v i j.toNat
                      refine z_aload_n C dX2_hold_110 0 rfl ?_
                      refine z_aload_n C dX2_hold_111 1 rfl ?_
                      refine z_iload_n C dX2_hold_112 2 rfl ?_
                      refine z_iload C dX2_hold_113 4 rfl ?_
                      refine z_callVv C (c_X2_feelAndSay (zl X) m9 t ht v (zT_fr hv (fun a a0 a1 => by rw [em9, zs_ne _ _ _ (by omega)]; exact h78_2.1.1 a (by omega) (by omega) (by omega))) ho i j (sPar v i j) (by omega) (by omega) (fun k k0 k1 => by rw [em9, zs_o _ _ (by omega)]; exact h78_2.2.1 k k0 k1) rfl (by omega) (by omega) (by omega)) yyX2_feelAndSay mlX2_44 (zRc_of (i := 18) C (by decide) rfl rfl) dX2_hold_115 rfl rfl (Nat.le_of_ble_eq_true rfl) (by decide) (fun m12 hp12 => ?_)
                      obtain ⟨f1, f2, f3, f4, f5⟩ := hp12
                      refine z_iinc C dX2_hold_118 4 rfl (by decide) (L' := [(0, _), (1, _), (2, _), (3, _), (4, _)]) rfl ?_
                      refine z_goto C dX2_hold_121 (tgt := 78) (by decide) ?_
                      exact ih78 _ m12 (by omega) (by omega) (zHi_felt h78_2 (by omega) (by omega) (by omega) em9 f1 f2 f3 f4 f5) (by omega)
              exact LP78 _ _ m7 (by omega) (by omega) ⟨(by rw [em7, show sSh v i.toNat + sShN v i (0 : Int).toNat = sSh v i.toNat from Int.add_zero _]; exact zHd_slip h30_2 0), (fun k k0 k1 => by rw [em7, zs_o _ _ (by omega)]; exact h30_3 k k0 (by omega)), (fun k k0 k1 => by omega), (by rw [em7, zs_self]; rfl)⟩ (Nat.lt_succ_self _)
            · refine z_aload_n C dX2_hold_36 0 rfl ?_
              refine z_getR C ffX2_11 dX2_hold_37 (by decide) rfl rfl ?_
              refine z_iload_n C dX2_hold_40 2 rfl ?_
              refine z_aald C dX2_hold_41 (by decide) rfl (by omega) (by decide) ?_
              refine z_iload C dX2_hold_42 4 rfl ?_
              refine z_iload_n C dX2_hold_44 3 rfl ?_
              refine z_if_eq C dX2_hold_45 (tgt := 59) (by decide) (by omega) (fun c13 => ?_) (fun c13 => ?_)
              · refine z_bipush C dX2_hold_59 (by decide) ?_
                refine z_iast C dX2_hold_61 (by omega) (zd_row (by omega)) (by omega) (by decide) (by decide) ?_
                refine z_mem (fun m14 em14 => ?_)
                refine z_iinc C dX2_hold_62 4 rfl (by decide) (L' := [(0, _), (1, _), (2, _), (3, _), (4, _)]) rfl ?_
                refine z_goto C dX2_hold_65 (tgt := 30) (by decide) ?_
                exact ih30 _ m14 (by omega) (by omega) (by rw [em14]; exact zHd_row1 h30_2 (by omega) _ _) (by rw [em14]; exact zs_upto h30_3 (sPar_no (by omega)).symm) (by omega)
              · refine z_aload_n C dX2_hold_48 0 rfl ?_
                refine z_aload_n C dX2_hold_49 1 rfl ?_
                refine z_iload_n C dX2_hold_50 2 rfl ?_
                refine z_iload C dX2_hold_51 4 rfl ?_
                refine z_callVi C (c_X2_partner (zl X) mb t ht v (zT_fr hv (fun a a0 a1 => h30_2.1 a (by omega) (by omega) (by omega))) ho i j (by omega) (by omega) h30_2.2.1) yyX2_partner mlX2_40 (zRc_of (i := 18) C (by decide) rfl rfl) dX2_hold_53 rfl rfl (Nat.le_of_ble_eq_true rfl) (by decide) (fun r15 m15 hr15 hp15 => ?_)
                obtain ⟨rfl, hp15⟩ := hp15
                rw [hp15]
                refine z_goto C dX2_hold_56 (tgt := 61) (by decide) ?_
                refine z_iast C dX2_hold_61 (by omega) (zd_row (by omega)) (by omega) (by decide) (by omega) ?_
                refine z_mem (fun m16 em16 => ?_)
                refine z_iinc C dX2_hold_62 4 rfl (by decide) (L' := [(0, _), (1, _), (2, _), (3, _), (4, _)]) rfl ?_
                refine z_goto C dX2_hold_65 (tgt := 30) (by decide) ?_
                exact ih30 _ m16 (by omega) (by omega) (by rw [em16]; exact zHd_row1 h30_2 (by omega) _ _) (by rw [em16]; exact zs_upto h30_3 rfl) (by omega)
        exact LP30 _ _ ma (by omega) (by omega) h15_2 (fun k k0 k1 => by omega) (Nat.lt_succ_self _)
  exact LP15 _ _ m3 (by omega) (by omega) ⟨(fun a a1 a2 a3 => by rw [em3, zs_ne _ _ _ (by omega), em2, zs_ne _ _ _ (by omega)]), (by rw [em3, zs_o _ _ (by omega), em2, zs_self]), (by rw [em3, zs_self]; rfl), (fun p p0 p1 => by omega), (fun p k p0 p1 => by omega)⟩ (Nat.lt_succ_self _)
end
section
/-! contracts: Rounds, what is asked of the tables -/
set_option maxHeartbeats 4000000 in
theorem c_X2_gaps (l : Launch) (μ : zM) (v : zVw) (ho : vOK v) (hh : zH μ v) (p : Int) (hp : 0 ≤ p ∧ p < 10) : zMi l yX2_gaps cX2_gaps 4 (.int) 0 0 [.inr 18, .inl p] μ (fun (r : Int) (m : zM) => μ = m ∧ r = sGap v p) := by
  refine zMi_of (own := RX2) (by decide +kernel) rfl (Nat.le_of_ble_eq_true rfl) ?_
  intro X hX C hrm E
  subst hX
  show zJ X 4 μ 0 [(0, .inr 18), (1, .inl p)] []
  obtain ⟨hh1, hh2, hh3, hh4⟩ := id hh
  obtain ⟨n1, n2, n3, n4⟩ := vN_ok ho
  refine z_iconst C dX2_gaps_0 ?_
  refine z_istore_n C dX2_gaps_1 (by decide) (L' := [(0, _), (1, _), (2, _)]) rfl ?_
  refine z_iconst C dX2_gaps_2 ?_
  refine z_istore_n C dX2_gaps_3 (by decide) (L' := [(0, _), (1, _), (2, _), (3, _)]) rfl ?_
  have LP4 : ∀ (N4 : Nat) (n : Int) (j : Int), (0 ≤ j) → (j ≤ vN v) → (n = sGpN v p j.toNat) → (5 - j).toNat < N4 → zJ X 4 μ 4 [(0, .inr 18), (1, .inl p), (2, .inl n), (3, .inl j)] [] := by
    intro N4
    induction N4 with
    | zero => intro n j h4_0 h4_1 h4_2 hN; exact absurd hN (Nat.not_lt_zero _)
    | succ N4 ih4 =>
      intro n j h4_0 h4_1 h4_2 hN4
      refine z_iload_n C dX2_gaps_4 3 rfl ?_
      refine z_aload_n C dX2_gaps_5 0 rfl ?_
      refine z_getI C ffX2_27 dX2_gaps_6 (by decide) rfl rfl 4 rfl (fun hr1 => ?_)
      rw [hh1]
      refine z_icmp_ge C dX2_gaps_9 (tgt := 34) (by decide) (by omega) (by omega) (fun c2 => ?_) (fun c2 => ?_)
      · have hb := sGap_b ho p
        refine z_iload_n C dX2_gaps_34 2 rfl ?_
        exact E dX2_gaps_35 (by unfold sGap at hb; rw [show j = vN v by omega] at h4_2; omega) rfl ⟨rfl, (by rw [h4_2, show j = vN v by omega]; rfl)⟩
      · refine z_aload_n C dX2_gaps_12 0 rfl ?_
        refine z_getR C ffX2_11 dX2_gaps_13 (by decide) rfl rfl ?_
        refine z_iload_n C dX2_gaps_16 1 rfl ?_
        refine z_aald C dX2_gaps_17 (by decide) rfl (by omega) (by decide) ?_
        refine z_iload_n C dX2_gaps_18 3 rfl ?_
        refine z_iald C dX2_gaps_19 (by omega) (zd_row (by omega)) (by omega) (by decide) (fun hr3 => ?_)
        rw [(hh4 p j (by omega) (by omega) (by omega) (by omega)).1]
        have hu := sPar_U ho (p := p) (k := j)
        refine z_bipush C dX2_gaps_20 (by decide) ?_
        refine z_icmp_ne C dX2_gaps_22 (tgt := 28) (by decide) (by omega) (by decide) (fun c4 => ?_) (fun c4 => ?_)
        · refine z_iinc C dX2_gaps_28 3 rfl (by decide) (L' := [(0, _), (1, _), (2, _), (3, _)]) rfl ?_
          refine z_goto C dX2_gaps_31 (tgt := 4) (by decide) ?_
          exact ih4 _ _ (by omega) (by omega) (by rw [sGpN_s v p (by omega), h4_2]; rw [if_neg (by omega), Int.add_zero]) (by omega)
        · refine z_iinc C dX2_gaps_25 2 rfl (by decide) (L' := [(0, _), (1, _), (2, _), (3, _)]) rfl ?_
          refine z_iinc C dX2_gaps_28 3 rfl (by decide) (L' := [(0, _), (1, _), (2, _), (3, _)]) rfl ?_
          refine z_goto C dX2_gaps_31 (tgt := 4) (by decide) ?_
          exact ih4 _ _ (by omega) (by omega) (by rw [sGpN_s v p (by omega), h4_2]; rw [if_pos (by omega)]) (by omega)
  exact LP4 _ 0 0 (by omega) (by omega) rfl (Nat.lt_succ_self _)
set_option maxHeartbeats 4000000 in
theorem c_X2_allGaps (l : Launch) (μ : zM) (t : Nat) (ht : zTo t) (v : zVw) (hv : zT μ t v) (ho : vOK v) (hh : zH μ v) : zMi l yX2_allGaps cX2_allGaps 4 (.int) 2 41 [.inr 18, .inr t] μ (fun (r : Int) (m : zM) => μ = m ∧ r = sGaN v 10) := by
  refine zMi_of (own := RX2) (by decide +kernel) rfl (Nat.le_of_ble_eq_true rfl) ?_
  intro X hX C hrm E
  subst hX
  show zJ X 4 μ 0 [(0, .inr 18), (1, .inr t)] []
  obtain ⟨hv1, hv2, hv3, hv4, hv5, hv6, hv7⟩ := id hv
  obtain ⟨ho1, ho2, ho3, ho4, ho5, ho6, ho7⟩ := id ho
  obtain ⟨hh1, hh2, hh3, hh4⟩ := id hh
  obtain ⟨n1, n2, n3, n4⟩ := vN_ok ho
  refine z_iconst C dX2_allGaps_0 ?_
  refine z_istore_n C dX2_allGaps_1 (by decide) (L' := [(0, _), (1, _), (2, _)]) rfl ?_
  refine z_iconst C dX2_allGaps_2 ?_
  refine z_istore_n C dX2_allGaps_3 (by decide) (L' := [(0, _), (1, _), (2, _), (3, _)]) rfl ?_
  have LP4 : ∀ (N4 : Nat) (n : Int) (i : Int), (0 ≤ i) → (i ≤ 10) → (n = sGaN v i.toNat) → (10 - i).toNat < N4 → zJ X 4 μ 4 [(0, .inr 18), (1, .inr t), (2, .inl n), (3, .inl i)] [] := by
    intro N4
    induction N4 with
    | zero => intro n i h4_0 h4_1 h4_2 hN; exact absurd hN (Nat.not_lt_zero _)
    | succ N4 ih4 =>
      intro n i h4_0 h4_1 h4_2 hN4
      refine z_iload_n C dX2_allGaps_4 3 rfl ?_
      refine z_bipush C dX2_allGaps_5 (by decide) ?_
      refine z_icmp_ge C dX2_allGaps_7 (tgt := 32) (by decide) (by omega) (by decide) (fun c1 => ?_) (fun c1 => ?_)
      · have hb := sGaN_b ho i.toNat
        have e10 : i.toNat = 10 := by omega
        rw [e10] at h4_2 hb
        refine z_iload_n C dX2_allGaps_32 2 rfl ?_
        exact E dX2_allGaps_33 (by omega) rfl ⟨rfl, h4_2⟩
      · refine z_aload_n C dX2_allGaps_10 1 rfl ?_
        refine z_iload_n C dX2_allGaps_11 3 rfl ?_
        refine z_callVi C (c_X4_isThere (zl X) μ t ht v hv ho i (by omega)) yyX4_isThere mlX2_36 (zRc_of (i := t) C (by have := zto_lt ht; omega) (zd_to0 ht) rfl) dX2_allGaps_12 rfl rfl (Nat.le_of_ble_eq_true rfl) (by decide) (fun r2 m2 hr2 hp2 => ?_)
        obtain ⟨rfl, hp2⟩ := hp2
        rcases hp2 with ⟨rfl, hp2⟩ | ⟨rfl, hp2⟩
        · refine z_if_eq C dX2_allGaps_15 (tgt := 26) (by decide) (by decide) (fun c3 => (by exfalso; omega)) (fun _ => ?_)
          refine z_iload_n C dX2_allGaps_18 2 rfl ?_
          refine z_aload_n C dX2_allGaps_19 0 rfl ?_
          refine z_iload_n C dX2_allGaps_20 3 rfl ?_
          refine z_callVi C (c_X2_gaps (zl X) μ v ho hh i (by omega)) yyX2_gaps mlX2_91 (zRc_of (i := 18) C (by decide) rfl rfl) dX2_allGaps_21 rfl rfl (Nat.le_of_ble_eq_true rfl) (by decide) (fun r4 m4 hr4 hp4 => ?_)
          obtain ⟨rfl, hp4⟩ := hp4
          rw [hp4]
          refine z_iadd C dX2_allGaps_24 ?_
          refine z_istore_n C dX2_allGaps_25 (by decide) (L' := [(0, _), (1, _), (2, _), (3, _)]) rfl ?_
          refine z_iinc C dX2_allGaps_26 3 rfl (by decide) (L' := [(0, _), (1, _), (2, _), (3, _)]) rfl ?_
          refine z_goto C dX2_allGaps_29 (tgt := 4) (by decide) ?_
          exact ih4 _ _ (by omega) (by omega) (by rw [sGaN_s v (by omega), if_pos (by omega), h4_2]) (by omega)
        · refine z_if_eq C dX2_allGaps_15 (tgt := 26) (by decide) (by decide) (fun _ => ?_) (fun c5 => (by exfalso; omega))
          refine z_iinc C dX2_allGaps_26 3 rfl (by decide) (L' := [(0, _), (1, _), (2, _), (3, _)]) rfl ?_
          refine z_goto C dX2_allGaps_29 (tgt := 4) (by decide) ?_
          exact ih4 _ _ (by omega) (by omega) (by rw [sGaN_s v (by omega), if_neg (by omega), Int.add_zero, h4_2]) (by omega)
  exact LP4 _ 0 0 (by omega) (by omega) rfl (Nat.lt_succ_self _)
set_option maxHeartbeats 4000000 in
theorem c_X2_saysYes (l : Launch) (μ : zM) (x y : Int) (hx : 0 ≤ x ∧ x < 10) (hy : 0 ≤ y ∧ y < 10) (hs : 0 ≤ μ 21 x ∧ μ 21 x < 32) : zMi l yX2_saysYes cX2_saysYes 3 (.boolean) 1 20 [.inr 18, .inl x, .inl y] μ (fun (r : Int) (m : zM) => μ = m ∧ ((r = 1 ∧ (¬ zand (μ 21 x) (zbit y) = 0)) ∨ (r = 0 ∧ ¬ (¬ zand (μ 21 x) (zbit y) = 0)))) := by
  refine zMi_of (own := RX2) (by decide +kernel) rfl (Nat.le_of_ble_eq_true rfl) ?_
  intro X hX C hrm E
  subst hX
  show zJ X 3 μ 0 [(0, .inr 18), (1, .inl x), (2, .inl y)] []
  have hzb := zand_b (μ 21 x) hs.1 hs.2 y hy.1 hy.2
  refine z_aload_n C dX2_saysYes_0 0 rfl ?_
  refine z_getR C ffX2_19 dX2_saysYes_1 (by decide) rfl rfl ?_
  refine z_iload_n C dX2_saysYes_4 1 rfl ?_
  refine z_iald C dX2_saysYes_5 (by decide) rfl (by omega) (by decide) (fun hr1 => ?_)
  refine z_iload_n C dX2_saysYes_6 2 rfl ?_
  refine z_callNi C (c_X5_bitOf (zl X) μ y (by omega)) yyX5_bitOf (by decide +kernel) dX2_saysYes_7 rfl rfl (Nat.le_of_ble_eq_true rfl) (by decide) (fun r2 m2 hr2 hp2 => ?_)
  obtain ⟨rfl, hp2⟩ := hp2
  rw [hp2]
  refine z_iand C dX2_saysYes_10 ?_
  refine z_if_eq C dX2_saysYes_11 (tgt := 18) (by decide) (by omega) (fun c3 => ?_) (fun c3 => ?_)
  · refine z_iconst C dX2_saysYes_18 ?_
    exact E dX2_saysYes_19 (by decide) (z_nb (Or.inl rfl)) ⟨rfl, Or.inr ⟨rfl, by omega⟩⟩
  · refine z_iconst C dX2_saysYes_14 ?_
    refine z_goto C dX2_saysYes_15 (tgt := 19) (by decide) ?_
    exact E dX2_saysYes_19 (by decide) (z_nb (Or.inr rfl)) ⟨rfl, Or.inl ⟨rfl, by omega⟩⟩
set_option maxHeartbeats 4000000 in
theorem c_X2_slipsFor (l : Launch) (μ : zM) (v : zVw) (ho : vOK v) (hh : zH μ v) (p : Int) (hp : 0 ≤ p ∧ p < 10) : zMi l yX2_slipsFor cX2_slipsFor 5 (.int) 2 42 [.inr 18, .inl p] μ (fun (r : Int) (m : zM) => μ = m ∧ r = sToN v p 5) := by
  refine zMi_of (own := RX2) (by decide +kernel) rfl (Nat.le_of_ble_eq_true rfl) ?_
  intro X hX C hrm E
  subst hX
  show zJ X 5 μ 0 [(0, .inr 18), (1, .inl p)] []
  obtain ⟨hh1, hh2, hh3, hh4⟩ := id hh
  obtain ⟨n1, n2, n3, n4⟩ := vN_ok ho
  refine z_iconst C dX2_slipsFor_0 ?_
  refine z_istore_n C dX2_slipsFor_1 (by decide) (L' := [(0, _), (1, _), (2, _)]) rfl ?_
  refine z_iconst C dX2_slipsFor_2 ?_
  refine z_istore_n C dX2_slipsFor_3 (by decide) (L' := [(0, _), (1, _), (2, _), (3, _)]) rfl ?_
  have LP4 : ∀ (N4 : Nat) (n : Int) (i : Int), (0 ≤ i) → (i ≤ 5) → (n = sToN v p i.toNat) → (5 - i).toNat < N4 → zJ X 5 μ 4 [(0, .inr 18), (1, .inl p), (2, .inl n), (3, .inl i)] [] := by
    intro N4
    induction N4 with
    | zero => intro n i h4_0 h4_1 h4_2 hN; exact absurd hN (Nat.not_lt_zero _)
    | succ N4 ih4 =>
      intro n i h4_0 h4_1 h4_2 hN4
      refine z_iload_n C dX2_slipsFor_4 3 rfl ?_
      refine z_iconst C dX2_slipsFor_5 ?_
      refine z_icmp_ge C dX2_slipsFor_6 (tgt := 41) (by decide) (by omega) (by decide) (fun c1 => ?_) (fun c1 => ?_)
      · have hb := sToN_b v p i.toNat (by omega)
        have e5 : i.toNat = 5 := by omega
        rw [e5] at h4_2 hb
        refine z_iload_n C dX2_slipsFor_41 2 rfl ?_
        exact E dX2_slipsFor_42 (by omega) rfl ⟨rfl, h4_2⟩
      · refine z_iload_n C dX2_slipsFor_9 1 rfl ?_
        refine z_callNi C (c_X5_otherStart (zl X) μ p (by omega)) yyX5_otherStart (by decide +kernel) dX2_slipsFor_10 rfl rfl (Nat.le_of_ble_eq_true rfl) (by decide) (fun r2 m2 hr2 hp2 => ?_)
        obtain ⟨rfl, hp2⟩ := hp2
        rcases hp2 with ⟨hp2, rfl⟩ | ⟨hp2, rfl⟩
        · refine z_iload_n C dX2_slipsFor_13 3 rfl ?_
          refine z_iadd C dX2_slipsFor_14 ?_
          have eo : (5 + i) = sOth p i := by unfold sOth; split <;> omega
          rw [eo]
          have ob : 0 ≤ sOth p i ∧ sOth p i < 10 := by omega
          have hsl := hh3 (sOth p i) ob.1 ob.2
          have hsb := sSlN_b ho (sOth p i) 5
          refine z_istore C dX2_slipsFor_15 (by decide) (L' := [(0, _), (1, _), (2, _), (3, _), (4, _)]) rfl ?_
          refine z_aload_n C dX2_slipsFor_17 0 rfl ?_
          refine z_iload C dX2_slipsFor_18 4 rfl ?_
          refine z_iload_n C dX2_slipsFor_20 1 rfl ?_
          refine z_callVi C (c_X2_saysYes (zl X) μ (sOth p i) p (by omega) (by omega) (by rw [hsl]; exact hsb)) yyX2_saysYes mlX2_94 (zRc_of (i := 18) C (by decide) rfl rfl) dX2_slipsFor_21 rfl rfl (Nat.le_of_ble_eq_true rfl) (by decide) (fun r3 m3 hr3 hp3 => ?_)
          obtain ⟨rfl, hp3⟩ := hp3
          rcases hp3 with ⟨rfl, hp3⟩ | ⟨rfl, hp3⟩
          · have eqs_ := hp3
            rw [hsl] at eqs_
            refine z_if_eq C dX2_slipsFor_24 (tgt := 35) (by decide) (by decide) (fun c4 => (by exfalso; omega)) (fun _ => ?_)
            refine z_iload_n C dX2_slipsFor_27 2 rfl ?_
            refine z_iload C dX2_slipsFor_28 4 rfl ?_
            refine z_callNi C (c_X5_bitOf (zl X) μ (sOth p i) (by omega)) yyX5_bitOf (by decide +kernel) dX2_slipsFor_30 rfl rfl (Nat.le_of_ble_eq_true rfl) (by decide) (fun r5 m5 hr5 hp5 => ?_)
            obtain ⟨rfl, hp5⟩ := hp5
            rw [hp5]
            refine z_ior C dX2_slipsFor_33 ?_
            refine z_istore_n C dX2_slipsFor_34 (by decide) (L' := [(0, _), (1, _), (2, _), (3, _), (4, _)]) rfl ?_
            refine z_iinc C dX2_slipsFor_35 3 rfl (by decide) (L' := [(0, _), (1, _), (2, _), (3, _), (4, _)]) rfl ?_
            refine z_goto C dX2_slipsFor_38 (tgt := 4) (by decide) ?_
            refine z_sub [0, 1, 2, 3] rfl ?_; exact ih4 _ _ (by omega) (by omega) (by rw [sToN_s v p (by omega), if_pos eqs_, h4_2]) (by omega)
          · have eqs_ := hp3
            rw [hsl] at eqs_
            refine z_if_eq C dX2_slipsFor_24 (tgt := 35) (by decide) (by decide) (fun _ => ?_) (fun c6 => (by exfalso; omega))
            refine z_iinc C dX2_slipsFor_35 3 rfl (by decide) (L' := [(0, _), (1, _), (2, _), (3, _), (4, _)]) rfl ?_
            refine z_goto C dX2_slipsFor_38 (tgt := 4) (by decide) ?_
            refine z_sub [0, 1, 2, 3] rfl ?_; exact ih4 _ _ (by omega) (by omega) (by rw [sToN_s v p (by omega), if_neg eqs_, h4_2]) (by omega)
        · refine z_iload_n C dX2_slipsFor_13 3 rfl ?_
          refine z_iadd C dX2_slipsFor_14 ?_
          have eo : (0 + i) = sOth p i := by unfold sOth; split <;> omega
          rw [eo]
          have ob : 0 ≤ sOth p i ∧ sOth p i < 10 := by omega
          have hsl := hh3 (sOth p i) ob.1 ob.2
          have hsb := sSlN_b ho (sOth p i) 5
          refine z_istore C dX2_slipsFor_15 (by decide) (L' := [(0, _), (1, _), (2, _), (3, _), (4, _)]) rfl ?_
          refine z_aload_n C dX2_slipsFor_17 0 rfl ?_
          refine z_iload C dX2_slipsFor_18 4 rfl ?_
          refine z_iload_n C dX2_slipsFor_20 1 rfl ?_
          refine z_callVi C (c_X2_saysYes (zl X) μ (sOth p i) p (by omega) (by omega) (by rw [hsl]; exact hsb)) yyX2_saysYes mlX2_94 (zRc_of (i := 18) C (by decide) rfl rfl) dX2_slipsFor_21 rfl rfl (Nat.le_of_ble_eq_true rfl) (by decide) (fun r7 m7 hr7 hp7 => ?_)
          obtain ⟨rfl, hp7⟩ := hp7
          rcases hp7 with ⟨rfl, hp7⟩ | ⟨rfl, hp7⟩
          · have eqs_ := hp7
            rw [hsl] at eqs_
            refine z_if_eq C dX2_slipsFor_24 (tgt := 35) (by decide) (by decide) (fun c8 => (by exfalso; omega)) (fun _ => ?_)
            refine z_iload_n C dX2_slipsFor_27 2 rfl ?_
            refine z_iload C dX2_slipsFor_28 4 rfl ?_
            refine z_callNi C (c_X5_bitOf (zl X) μ (sOth p i) (by omega)) yyX5_bitOf (by decide +kernel) dX2_slipsFor_30 rfl rfl (Nat.le_of_ble_eq_true rfl) (by decide) (fun r9 m9 hr9 hp9 => ?_)
            obtain ⟨rfl, hp9⟩ := hp9
            rw [hp9]
            refine z_ior C dX2_slipsFor_33 ?_
            refine z_istore_n C dX2_slipsFor_34 (by decide) (L' := [(0, _), (1, _), (2, _), (3, _), (4, _)]) rfl ?_
            refine z_iinc C dX2_slipsFor_35 3 rfl (by decide) (L' := [(0, _), (1, _), (2, _), (3, _), (4, _)]) rfl ?_
            refine z_goto C dX2_slipsFor_38 (tgt := 4) (by decide) ?_
            refine z_sub [0, 1, 2, 3] rfl ?_; exact ih4 _ _ (by omega) (by omega) (by rw [sToN_s v p (by omega), if_pos eqs_, h4_2]) (by omega)
          · have eqs_ := hp7
            rw [hsl] at eqs_
            refine z_if_eq C dX2_slipsFor_24 (tgt := 35) (by decide) (by decide) (fun _ => ?_) (fun c10 => (by exfalso; omega))
            refine z_iinc C dX2_slipsFor_35 3 rfl (by decide) (L' := [(0, _), (1, _), (2, _), (3, _), (4, _)]) rfl ?_
            refine z_goto C dX2_slipsFor_38 (tgt := 4) (by decide) ?_
            refine z_sub [0, 1, 2, 3] rfl ?_; exact ih4 _ _ (by omega) (by omega) (by rw [sToN_s v p (by omega), if_neg eqs_, h4_2]) (by omega)
  exact LP4 _ 0 0 (by omega) (by omega) rfl (Nat.lt_succ_self _)
set_option maxHeartbeats 4000000 in
theorem c_X2_letAllMeetAll (l : Launch) (μ : zM) (t : Nat) (ht : zTo t) (v : zVw) (hv : zT μ t v) (ho : vOK v) (hh : zH μ v) : zMi l yX2_letAllMeetAll cX2_letAllMeetAll 7 (.boolean) 1 20 [.inr 18, .inr t] μ (fun (r : Int) (m : zM) => μ = m ∧ ((r = 1 ∧ (sAll v)) ∨ (r = 0 ∧ ¬ (sAll v)))) := by
  refine zMi_of (own := RX2) (by decide +kernel) rfl (Nat.le_of_ble_eq_true rfl) ?_
  intro X hX C hrm E
  subst hX
  show zJ X 7 μ 0 [(0, .inr 18), (1, .inr t)] []
  obtain ⟨hv1, hv2, hv3, hv4, hv5, hv6, hv7⟩ := id hv
  obtain ⟨ho1, ho2, ho3, ho4, ho5, ho6, ho7⟩ := id ho
  obtain ⟨hh1, hh2, hh3, hh4⟩ := id hh
  obtain ⟨n1, n2, n3, n4⟩ := vN_ok ho
  have hsb := zshl_b (vR v) (by omega) (by omega)
  refine z_iconst C dX2_letAllMeetAll_0 ?_
  refine z_aload_n C dX2_letAllMeetAll_1 1 rfl ?_
  refine z_getR C ffX2_97 dX2_letAllMeetAll_2 (by have := zto_lt ht; omega) (zd_to0 ht) rfl ?_
  refine z_iconst C dX2_letAllMeetAll_5 ?_
  refine z_iald C dX2_letAllMeetAll_6 (by have := zto_lt ht; omega) (zd_to1 ht) (by decide) (by decide) (fun hr1 => ?_)
  rw [hv2]
  refine z_ishl C dX2_letAllMeetAll_7 ?_
  refine z_iconst C dX2_letAllMeetAll_8 ?_
  refine z_isub C dX2_letAllMeetAll_9 ?_
  refine z_istore_n C dX2_letAllMeetAll_10 (by decide) (L' := [(0, _), (1, _), (2, _)]) rfl ?_
  refine z_iconst C dX2_letAllMeetAll_11 ?_
  refine z_istore_n C dX2_letAllMeetAll_12 (by decide) (L' := [(0, _), (1, _), (2, _), (3, _)]) rfl ?_
  have LP13 : ∀ (N13 : Nat) (i : Int), (0 ≤ i) → (i ≤ vL v) → (∀ l, 0 ≤ l → l < i → sMmN v l (vN v).toNat = zshl 1 (vR v) - 1) → (5 - i).toNat < N13 → zJ X 7 μ 13 [(0, .inr 18), (1, .inr t), (2, .inl ((zshl 1 (vR v)) - 1)), (3, .inl i)] [] := by
    intro N13
    induction N13 with
    | zero => intro i h13_0 h13_1 h13_2 hN; exact absurd hN (Nat.not_lt_zero _)
    | succ N13 ih13 =>
      intro i h13_0 h13_1 h13_2 hN13
      refine z_iload_n C dX2_letAllMeetAll_13 3 rfl ?_
      refine z_aload_n C dX2_letAllMeetAll_14 1 rfl ?_
      refine z_getR C ffX2_97 dX2_letAllMeetAll_15 (by have := zto_lt ht; omega) (zd_to0 ht) rfl ?_
      refine z_iconst C dX2_letAllMeetAll_18 ?_
      refine z_iald C dX2_letAllMeetAll_19 (by have := zto_lt ht; omega) (zd_to1 ht) (by decide) (by decide) (fun hr2 => ?_)
      rw [hv1]
      refine z_icmp_ge C dX2_letAllMeetAll_20 (tgt := 90) (by decide) (by omega) (by omega) (fun c3 => ?_) (fun c3 => ?_)
      · refine z_iconst C dX2_letAllMeetAll_90 ?_
        exact E dX2_letAllMeetAll_91 (by decide) (z_nb (Or.inr rfl)) ⟨rfl, Or.inl ⟨rfl, (fun l l0 l1 => h13_2 l l0 (by omega))⟩⟩
      · refine z_iconst C dX2_letAllMeetAll_23 ?_
        refine z_istore C dX2_letAllMeetAll_24 (by decide) (L' := [(0, _), (1, _), (2, _), (3, _), (4, _)]) rfl ?_
        refine z_iconst C dX2_letAllMeetAll_26 ?_
        refine z_istore C dX2_letAllMeetAll_27 (by decide) (L' := [(0, _), (1, _), (2, _), (3, _), (4, _), (5, _)]) rfl ?_
        have LP29 : ∀ (N29 : Nat) (n : Int) (j : Int), (0 ≤ j) → (j ≤ vN v) → (n = sMmN v i j.toNat) → (5 - j).toNat < N29 → zJ X 7 μ 29 [(0, .inr 18), (1, .inr t), (2, .inl ((zshl 1 (vR v)) - 1)), (3, .inl i), (4, .inl n), (5, .inl j)] [] := by
          intro N29
          induction N29 with
          | zero => intro n j h29_0 h29_1 h29_2 hN; exact absurd hN (Nat.not_lt_zero _)
          | succ N29 ih29 =>
            intro n j h29_0 h29_1 h29_2 hN29
            refine z_iload C dX2_letAllMeetAll_29 5 rfl ?_
            refine z_aload_n C dX2_letAllMeetAll_31 0 rfl ?_
            refine z_getI C ffX2_27 dX2_letAllMeetAll_32 (by decide) rfl rfl 4 rfl (fun hr4 => ?_)
            rw [hh1]
            refine z_icmp_ge C dX2_letAllMeetAll_35 (tgt := 76) (by decide) (by omega) (by omega) (fun c5 => ?_) (fun c5 => ?_)
            · have hmb := sMmN_b ho i j.toNat
              rw [show j = vN v by omega] at h29_2 hmb
              refine z_iload C dX2_letAllMeetAll_76 4 rfl ?_
              refine z_iload_n C dX2_letAllMeetAll_78 2 rfl ?_
              refine z_icmp_eq C dX2_letAllMeetAll_79 (tgt := 84) (by decide) (by omega) (by omega) (fun c6 => ?_) (fun c6 => ?_)
              · have hm : sMmN v i (vN v).toNat = zshl 1 (vR v) - 1 := by omega
                refine z_iinc C dX2_letAllMeetAll_84 3 rfl (by decide) (L' := [(0, _), (1, _), (2, _), (3, _), (4, _), (5, _)]) rfl ?_
                refine z_goto C dX2_letAllMeetAll_87 (tgt := 13) (by decide) ?_
                refine z_sub [0, 1, 2, 3] rfl ?_; exact ih13 _ (by omega) (by omega) (fun l l0 l1 => by by_cases q : l = i; (rw [q]; exact hm); exact h13_2 l l0 (by omega)) (by omega)
              · refine z_iconst C dX2_letAllMeetAll_82 ?_
                exact E dX2_letAllMeetAll_83 (by decide) (z_nb (Or.inl rfl)) ⟨rfl, Or.inr ⟨rfl, (fun hq => by have := hq i (by omega) (by omega); omega)⟩⟩
            · refine z_aload_n C dX2_letAllMeetAll_38 0 rfl ?_
              refine z_getR C ffX2_11 dX2_letAllMeetAll_39 (by decide) rfl rfl ?_
              refine z_iload_n C dX2_letAllMeetAll_42 3 rfl ?_
              refine z_aald C dX2_letAllMeetAll_43 (by decide) rfl (by omega) (by decide) ?_
              refine z_iload C dX2_letAllMeetAll_44 5 rfl ?_
              refine z_iald C dX2_letAllMeetAll_46 (by omega) (zd_row (by omega)) (by omega) (by decide) (fun hr7 => ?_)
              rw [(hh4 i j (by omega) (by omega) (by omega) (by omega)).1]
              have hu := sPar_U ho (p := i) (k := j)
              refine z_istore C dX2_letAllMeetAll_47 (by decide) (L' := [(0, _), (1, _), (2, _), (3, _), (4, _), (5, _), (6, _)]) rfl ?_
              refine z_iload C dX2_letAllMeetAll_49 4 rfl ?_
              refine z_iload C dX2_letAllMeetAll_51 6 rfl ?_
              refine z_bipush C dX2_letAllMeetAll_53 (by decide) ?_
              refine z_icmp_ne C dX2_letAllMeetAll_55 (tgt := 62) (by decide) (by omega) (by decide) (fun c8 => ?_) (fun c8 => ?_)
              · refine z_iload C dX2_letAllMeetAll_62 6 rfl ?_
                refine z_callNi C (c_X5_bitOf (zl X) μ (sPar v i j) (by omega)) yyX5_bitOf (by decide +kernel) dX2_letAllMeetAll_64 rfl rfl (Nat.le_of_ble_eq_true rfl) (by decide) (fun r9 m9 hr9 hp9 => ?_)
                obtain ⟨rfl, hp9⟩ := hp9
                rw [hp9]
                refine z_ior C dX2_letAllMeetAll_67 ?_
                refine z_istore C dX2_letAllMeetAll_68 (by decide) (L' := [(0, _), (1, _), (2, _), (3, _), (4, _), (5, _), (6, _)]) rfl ?_
                refine z_iinc C dX2_letAllMeetAll_70 5 rfl (by decide) (L' := [(0, _), (1, _), (2, _), (3, _), (4, _), (5, _), (6, _)]) rfl ?_
                refine z_goto C dX2_letAllMeetAll_73 (tgt := 29) (by decide) ?_
                refine z_sub [0, 1, 2, 3, 4, 5] rfl ?_; exact ih29 _ _ (by omega) (by omega) (by rw [sMmN_s v i (by omega), if_neg (by omega), h29_2]) (by omega)
              · refine z_iconst C dX2_letAllMeetAll_58 ?_
                refine z_goto C dX2_letAllMeetAll_59 (tgt := 67) (by decide) ?_
                refine z_ior C dX2_letAllMeetAll_67 ?_
                have hmb := sMmN_b ho i j.toNat
                rw [zor_0 (by omega)]
                refine z_istore C dX2_letAllMeetAll_68 (by decide) (L' := [(0, _), (1, _), (2, _), (3, _), (4, _), (5, _), (6, _)]) rfl ?_
                refine z_iinc C dX2_letAllMeetAll_70 5 rfl (by decide) (L' := [(0, _), (1, _), (2, _), (3, _), (4, _), (5, _), (6, _)]) rfl ?_
                refine z_goto C dX2_letAllMeetAll_73 (tgt := 29) (by decide) ?_
                refine z_sub [0, 1, 2, 3, 4, 5] rfl ?_; exact ih29 _ _ (by omega) (by omega) (by rw [sMmN_s v i (by omega), if_pos (by omega), h29_2]) (by omega)
        exact LP29 _ 0 0 (by omega) (by omega) rfl (Nat.lt_succ_self _)
  exact LP13 _ 0 (by omega) (by omega) (fun l l0 l1 => by omega) (Nat.lt_succ_self _)
end
section
/-! pairs: whom one likes most, who asks whom, as functions of what is told -/
theorem z_iushr {X : zX} {nL : Nat} {cc : ByteArray} {own : String} {Ts : List Cond} {f nw : Nat} {μ : zM} {pc : Nat} {L : List (Nat × zV)} {st : List zV} (C : zC X nL cc own Ts f nw) {a b : Int} (d : decode cc pc = .ok (.iushr, 1)) (K : zJ X nL μ (pc + 1) L (.inl (zushr a b) :: st)) : zJ X nL μ pc L (.inl b :: .inl a :: st) := by
  obtain ⟨p, l, e, R, s, m, args, below, meth, c, Q, A, G, cells, slots⟩ := X
  obtain ⟨hx, hb, -⟩ := C
  intro hr H locs ls hP hS hl
  refine lv_iushr (x := iI a) (y := iI b) hx hb d rfl ?_
  rw [← iI_of (((iI a).toUInt32 >>> ((iI b).toUInt32 &&& Int32.toUInt32 31)).toInt32)]
  exact K hr H locs ls hP hS hl
theorem zand_R (a b : Int) : zR (zand a b) := zR_toInt _
def sPop (s : Int) : Int := s % 2 + s / 2 % 2 + s / 4 % 2 + s / 8 % 2 + s / 16 % 2
def sB1 (x : Int) : Int := x - zand (zushr x 1) 1431655765
def sB2 (x : Int) : Int := zand x 858993459 + zand (zushr x 2) 858993459
def sB3 (x : Int) : Int := zand (x + zushr x 4) 252645135
def sB4 (x : Int) : Int := x + zushr x 8
def sB5 (x : Int) : Int := x + zushr x 16
theorem bc_val : ∀ x : Int, 0 ≤ x → x < 32 → zand (sB5 (sB4 (sB3 (sB2 (sB1 x))))) 63 = sPop x := by
  have key : ((List.range 32).all fun i => decide (zand (sB5 (sB4 (sB3 (sB2 (sB1 (i : Int)))))) 63 = sPop (i : Int))) = true := by decide +kernel
  intro x h1 h2
  have h := List.all_eq_true.mp key x.toNat (List.mem_range.mpr (by omega))
  rw [Int.toNat_of_nonneg h1] at h
  exact of_decide_eq_true h
/-- whom of the set s one likes most (0 .. 9; -9 nobody) -/
def sFavN (v : zVw) (p s : Int) : Nat → Int
  | 0 => -9
  | i + 1 => if (¬ zand s (zbit (sOth p (i : Int))) = 0) ∧ (sFavN v p s i = -9 ∨ vA v p (sFavN v p s i) < vA v p (sOth p (i : Int))) then sOth p (i : Int) else sFavN v p s i
def sFav (v : zVw) (p s : Int) : Int := sFavN v p s 5
theorem sFavN_s (v : zVw) (p s : Int) {j : Int} (h : 0 ≤ j) : sFavN v p s (j + 1).toNat = if (¬ zand s (zbit (sOth p j)) = 0) ∧ (sFavN v p s j.toNat = -9 ∨ vA v p (sFavN v p s j.toNat) < vA v p (sOth p j)) then sOth p j else sFavN v p s j.toNat := by
  rw [show (j + 1).toNat = j.toNat + 1 by omega, sFavN, Int.toNat_of_nonneg h]
theorem sFavN_U (v : zVw) {p : Int} (s : Int) (hp : 0 ≤ p ∧ p < 10) : ∀ i : Nat, i ≤ 5 → sFavN v p s i = -9 ∨ (zU p (sFavN v p s i) ∧ ¬ zand s (zbit (sFavN v p s i)) = 0)
  | 0, _ => Or.inl rfl
  | i + 1, hi => by
    have h := sFavN_U v s hp i (by omega)
    rw [sFavN]
    by_cases q : (¬ zand s (zbit (sOth p (i : Int))) = 0) ∧ (sFavN v p s i = -9 ∨ vA v p (sFavN v p s i) < vA v p (sOth p (i : Int)))
    · rw [if_pos q]
      refine Or.inr ⟨?_, q.1⟩
      unfold sOth
      split <;> omega
    · rw [if_neg q]; exact h
theorem sFav_U (v : zVw) {p : Int} (s : Int) (hp : 0 ≤ p ∧ p < 10) : sFav v p s = -9 ∨ (zU p (sFav v p s) ∧ ¬ zand s (zbit (sFav v p s)) = 0) := sFavN_U v s hp 5 (by omega)
abbrev sBef (v : zVw) (q a b : Int) : Prop := vA v q b < vA v q a ∨ (vA v q a = vA v q b ∧ a < b)
theorem zdel_b : ∀ s : Int, 0 ≤ s → s < 32 → ∀ p : Int, 0 ≤ p → p < 10 → 0 ≤ zand s (zxor (zbit p) (-1)) ∧ zand s (zxor (zbit p) (-1)) < 32 := by
  have key : ((List.range 32).all fun i => (List.range 10).all fun j => decide (0 ≤ zand (i : Int) (zxor (zbit (j : Int)) (-1)) ∧ zand (i : Int) (zxor (zbit (j : Int)) (-1)) < 32)) = true := by decide +kernel
  intro s h1 h2 p h3 h4
  have h5 := List.all_eq_true.mp key s.toNat (List.mem_range.mpr (by omega))
  have h6 := List.all_eq_true.mp h5 p.toNat (List.mem_range.mpr (by omega))
  rw [Int.toNat_of_nonneg h1, Int.toNat_of_nonneg h3] at h6
  exact of_decide_eq_true h6
theorem zandn_b : ∀ s : Int, 0 ≤ s → s < 32 → ∀ c : Int, 0 ≤ c → c < 32 → 0 ≤ zand s (zxor c (-1)) ∧ zand s (zxor c (-1)) < 32 := by
  have key : ((List.range 32).all fun i => (List.range 32).all fun j => decide (0 ≤ zand (i : Int) (zxor (j : Int) (-1)) ∧ zand (i : Int) (zxor (j : Int) (-1)) < 32)) = true := by decide +kernel
  intro s h1 h2 p h3 h4
  have h5 := List.all_eq_true.mp key s.toNat (List.mem_range.mpr (by omega))
  have h6 := List.all_eq_true.mp h5 p.toNat (List.mem_range.mpr (by omega))
  rw [Int.toNat_of_nonneg h1, Int.toNat_of_nonneg h3] at h6
  exact of_decide_eq_true h6
/-- the m whom one likes most of the set s -/
def sLkN (v : zVw) (p s : Int) : Nat → Int
  | 0 => 0
  | i + 1 => if sFav v p (zand s (zxor (sLkN v p s i) (-1))) = -9 then sLkN v p s i else zor (sLkN v p s i) (zbit (sFav v p (zand s (zxor (sLkN v p s i) (-1)))))
theorem sLkN_s (v : zVw) (p s : Int) {j : Int} (h : 0 ≤ j) : sLkN v p s (j + 1).toNat = if sFav v p (zand s (zxor (sLkN v p s j.toNat) (-1))) = -9 then sLkN v p s j.toNat else zor (sLkN v p s j.toNat) (zbit (sFav v p (zand s (zxor (sLkN v p s j.toNat) (-1))))) := by
  rw [show (j + 1).toNat = j.toNat + 1 by omega, sLkN]
theorem sLkN_b (v : zVw) {p : Int} (s : Int) (hp : 0 ≤ p ∧ p < 10) : ∀ i : Nat, 0 ≤ sLkN v p s i ∧ sLkN v p s i < 32
  | 0 => by show (0 : Int) ≤ 0 ∧ (0 : Int) < 32; omega
  | i + 1 => by
    have h := sLkN_b v s hp i
    rw [sLkN]
    by_cases q : sFav v p (zand s (zxor (sLkN v p s i) (-1))) = -9
    · rw [if_pos q]; exact h
    · rw [if_neg q]
      have hu := sFav_U v (zand s (zxor (sLkN v p s i) (-1))) hp
      exact zor_bit _ h.1 h.2 _ (by omega) (by omega)
/-- asking: whom each has, whom each may still ask -/
abbrev zAS : Type := (Int → Int) × (Int → Int)
def zAs (m : zM) (σ : zAS) : Prop := ∀ p, 0 ≤ p → p < 10 → m 24 p = σ.1 p ∧ m 26 p = σ.2 p
def zAb (σ : zAS) : Prop := ∀ p, 0 ≤ p → p < 10 → (σ.1 p = -9 ∨ zU p (σ.1 p)) ∧ (0 ≤ σ.2 p ∧ σ.2 p < 32)
def sFstF (σ : zAS) : Nat → Int → Int
  | 0, _ => -9
  | f + 1, p => if σ.1 p = -9 ∧ ¬ σ.2 p = 0 then p else sFstF σ f (p + 1)
def sFst (σ : zAS) : Int := sFstF σ 10 0
theorem sFstF_s (σ : zAS) {i : Int} (h : 0 ≤ i ∧ i < 10) : sFstF σ (10 - i).toNat i = if σ.1 i = -9 ∧ ¬ σ.2 i = 0 then i else sFstF σ (10 - (i + 1)).toNat (i + 1) := by
  rw [show (10 - i).toNat = (10 - (i + 1)).toNat + 1 by omega, sFstF]
theorem sFstF_U (σ : zAS) : ∀ (f : Nat) (p : Int), 0 ≤ p → p + (f : Int) ≤ 10 → sFstF σ f p = -9 ∨ (p ≤ sFstF σ f p ∧ sFstF σ f p < 10 ∧ σ.1 (sFstF σ f p) = -9 ∧ ¬ σ.2 (sFstF σ f p) = 0)
  | 0, p, _, _ => Or.inl rfl
  | f + 1, p, h0, h1 => by
    rw [sFstF]
    by_cases q : σ.1 p = -9 ∧ ¬ σ.2 p = 0
    · rw [if_pos q]; exact Or.inr ⟨by omega, by omega, q.1, q.2⟩
    · rw [if_neg q]
      rcases sFstF_U σ f (p + 1) (by omega) (by omega) with z | ⟨z1, z2, z3, z4⟩
      · exact Or.inl z
      · exact Or.inr ⟨by omega, z2, z3, z4⟩
theorem sFst_U (σ : zAS) : sFst σ = -9 ∨ (0 ≤ sFst σ ∧ sFst σ < 10 ∧ σ.1 (sFst σ) = -9 ∧ ¬ σ.2 (sFst σ) = 0) := sFstF_U σ 10 0 (by omega) (by omega)
def sStp (v : zVw) (σ : zAS) (a : Int) : zAS :=
  if sFav v a (σ.2 a) = -9 then σ
  else if (¬ σ.1 (sFav v a (σ.2 a)) = -9) ∧ ¬ sBef v (sFav v a (σ.2 a)) a (σ.1 (sFav v a (σ.2 a))) then (σ.1, fun x => if x = a then zand (σ.2 a) (zxor (zbit (sFav v a (σ.2 a))) (-1)) else σ.2 x)
  else (fun x => if x = a then sFav v a (σ.2 a) else if x = sFav v a (σ.2 a) then a else if x = σ.1 (sFav v a (σ.2 a)) then -9 else σ.1 x, fun x => if x = a then zand (σ.2 a) (zxor (zbit (sFav v a (σ.2 a))) (-1)) else σ.2 x)
theorem sStp_b {v : zVw} {σ : zAS} {a : Int} (h : zAb σ) (ha : 0 ≤ a ∧ a < 10) : zAb (sStp v σ a) := by
  have hu := sFav_U v (σ.2 a) ha
  have h2 := (h a ha.1 ha.2).2
  unfold sStp
  by_cases q : sFav v a (σ.2 a) = -9
  · rw [if_pos q]; exact h
  · rw [if_neg q]
    have hd := zdel_b (σ.2 a) h2.1 h2.2 (sFav v a (σ.2 a)) (by omega) (by omega)
    by_cases q2 : (¬ σ.1 (sFav v a (σ.2 a)) = -9) ∧ ¬ sBef v (sFav v a (σ.2 a)) a (σ.1 (sFav v a (σ.2 a)))
    · rw [if_pos q2]
      intro p p0 p1
      refine ⟨(h p p0 p1).1, ?_⟩
      have := (h p p0 p1).2
      show 0 ≤ (if p = a then _ else σ.2 p) ∧ (if p = a then _ else σ.2 p) < 32
      split <;> omega
    · rw [if_neg q2]
      intro p p0 p1
      have h3 := (h p p0 p1).1
      refine ⟨?_, ?_⟩
      · show (if p = a then sFav v a (σ.2 a) else if p = sFav v a (σ.2 a) then a else if p = σ.1 (sFav v a (σ.2 a)) then -9 else σ.1 p) = -9 ∨ zU p (if p = a then sFav v a (σ.2 a) else if p = sFav v a (σ.2 a) then a else if p = σ.1 (sFav v a (σ.2 a)) then -9 else σ.1 p)
        split
        · omega
        · split
          · omega
          · split
            · exact Or.inl rfl
            · exact h3
      · have := (h p p0 p1).2
        show 0 ≤ (if p = a then _ else σ.2 p) ∧ (if p = a then _ else σ.2 p) < 32
        split <;> omega
def sIn (v : zVw) (s : Int) : zAS := (fun _ => -9, fun p => if vTh v p ∧ ((p < 5 ∧ s = 0) ∨ (5 ≤ p ∧ s = 1)) then zshl 1 (if p < 5 then vR v else vL v) - 1 else 0)
def sIt (v : zVw) (σ : zAS) : Nat → zAS
  | 0 => σ
  | k + 1 => if sFst (sIt v σ k) = -9 then sIt v σ k else sStp v (sIt v σ k) (sFst (sIt v σ k))
theorem sIt_b {v : zVw} {σ : zAS} (h : zAb σ) : ∀ k, zAb (sIt v σ k)
  | 0 => h
  | k + 1 => by
    have h1 := sIt_b (v := v) h k
    rw [sIt]
    by_cases q : sFst (sIt v σ k) = -9
    · rw [if_pos q]; exact h1
    · rw [if_neg q]
      have hu := sFst_U (sIt v σ k)
      exact sStp_b h1 (by omega)
theorem sIt_stop {v : zVw} {σ : zAS} {k : Nat} (h : sFst (sIt v σ k) = -9) : ∀ n, sIt v σ (k + n) = sIt v σ k
  | 0 => rfl
  | n + 1 => by
    have h1 := sIt_stop (v := v) h n
    rw [show k + (n + 1) = (k + n) + 1 by omega, sIt, h1, if_pos h]
theorem sIn_b {v : zVw} (ho : vOK v) (s : Int) : zAb (sIn v s) := by
  obtain ⟨o1, o2, -⟩ := ho
  intro p p0 p1
  refine ⟨Or.inl rfl, ?_⟩
  show 0 ≤ (if vTh v p ∧ ((p < 5 ∧ s = 0) ∨ (5 ≤ p ∧ s = 1)) then zshl 1 (if p < 5 then vR v else vL v) - 1 else 0) ∧ (if vTh v p ∧ ((p < 5 ∧ s = 0) ∨ (5 ≤ p ∧ s = 1)) then zshl 1 (if p < 5 then vR v else vL v) - 1 else 0) < 32
  have h1 := zshl_b (vR v) o2.1 o2.2
  have h2 := zshl_b (vL v) o1.1 o1.2
  split
  · split <;> omega
  · omega
theorem zAs_0 {m μ : zM} {σ : zAS} (h : zAs μ σ) (hf : ∀ x, x = 24 ∨ x = 26 → m x = μ x) : zAs m σ := fun p p0 p1 => by
  rw [hf 24 (Or.inl rfl), hf 26 (Or.inr rfl)]
  exact h p p0 p1
end
section
/-! contracts: Pairing, who asks whom -/
set_option maxHeartbeats 4000000 in
theorem c_J6_bitCount_0f7a4 (l : Launch) (μ : zM) (x : Int) (hx : 0 ≤ x ∧ x < 32) : zMi l yJ6_bitCount_0f7a4 cJ6_bitCount_0f7a4 1 (.int) 0 0 [.inl x] μ (fun (r : Int) (m : zM) => μ = m ∧ r = sPop x) := by
  refine zMi_ofF (own := RJ6) (by decide +kernel) rfl (Nat.le_of_ble_eq_true rfl) ?_
  intro X hX C hrm E
  subst hX
  show zJ X 1 μ 0 [(0, .inl x)] []
  refine z_iload_n C dJ6_bitCount_0f7a4_0 0 rfl ?_
  refine z_iload_n C dJ6_bitCount_0f7a4_1 0 rfl ?_
  refine z_iconst C dJ6_bitCount_0f7a4_2 ?_
  refine z_iushr C dJ6_bitCount_0f7a4_3 ?_
  refine z_ldcw C (n := 1431655765) dJ6_bitCount_0f7a4_4 kkJ6_265 ?_
  refine z_iand C dJ6_bitCount_0f7a4_7 ?_
  refine z_isub C dJ6_bitCount_0f7a4_8 ?_
  refine z_istore_n C dJ6_bitCount_0f7a4_9 (by decide) (L' := [(0, _)]) rfl ?_
  refine z_iload_n C dJ6_bitCount_0f7a4_10 0 rfl ?_
  refine z_ldcw C (n := 858993459) dJ6_bitCount_0f7a4_11 kkJ6_266 ?_
  refine z_iand C dJ6_bitCount_0f7a4_14 ?_
  refine z_iload_n C dJ6_bitCount_0f7a4_15 0 rfl ?_
  refine z_iconst C dJ6_bitCount_0f7a4_16 ?_
  refine z_iushr C dJ6_bitCount_0f7a4_17 ?_
  refine z_ldcw C (n := 858993459) dJ6_bitCount_0f7a4_18 kkJ6_266 ?_
  refine z_iand C dJ6_bitCount_0f7a4_21 ?_
  refine z_iadd C dJ6_bitCount_0f7a4_22 ?_
  refine z_istore_n C dJ6_bitCount_0f7a4_23 (by decide) (L' := [(0, _)]) rfl ?_
  refine z_iload_n C dJ6_bitCount_0f7a4_24 0 rfl ?_
  refine z_iload_n C dJ6_bitCount_0f7a4_25 0 rfl ?_
  refine z_iconst C dJ6_bitCount_0f7a4_26 ?_
  refine z_iushr C dJ6_bitCount_0f7a4_27 ?_
  refine z_iadd C dJ6_bitCount_0f7a4_28 ?_
  refine z_ldcw C (n := 252645135) dJ6_bitCount_0f7a4_29 kkJ6_267 ?_
  refine z_iand C dJ6_bitCount_0f7a4_32 ?_
  refine z_istore_n C dJ6_bitCount_0f7a4_33 (by decide) (L' := [(0, _)]) rfl ?_
  refine z_iload_n C dJ6_bitCount_0f7a4_34 0 rfl ?_
  refine z_iload_n C dJ6_bitCount_0f7a4_35 0 rfl ?_
  refine z_bipush C dJ6_bitCount_0f7a4_36 (by decide) ?_
  refine z_iushr C dJ6_bitCount_0f7a4_38 ?_
  refine z_iadd C dJ6_bitCount_0f7a4_39 ?_
  refine z_istore_n C dJ6_bitCount_0f7a4_40 (by decide) (L' := [(0, _)]) rfl ?_
  refine z_iload_n C dJ6_bitCount_0f7a4_41 0 rfl ?_
  refine z_iload_n C dJ6_bitCount_0f7a4_42 0 rfl ?_
  refine z_bipush C dJ6_bitCount_0f7a4_43 (by decide) ?_
  refine z_iushr C dJ6_bitCount_0f7a4_45 ?_
  refine z_iadd C dJ6_bitCount_0f7a4_46 ?_
  refine z_istore_n C dJ6_bitCount_0f7a4_47 (by decide) (L' := [(0, _)]) rfl ?_
  refine z_iload_n C dJ6_bitCount_0f7a4_48 0 rfl ?_
  refine z_bipush C dJ6_bitCount_0f7a4_49 (by decide) ?_
  refine z_iand C dJ6_bitCount_0f7a4_51 ?_
  exact E dJ6_bitCount_0f7a4_52 (zand_R _ _) rfl ⟨rfl, bc_val x hx.1 hx.2⟩
set_option maxHeartbeats 4000000 in
theorem c_X1_favourite (l : Launch) (μ : zM) (t : Nat) (ht : zTo t) (v : zVw) (hv : zT μ t v) (ho : vOK v) (p s : Int) (hp : 0 ≤ p ∧ p < 10) (hs : 0 ≤ s ∧ s < 32) : zMi l yX1_favourite cX1_favourite 7 (.int) 1 22 [.inr t, .inl p, .inl s] μ (fun (r : Int) (m : zM) => μ = m ∧ r = sFav v p s) := by
  refine zMi_of (own := RX1) (by decide +kernel) rfl (Nat.le_of_ble_eq_true rfl) ?_
  intro X hX C hrm E
  subst hX
  show zJ X 7 μ 0 [(0, .inr t), (1, .inl p), (2, .inl s)] []
  obtain ⟨hv1, hv2, hv3, hv4, hv5, hv6, hv7⟩ := id hv
  obtain ⟨ho1, ho2, ho3, ho4, ho5, ho6, ho7⟩ := id ho
  refine z_bipush C dX1_favourite_0 (by decide) ?_
  refine z_istore_n C dX1_favourite_2 (by decide) (L' := [(0, _), (1, _), (2, _), (3, _)]) rfl ?_
  refine z_iconst C dX1_favourite_3 ?_
  refine z_istore C dX1_favourite_4 (by decide) (L' := [(0, _), (1, _), (2, _), (3, _), (4, _)]) rfl ?_
  have LP6 : ∀ (N6 : Nat) (b : Int) (i : Int), (0 ≤ i) → (i ≤ 5) → (b = sFavN v p s i.toNat) → (5 - i).toNat < N6 → zJ X 7 μ 6 [(0, .inr t), (1, .inl p), (2, .inl s), (3, .inl b), (4, .inl i)] [] := by
    intro N6
    induction N6 with
    | zero => intro b i h6_0 h6_1 h6_2 hN; exact absurd hN (Nat.not_lt_zero _)
    | succ N6 ih6 =>
      intro b i h6_0 h6_1 h6_2 hN6
      have hb := sFavN_U v s hp i.toNat (by omega)
      rw [← h6_2] at hb
      refine z_iload C dX1_favourite_6 4 rfl ?_
      refine z_iconst C dX1_favourite_8 ?_
      refine z_icmp_ge C dX1_favourite_9 (tgt := 74) (by decide) (by omega) (by decide) (fun c1 => ?_) (fun c1 => ?_)
      · have e5 : i.toNat = 5 := by omega
        rw [e5] at h6_2
        refine z_iload_n C dX1_favourite_74 3 rfl ?_
        exact E dX1_favourite_75 (by omega) rfl ⟨rfl, h6_2⟩
      · refine z_iload_n C dX1_favourite_12 1 rfl ?_
        refine z_callNi C (c_X5_otherStart (zl X) μ p (by omega)) yyX5_otherStart (by decide +kernel) dX1_favourite_13 rfl rfl (Nat.le_of_ble_eq_true rfl) (by decide) (fun r2 m2 hr2 hp2 => ?_)
        obtain ⟨rfl, hp2⟩ := hp2
        rcases hp2 with ⟨hp2, rfl⟩ | ⟨hp2, rfl⟩
        · refine z_iload C dX1_favourite_16 4 rfl ?_
          refine z_iadd C dX1_favourite_18 ?_
          have eo : (5 + i) = sOth p i := by unfold sOth; split <;> omega
          rw [eo]
          have ob : zU p (sOth p i) := by omega
          refine z_istore C dX1_favourite_19 (by decide) (L' := [(0, _), (1, _), (2, _), (3, _), (4, _), (5, _)]) rfl ?_
          refine z_iload_n C dX1_favourite_21 2 rfl ?_
          refine z_iload C dX1_favourite_22 5 rfl ?_
          refine z_callNi C (c_X5_bitOf (zl X) μ (sOth p i) (by omega)) yyX5_bitOf (by decide +kernel) dX1_favourite_24 rfl rfl (Nat.le_of_ble_eq_true rfl) (by decide) (fun r3 m3 hr3 hp3 => ?_)
          obtain ⟨rfl, hp3⟩ := hp3
          rw [hp3]
          have hzb := zand_b s hs.1 hs.2 (sOth p i) (by omega) (by omega)
          refine z_iand C dX1_favourite_27 ?_
          refine z_if_eq C dX1_favourite_28 (tgt := 35) (by decide) (by omega) (fun c4 => ?_) (fun c4 => ?_)
          · refine z_iconst C dX1_favourite_35 ?_
            refine z_istore C dX1_favourite_36 (by decide) (L' := [(0, _), (1, _), (2, _), (3, _), (4, _), (5, _), (6, _)]) rfl ?_
            refine z_iload C dX1_favourite_38 6 rfl ?_
            refine z_if_eq C dX1_favourite_40 (tgt := 68) (by decide) (by decide) (fun _ => ?_) (fun c5 => (by exfalso; omega))
            refine z_iinc C dX1_favourite_68 4 rfl (by decide) (L' := [(0, _), (1, _), (2, _), (3, _), (4, _), (5, _), (6, _)]) rfl ?_
            refine z_goto C dX1_favourite_71 (tgt := 6) (by decide) ?_
            refine z_sub [0, 1, 2, 3, 4] rfl ?_; exact ih6 _ _ (by omega) (by omega) (by rw [sFavN_s v p s (by omega), ← h6_2]; exact (if_neg (by omega)).symm) (by omega)
          · refine z_iconst C dX1_favourite_31 ?_
            refine z_goto C dX1_favourite_32 (tgt := 36) (by decide) ?_
            refine z_istore C dX1_favourite_36 (by decide) (L' := [(0, _), (1, _), (2, _), (3, _), (4, _), (5, _), (6, _)]) rfl ?_
            refine z_iload C dX1_favourite_38 6 rfl ?_
            refine z_if_eq C dX1_favourite_40 (tgt := 68) (by decide) (by decide) (fun c6 => (by exfalso; omega)) (fun _ => ?_)
            refine z_iload_n C dX1_favourite_43 3 rfl ?_
            refine z_bipush C dX1_favourite_44 (by decide) ?_
            refine z_icmp_eq C dX1_favourite_46 (tgt := 65) (by decide) (by omega) (by decide) (fun c7 => ?_) (fun c7 => ?_)
            · refine z_iload C dX1_favourite_65 5 rfl ?_
              refine z_istore_n C dX1_favourite_67 (by decide) (L' := [(0, _), (1, _), (2, _), (3, _), (4, _), (5, _), (6, _)]) rfl ?_
              refine z_iinc C dX1_favourite_68 4 rfl (by decide) (L' := [(0, _), (1, _), (2, _), (3, _), (4, _), (5, _), (6, _)]) rfl ?_
              refine z_goto C dX1_favourite_71 (tgt := 6) (by decide) ?_
              refine z_sub [0, 1, 2, 3, 4] rfl ?_; exact ih6 _ _ (by omega) (by omega) (by rw [sFavN_s v p s (by omega), ← h6_2]; exact (if_pos (by omega)).symm) (by omega)
            · refine z_aload_n C dX1_favourite_49 0 rfl ?_
              refine z_iload_n C dX1_favourite_50 1 rfl ?_
              refine z_iload C dX1_favourite_51 5 rfl ?_
              refine z_callVi C (c_X4_likes (zl X) μ t ht v hv ho p (sOth p i) (by omega)) yyX4_likes mlX1_49 (zRc_of (i := t) C (by have := zto_lt ht; omega) (zd_to0 ht) rfl) dX1_favourite_53 rfl rfl (Nat.le_of_ble_eq_true rfl) (by decide) (fun r8 m8 hr8 hp8 => ?_)
              obtain ⟨rfl, hp8⟩ := hp8
              rw [hp8]
              have hq1 := ho7 p (sOth p i) ob
              refine z_aload_n C dX1_favourite_56 0 rfl ?_
              refine z_iload_n C dX1_favourite_57 1 rfl ?_
              refine z_iload_n C dX1_favourite_58 3 rfl ?_
              refine z_callVi C (c_X4_likes (zl X) μ t ht v hv ho p b (by omega)) yyX4_likes mlX1_49 (zRc_of (i := t) C (by have := zto_lt ht; omega) (zd_to0 ht) rfl) dX1_favourite_59 rfl rfl (Nat.le_of_ble_eq_true rfl) (by decide) (fun r9 m9 hr9 hp9 => ?_)
              obtain ⟨rfl, hp9⟩ := hp9
              rw [hp9]
              have hq2 := ho7 p b (by omega)
              refine z_icmp_le C dX1_favourite_62 (tgt := 68) (by decide) (by omega) (by omega) (fun c10 => ?_) (fun c10 => ?_)
              · refine z_iinc C dX1_favourite_68 4 rfl (by decide) (L' := [(0, _), (1, _), (2, _), (3, _), (4, _), (5, _), (6, _)]) rfl ?_
                refine z_goto C dX1_favourite_71 (tgt := 6) (by decide) ?_
                refine z_sub [0, 1, 2, 3, 4] rfl ?_; exact ih6 _ _ (by omega) (by omega) (by rw [sFavN_s v p s (by omega), ← h6_2]; exact (if_neg (by omega)).symm) (by omega)
              · refine z_iload C dX1_favourite_65 5 rfl ?_
                refine z_istore_n C dX1_favourite_67 (by decide) (L' := [(0, _), (1, _), (2, _), (3, _), (4, _), (5, _), (6, _)]) rfl ?_
                refine z_iinc C dX1_favourite_68 4 rfl (by decide) (L' := [(0, _), (1, _), (2, _), (3, _), (4, _), (5, _), (6, _)]) rfl ?_
                refine z_goto C dX1_favourite_71 (tgt := 6) (by decide) ?_
                refine z_sub [0, 1, 2, 3, 4] rfl ?_; exact ih6 _ _ (by omega) (by omega) (by rw [sFavN_s v p s (by omega), ← h6_2]; exact (if_pos (by omega)).symm) (by omega)
        · refine z_iload C dX1_favourite_16 4 rfl ?_
          refine z_iadd C dX1_favourite_18 ?_
          have eo : (0 + i) = sOth p i := by unfold sOth; split <;> omega
          rw [eo]
          have ob : zU p (sOth p i) := by omega
          refine z_istore C dX1_favourite_19 (by decide) (L' := [(0, _), (1, _), (2, _), (3, _), (4, _), (5, _)]) rfl ?_
          refine z_iload_n C dX1_favourite_21 2 rfl ?_
          refine z_iload C dX1_favourite_22 5 rfl ?_
          refine z_callNi C (c_X5_bitOf (zl X) μ (sOth p i) (by omega)) yyX5_bitOf (by decide +kernel) dX1_favourite_24 rfl rfl (Nat.le_of_ble_eq_true rfl) (by decide) (fun r11 m11 hr11 hp11 => ?_)
          obtain ⟨rfl, hp11⟩ := hp11
          rw [hp11]
          have hzb := zand_b s hs.1 hs.2 (sOth p i) (by omega) (by omega)
          refine z_iand C dX1_favourite_27 ?_
          refine z_if_eq C dX1_favourite_28 (tgt := 35) (by decide) (by omega) (fun c12 => ?_) (fun c12 => ?_)
          · refine z_iconst C dX1_favourite_35 ?_
            refine z_istore C dX1_favourite_36 (by decide) (L' := [(0, _), (1, _), (2, _), (3, _), (4, _), (5, _), (6, _)]) rfl ?_
            refine z_iload C dX1_favourite_38 6 rfl ?_
            refine z_if_eq C dX1_favourite_40 (tgt := 68) (by decide) (by decide) (fun _ => ?_) (fun c13 => (by exfalso; omega))
            refine z_iinc C dX1_favourite_68 4 rfl (by decide) (L' := [(0, _), (1, _), (2, _), (3, _), (4, _), (5, _), (6, _)]) rfl ?_
            refine z_goto C dX1_favourite_71 (tgt := 6) (by decide) ?_
            refine z_sub [0, 1, 2, 3, 4] rfl ?_; exact ih6 _ _ (by omega) (by omega) (by rw [sFavN_s v p s (by omega), ← h6_2]; exact (if_neg (by omega)).symm) (by omega)
          · refine z_iconst C dX1_favourite_31 ?_
            refine z_goto C dX1_favourite_32 (tgt := 36) (by decide) ?_
            refine z_istore C dX1_favourite_36 (by decide) (L' := [(0, _), (1, _), (2, _), (3, _), (4, _), (5, _), (6, _)]) rfl ?_
            refine z_iload C dX1_favourite_38 6 rfl ?_
            refine z_if_eq C dX1_favourite_40 (tgt := 68) (by decide) (by decide) (fun c14 => (by exfalso; omega)) (fun _ => ?_)
            refine z_iload_n C dX1_favourite_43 3 rfl ?_
            refine z_bipush C dX1_favourite_44 (by decide) ?_
            refine z_icmp_eq C dX1_favourite_46 (tgt := 65) (by decide) (by omega) (by decide) (fun c15 => ?_) (fun c15 => ?_)
            · refine z_iload C dX1_favourite_65 5 rfl ?_
              refine z_istore_n C dX1_favourite_67 (by decide) (L' := [(0, _), (1, _), (2, _), (3, _), (4, _), (5, _), (6, _)]) rfl ?_
              refine z_iinc C dX1_favourite_68 4 rfl (by decide) (L' := [(0, _), (1, _), (2, _), (3, _), (4, _), (5, _), (6, _)]) rfl ?_
              refine z_goto C dX1_favourite_71 (tgt := 6) (by decide) ?_
              refine z_sub [0, 1, 2, 3, 4] rfl ?_; exact ih6 _ _ (by omega) (by omega) (by rw [sFavN_s v p s (by omega), ← h6_2]; exact (if_pos (by omega)).symm) (by omega)
            · refine z_aload_n C dX1_favourite_49 0 rfl ?_
              refine z_iload_n C dX1_favourite_50 1 rfl ?_
              refine z_iload C dX1_favourite_51 5 rfl ?_
              refine z_callVi C (c_X4_likes (zl X) μ t ht v hv ho p (sOth p i) (by omega)) yyX4_likes mlX1_49 (zRc_of (i := t) C (by have := zto_lt ht; omega) (zd_to0 ht) rfl) dX1_favourite_53 rfl rfl (Nat.le_of_ble_eq_true rfl) (by decide) (fun r16 m16 hr16 hp16 => ?_)
              obtain ⟨rfl, hp16⟩ := hp16
              rw [hp16]
              have hq1 := ho7 p (sOth p i) ob
              refine z_aload_n C dX1_favourite_56 0 rfl ?_
              refine z_iload_n C dX1_favourite_57 1 rfl ?_
              refine z_iload_n C dX1_favourite_58 3 rfl ?_
              refine z_callVi C (c_X4_likes (zl X) μ t ht v hv ho p b (by omega)) yyX4_likes mlX1_49 (zRc_of (i := t) C (by have := zto_lt ht; omega) (zd_to0 ht) rfl) dX1_favourite_59 rfl rfl (Nat.le_of_ble_eq_true rfl) (by decide) (fun r17 m17 hr17 hp17 => ?_)
              obtain ⟨rfl, hp17⟩ := hp17
              rw [hp17]
              have hq2 := ho7 p b (by omega)
              refine z_icmp_le C dX1_favourite_62 (tgt := 68) (by decide) (by omega) (by omega) (fun c18 => ?_) (fun c18 => ?_)
              · refine z_iinc C dX1_favourite_68 4 rfl (by decide) (L' := [(0, _), (1, _), (2, _), (3, _), (4, _), (5, _), (6, _)]) rfl ?_
                refine z_goto C dX1_favourite_71 (tgt := 6) (by decide) ?_
                refine z_sub [0, 1, 2, 3, 4] rfl ?_; exact ih6 _ _ (by omega) (by omega) (by rw [sFavN_s v p s (by omega), ← h6_2]; exact (if_neg (by omega)).symm) (by omega)
              · refine z_iload C dX1_favourite_65 5 rfl ?_
                refine z_istore_n C dX1_favourite_67 (by decide) (L' := [(0, _), (1, _), (2, _), (3, _), (4, _), (5, _), (6, _)]) rfl ?_
                refine z_iinc C dX1_favourite_68 4 rfl (by decide) (L' := [(0, _), (1, _), (2, _), (3, _), (4, _), (5, _), (6, _)]) rfl ?_
                refine z_goto C dX1_favourite_71 (tgt := 6) (by decide) ?_
                refine z_sub [0, 1, 2, 3, 4] rfl ?_; exact ih6 _ _ (by omega) (by omega) (by rw [sFavN_s v p s (by omega), ← h6_2]; exact (if_pos (by omega)).symm) (by omega)
  exact LP6 _ (-9) 0 (by omega) (by omega) rfl (Nat.lt_succ_self _)
set_option maxHeartbeats 4000000 in
theorem c_X1_isLikedBefore (l : Launch) (μ : zM) (t : Nat) (ht : zTo t) (v : zVw) (hv : zT μ t v) (ho : vOK v) (q a b : Int) (ha : zU q a) (hb : zU q b) : zMi l yX1_isLikedBefore cX1_isLikedBefore 6 (.boolean) 1 22 [.inr t, .inl q, .inl a, .inl b] μ (fun (r : Int) (m : zM) => μ = m ∧ ((r = 1 ∧ (sBef v q a b)) ∨ (r = 0 ∧ ¬ (sBef v q a b)))) := by
  refine zMi_of (own := RX1) (by decide +kernel) rfl (Nat.le_of_ble_eq_true rfl) ?_
  intro X hX C hrm E
  subst hX
  show zJ X 6 μ 0 [(0, .inr t), (1, .inl q), (2, .inl a), (3, .inl b)] []
  obtain ⟨hv1, hv2, hv3, hv4, hv5, hv6, hv7⟩ := id hv
  obtain ⟨ho1, ho2, ho3, ho4, ho5, ho6, ho7⟩ := id ho
  have q1 := ho7 q a ha
  have q2 := ho7 q b hb
  refine z_aload_n C dX1_isLikedBefore_0 0 rfl ?_
  refine z_iload_n C dX1_isLikedBefore_1 1 rfl ?_
  refine z_iload_n C dX1_isLikedBefore_2 2 rfl ?_
  refine z_callVi C (c_X4_likes (zl X) μ t ht v hv ho q a (by omega)) yyX4_likes mlX1_49 (zRc_of (i := t) C (by have := zto_lt ht; omega) (zd_to0 ht) rfl) dX1_isLikedBefore_3 rfl rfl (Nat.le_of_ble_eq_true rfl) (by decide) (fun r1 m1 hr1 hp1 => ?_)
  obtain ⟨rfl, hp1⟩ := hp1
  rw [hp1]
  refine z_istore C dX1_isLikedBefore_6 (by decide) (L' := [(0, _), (1, _), (2, _), (3, _), (4, _)]) rfl ?_
  refine z_aload_n C dX1_isLikedBefore_8 0 rfl ?_
  refine z_iload_n C dX1_isLikedBefore_9 1 rfl ?_
  refine z_iload_n C dX1_isLikedBefore_10 3 rfl ?_
  refine z_callVi C (c_X4_likes (zl X) μ t ht v hv ho q b (by omega)) yyX4_likes mlX1_49 (zRc_of (i := t) C (by have := zto_lt ht; omega) (zd_to0 ht) rfl) dX1_isLikedBefore_11 rfl rfl (Nat.le_of_ble_eq_true rfl) (by decide) (fun r2 m2 hr2 hp2 => ?_)
  obtain ⟨rfl, hp2⟩ := hp2
  rw [hp2]
  refine z_istore C dX1_isLikedBefore_14 (by decide) (L' := [(0, _), (1, _), (2, _), (3, _), (4, _), (5, _)]) rfl ?_
  refine z_iload C dX1_isLikedBefore_16 4 rfl ?_
  refine z_iload C dX1_isLikedBefore_18 5 rfl ?_
  refine z_icmp_gt C dX1_isLikedBefore_20 (tgt := 35) (by decide) (by omega) (by omega) (fun c3 => ?_) (fun c3 => ?_)
  · refine z_iconst C dX1_isLikedBefore_35 ?_
    refine z_goto C dX1_isLikedBefore_36 (tgt := 40) (by decide) ?_
    exact E dX1_isLikedBefore_40 (by decide) (z_nb (Or.inr rfl)) ⟨rfl, Or.inl ⟨rfl, by omega⟩⟩
  · refine z_iload C dX1_isLikedBefore_23 4 rfl ?_
    refine z_iload C dX1_isLikedBefore_25 5 rfl ?_
    refine z_icmp_ne C dX1_isLikedBefore_27 (tgt := 39) (by decide) (by omega) (by omega) (fun c4 => ?_) (fun c4 => ?_)
    · refine z_iconst C dX1_isLikedBefore_39 ?_
      exact E dX1_isLikedBefore_40 (by decide) (z_nb (Or.inl rfl)) ⟨rfl, Or.inr ⟨rfl, by omega⟩⟩
    · refine z_iload_n C dX1_isLikedBefore_30 2 rfl ?_
      refine z_iload_n C dX1_isLikedBefore_31 3 rfl ?_
      refine z_icmp_ge C dX1_isLikedBefore_32 (tgt := 39) (by decide) (by omega) (by omega) (fun c5 => ?_) (fun c5 => ?_)
      · refine z_iconst C dX1_isLikedBefore_39 ?_
        exact E dX1_isLikedBefore_40 (by decide) (z_nb (Or.inl rfl)) ⟨rfl, Or.inr ⟨rfl, by omega⟩⟩
      · refine z_iconst C dX1_isLikedBefore_35 ?_
        refine z_goto C dX1_isLikedBefore_36 (tgt := 40) (by decide) ?_
        exact E dX1_isLikedBefore_40 (by decide) (z_nb (Or.inr rfl)) ⟨rfl, Or.inl ⟨rfl, by omega⟩⟩
set_option maxHeartbeats 4000000 in
theorem c_X1_likedMost (l : Launch) (μ : zM) (t : Nat) (ht : zTo t) (v : zVw) (hv : zT μ t v) (ho : vOK v) (p s n : Int) (hp : 0 ≤ p ∧ p < 10) (hs : 0 ≤ s ∧ s < 32) (hn : 0 ≤ n ∧ n ≤ 5) : zMi l yX1_likedMost cX1_likedMost 7 (.int) 2 48 [.inr t, .inl p, .inl s, .inl n] μ (fun (r : Int) (m : zM) => μ = m ∧ r = sLkN v p s n.toNat) := by
  refine zMi_of (own := RX1) (by decide +kernel) rfl (Nat.le_of_ble_eq_true rfl) ?_
  intro X hX C hrm E
  subst hX
  show zJ X 7 μ 0 [(0, .inr t), (1, .inl p), (2, .inl s), (3, .inl n)] []
  obtain ⟨hv1, hv2, hv3, hv4, hv5, hv6, hv7⟩ := id hv
  obtain ⟨ho1, ho2, ho3, ho4, ho5, ho6, ho7⟩ := id ho
  refine z_iconst C dX1_likedMost_0 ?_
  refine z_istore C dX1_likedMost_1 (by decide) (L' := [(0, _), (1, _), (2, _), (3, _), (4, _)]) rfl ?_
  refine z_iconst C dX1_likedMost_3 ?_
  refine z_istore C dX1_likedMost_4 (by decide) (L' := [(0, _), (1, _), (2, _), (3, _), (4, _), (5, _)]) rfl ?_
  have LP6 : ∀ (N6 : Nat) (c : Int) (i : Int), (0 ≤ i) → (i ≤ n) → (c = sLkN v p s i.toNat) → (5 - i).toNat < N6 → zJ X 7 μ 6 [(0, .inr t), (1, .inl p), (2, .inl s), (3, .inl n), (4, .inl c), (5, .inl i)] [] := by
    intro N6
    induction N6 with
    | zero => intro c i h6_0 h6_1 h6_2 hN; exact absurd hN (Nat.not_lt_zero _)
    | succ N6 ih6 =>
      intro c i h6_0 h6_1 h6_2 hN6
      have hc := sLkN_b v s hp i.toNat
      rw [← h6_2] at hc
      have hd := zandn_b s hs.1 hs.2 c hc.1 hc.2
      have hu := sFav_U v (zand s (zxor c (-1))) hp
      refine z_iload C dX1_likedMost_6 5 rfl ?_
      refine z_iload_n C dX1_likedMost_8 3 rfl ?_
      refine z_icmp_ge C dX1_likedMost_9 (tgt := 48) (by decide) (by omega) (by omega) (fun c1 => ?_) (fun c1 => ?_)
      · rw [show i = n by omega] at h6_2
        refine z_iload C dX1_likedMost_48 4 rfl ?_
        exact E dX1_likedMost_50 (by omega) rfl ⟨rfl, h6_2⟩
      · refine z_aload_n C dX1_likedMost_12 0 rfl ?_
        refine z_iload_n C dX1_likedMost_13 1 rfl ?_
        refine z_iload_n C dX1_likedMost_14 2 rfl ?_
        refine z_iload C dX1_likedMost_15 4 rfl ?_
        refine z_iconst C dX1_likedMost_17 ?_
        refine z_ixor C dX1_likedMost_18 ?_
        refine z_iand C dX1_likedMost_19 ?_
        refine z_callSi C (c_X1_favourite (zl X) μ t ht v hv ho p (zand s (zxor c (-1))) (by omega) (by omega)) yyX1_favourite mlX1_55 dX1_likedMost_20 rfl rfl (Nat.le_of_ble_eq_true rfl) (by decide) (fun r2 m2 hr2 hp2 => ?_)
        obtain ⟨rfl, hp2⟩ := hp2
        rw [hp2]
        refine z_istore C dX1_likedMost_23 (by decide) (L' := [(0, _), (1, _), (2, _), (3, _), (4, _), (5, _), (6, _)]) rfl ?_
        refine z_iload C dX1_likedMost_25 6 rfl ?_
        refine z_bipush C dX1_likedMost_27 (by decide) ?_
        refine z_icmp_eq C dX1_likedMost_29 (tgt := 42) (by decide) (by omega) (by decide) (fun c3 => ?_) (fun c3 => ?_)
        · refine z_iinc C dX1_likedMost_42 5 rfl (by decide) (L' := [(0, _), (1, _), (2, _), (3, _), (4, _), (5, _), (6, _)]) rfl ?_
          refine z_goto C dX1_likedMost_45 (tgt := 6) (by decide) ?_
          refine z_sub [0, 1, 2, 3, 4, 5] rfl ?_; exact ih6 _ _ (by omega) (by omega) (by rw [sLkN_s v p s (by omega), ← h6_2]; exact (if_pos (by omega)).symm) (by omega)
        · refine z_iload C dX1_likedMost_32 4 rfl ?_
          refine z_iload C dX1_likedMost_34 6 rfl ?_
          refine z_callNi C (c_X5_bitOf (zl X) μ (sFav v p (zand s (zxor c (-1)))) (by omega)) yyX5_bitOf (by decide +kernel) dX1_likedMost_36 rfl rfl (Nat.le_of_ble_eq_true rfl) (by decide) (fun r4 m4 hr4 hp4 => ?_)
          obtain ⟨rfl, hp4⟩ := hp4
          rw [hp4]
          refine z_ior C dX1_likedMost_39 ?_
          refine z_istore C dX1_likedMost_40 (by decide) (L' := [(0, _), (1, _), (2, _), (3, _), (4, _), (5, _), (6, _)]) rfl ?_
          refine z_iinc C dX1_likedMost_42 5 rfl (by decide) (L' := [(0, _), (1, _), (2, _), (3, _), (4, _), (5, _), (6, _)]) rfl ?_
          refine z_goto C dX1_likedMost_45 (tgt := 6) (by decide) ?_
          refine z_sub [0, 1, 2, 3, 4, 5] rfl ?_; exact ih6 _ _ (by omega) (by omega) (by rw [sLkN_s v p s (by omega), ← h6_2]; exact (if_neg (by omega)).symm) (by omega)
  exact LP6 _ 0 0 (by omega) (by omega) rfl (Nat.lt_succ_self _)
set_option maxHeartbeats 4000000 in
theorem c_X1_firstWhoWillAsk (l : Launch) (μ : zM) (σ : zAS) (hσ : zAs μ σ) (hB : zAb σ) : zMi l yX1_firstWhoWillAsk cX1_firstWhoWillAsk 2 (.int) 0 0 [.inr 22] μ (fun (r : Int) (m : zM) => μ = m ∧ r = sFst σ) := by
  refine zMi_of (own := RX1) (by decide +kernel) rfl (Nat.le_of_ble_eq_true rfl) ?_
  intro X hX C hrm E
  subst hX
  show zJ X 2 μ 0 [(0, .inr 22)] []
  refine z_iconst C dX1_firstWhoWillAsk_0 ?_
  refine z_istore_n C dX1_firstWhoWillAsk_1 (by decide) (L' := [(0, _), (1, _)]) rfl ?_
  have LP2 : ∀ (N2 : Nat) (i : Int), (0 ≤ i) → (i ≤ 10) → (sFst σ = sFstF σ (10 - i).toNat i) → (10 - i).toNat < N2 → zJ X 2 μ 2 [(0, .inr 22), (1, .inl i)] [] := by
    intro N2
    induction N2 with
    | zero => intro i h2_0 h2_1 h2_2 hN; exact absurd hN (Nat.not_lt_zero _)
    | succ N2 ih2 =>
      intro i h2_0 h2_1 h2_2 hN2
      refine z_iload_n C dX1_firstWhoWillAsk_2 1 rfl ?_
      refine z_bipush C dX1_firstWhoWillAsk_3 (by decide) ?_
      refine z_icmp_ge C dX1_firstWhoWillAsk_5 (tgt := 36) (by decide) (by omega) (by decide) (fun c1 => ?_) (fun c1 => ?_)
      · refine z_bipush C dX1_firstWhoWillAsk_36 (by decide) ?_
        exact E dX1_firstWhoWillAsk_38 (by decide) rfl ⟨rfl, (by rw [h2_2, show (10 - i).toNat = 0 by omega]; rfl)⟩
      · refine z_aload_n C dX1_firstWhoWillAsk_8 0 rfl ?_
        refine z_getR C ffX1_15 dX1_firstWhoWillAsk_9 (by decide) rfl rfl ?_
        refine z_iload_n C dX1_firstWhoWillAsk_12 1 rfl ?_
        refine z_iald C dX1_firstWhoWillAsk_13 (by decide) rfl (by omega) (by decide) (fun hr2 => ?_)
        rw [(hσ i (by omega) (by omega)).1]
        have hb := hB i (by omega) (by omega)
        refine z_bipush C dX1_firstWhoWillAsk_14 (by decide) ?_
        refine z_icmp_ne C dX1_firstWhoWillAsk_16 (tgt := 30) (by decide) (by omega) (by decide) (fun c3 => ?_) (fun c3 => ?_)
        · refine z_iinc C dX1_firstWhoWillAsk_30 1 rfl (by decide) (L' := [(0, _), (1, _)]) rfl ?_
          refine z_goto C dX1_firstWhoWillAsk_33 (tgt := 2) (by decide) ?_
          exact ih2 _ (by omega) (by omega) (by rw [h2_2, sFstF_s σ (by omega), if_neg (by omega)]) (by omega)
        · refine z_aload_n C dX1_firstWhoWillAsk_19 0 rfl ?_
          refine z_getR C ffX1_21 dX1_firstWhoWillAsk_20 (by decide) rfl rfl ?_
          refine z_iload_n C dX1_firstWhoWillAsk_23 1 rfl ?_
          refine z_iald C dX1_firstWhoWillAsk_24 (by decide) rfl (by omega) (by decide) (fun hr4 => ?_)
          rw [(hσ i (by omega) (by omega)).2]
          refine z_if_eq C dX1_firstWhoWillAsk_25 (tgt := 30) (by decide) (by omega) (fun c5 => ?_) (fun c5 => ?_)
          · refine z_iinc C dX1_firstWhoWillAsk_30 1 rfl (by decide) (L' := [(0, _), (1, _)]) rfl ?_
            refine z_goto C dX1_firstWhoWillAsk_33 (tgt := 2) (by decide) ?_
            exact ih2 _ (by omega) (by omega) (by rw [h2_2, sFstF_s σ (by omega), if_neg (by omega)]) (by omega)
          · refine z_iload_n C dX1_firstWhoWillAsk_28 1 rfl ?_
            exact E dX1_firstWhoWillAsk_29 (by omega) rfl ⟨rfl, (by rw [h2_2, sFstF_s σ (by omega), if_pos (by omega)])⟩
  exact LP2 _ 0 (by omega) (by omega) rfl (Nat.lt_succ_self _)
set_option maxHeartbeats 4000000 in
theorem c_X1_ask (l : Launch) (μ : zM) (t : Nat) (ht : zTo t) (v : zVw) (hv : zT μ t v) (ho : vOK v) (σ : zAS) (hσ : zAs μ σ) (hB : zAb σ) (a : Int) (ha : 0 ≤ a ∧ a < 10) : zMv l yX1_ask cX1_ask 5 2 48 [.inr 22, .inr t, .inl a] μ (fun (m : zM) => zAs m (sStp v σ a) ∧ ∀ x, x ≠ 24 → x ≠ 26 → m x = μ x) := by
  refine zMv_of (own := RX1) (by decide +kernel) rfl (Nat.le_of_ble_eq_true rfl) ?_
  intro X hX C hrm E
  subst hX
  show zJ X 5 μ 0 [(0, .inr 22), (1, .inr t), (2, .inl a)] []
  obtain ⟨hv1, hv2, hv3, hv4, hv5, hv6, hv7⟩ := id hv
  obtain ⟨ho1, ho2, ho3, ho4, ho5, ho6, ho7⟩ := id ho
  have hu := sFav_U v (σ.2 a) ha
  have ha2 := (hB a ha.1 ha.2).2
  obtain ⟨o, ho'⟩ : ∃ o, o = sFav v a (σ.2 a) := ⟨_, rfl⟩
  rw [← ho'] at hu
  refine z_aload_n C dX1_ask_0 1 rfl ?_
  refine z_iload_n C dX1_ask_1 2 rfl ?_
  refine z_aload_n C dX1_ask_2 0 rfl ?_
  refine z_getR C ffX1_21 dX1_ask_3 (by decide) rfl rfl ?_
  refine z_iload_n C dX1_ask_6 2 rfl ?_
  refine z_iald C dX1_ask_7 (by decide) rfl (by omega) (by decide) (fun hr1 => ?_)
  rw [(hσ a ha.1 ha.2).2]
  refine z_callSi C (c_X1_favourite (zl X) μ t ht v hv ho a (σ.2 a) (by omega) (by omega)) yyX1_favourite mlX1_55 dX1_ask_8 rfl rfl (Nat.le_of_ble_eq_true rfl) (by decide) (fun r2 m2 hr2 hp2 => ?_)
  obtain ⟨rfl, hp2⟩ := hp2
  rw [hp2, ← ho']
  refine z_istore_n C dX1_ask_11 (by decide) (L' := [(0, _), (1, _), (2, _), (3, _)]) rfl ?_
  refine z_iload_n C dX1_ask_12 3 rfl ?_
  refine z_bipush C dX1_ask_13 (by decide) ?_
  refine z_icmp_ne C dX1_ask_15 (tgt := 19) (by decide) (by omega) (by decide) (fun c3 => ?_) (fun c3 => ?_)
  · refine z_aload_n C dX1_ask_19 0 rfl ?_
    refine z_getR C ffX1_21 dX1_ask_20 (by decide) rfl rfl ?_
    refine z_iload_n C dX1_ask_23 2 rfl ?_
    refine z_dup2 C dX1_ask_24 ?_
    refine z_iald C dX1_ask_25 (by decide) rfl (by omega) (by decide) (fun hr4 => ?_)
    rw [(hσ a ha.1 ha.2).2]
    have hzd := zdel_b (σ.2 a) ha2.1 ha2.2 o (by omega) (by omega)
    refine z_iload_n C dX1_ask_26 3 rfl ?_
    refine z_callNi C (c_X5_bitOf (zl X) μ o (by omega)) yyX5_bitOf (by decide +kernel) dX1_ask_27 rfl rfl (Nat.le_of_ble_eq_true rfl) (by decide) (fun r5 m5 hr5 hp5 => ?_)
    obtain ⟨rfl, hp5⟩ := hp5
    rw [hp5]
    refine z_iconst C dX1_ask_30 ?_
    refine z_ixor C dX1_ask_31 ?_
    refine z_iand C dX1_ask_32 ?_
    refine z_iast C dX1_ask_33 (by decide) rfl (by omega) (by decide) (by omega) ?_
    refine z_mem (fun m6 em6 => ?_)
    refine z_aload_n C dX1_ask_34 0 rfl ?_
    refine z_getR C ffX1_15 dX1_ask_35 (by decide) rfl rfl ?_
    refine z_iload_n C dX1_ask_38 3 rfl ?_
    refine z_iald C dX1_ask_39 (by decide) rfl (by omega) (by decide) (fun hr7 => ?_)
    have hg : m6 24 o = σ.1 o := by rw [em6, zs_o _ _ (by omega)]; exact (hσ o (by omega) (by omega)).1
    rw [hg]
    have hbo := (hB o (by omega) (by omega)).1
    refine z_istore C dX1_ask_40 (by decide) (L' := [(0, _), (1, _), (2, _), (3, _), (4, _)]) rfl ?_
    refine z_iload C dX1_ask_42 4 rfl ?_
    refine z_bipush C dX1_ask_44 (by decide) ?_
    refine z_icmp_eq C dX1_ask_46 (tgt := 70) (by decide) (by omega) (by decide) (fun c8 => ?_) (fun c8 => ?_)
    · refine z_aload_n C dX1_ask_70 0 rfl ?_
      refine z_getR C ffX1_15 dX1_ask_71 (by decide) rfl rfl ?_
      refine z_iload_n C dX1_ask_74 3 rfl ?_
      refine z_iload_n C dX1_ask_75 2 rfl ?_
      refine z_iast C dX1_ask_76 (by decide) rfl (by omega) (by decide) (by omega) ?_
      refine z_mem (fun m9 em9 => ?_)
      refine z_aload_n C dX1_ask_77 0 rfl ?_
      refine z_getR C ffX1_15 dX1_ask_78 (by decide) rfl rfl ?_
      refine z_iload_n C dX1_ask_81 2 rfl ?_
      refine z_iload_n C dX1_ask_82 3 rfl ?_
      refine z_iast C dX1_ask_83 (by decide) rfl (by omega) (by decide) (by omega) ?_
      refine z_mem (fun m10 em10 => ?_)
      exact E dX1_ask_84 ⟨(by unfold sStp; rw [← ho'] ; rw [if_neg (by omega), if_neg (by omega)]; intro p p0 p1; exact ⟨(by rw [em10, zs_at, em9, zs_at, em6, zs_o _ _ (by omega)]; show _ = if p = a then _ else if p = o then a else if p = σ.1 o then -9 else σ.1 p; have g1 := (hσ p p0 p1).1; split <;> (try split) <;> (try split) <;> first | rfl | exact g1 | omega), (by rw [em10, zs_o _ _ (by omega), em9, zs_o _ _ (by omega), em6, zs_at]; show _ = if p = a then _ else σ.2 p; split <;> first | rfl | exact (hσ p p0 p1).2)⟩), (fun x x1 x2 => by rw [em10, zs_ne _ _ _ (by omega), em9, zs_ne _ _ _ (by omega), em6, zs_ne _ _ _ (by omega)])⟩
    · refine z_aload_n C dX1_ask_49 1 rfl ?_
      refine z_iload_n C dX1_ask_50 3 rfl ?_
      refine z_iload_n C dX1_ask_51 2 rfl ?_
      refine z_iload C dX1_ask_52 4 rfl ?_
      refine z_callSi C (c_X1_isLikedBefore (zl X) m6 t ht v (zT_fr hv (fun i i0 i1 => by rw [em6, zs_ne _ _ _ (by omega)])) ho o a (σ.1 o) (by omega) (by omega)) yyX1_isLikedBefore mlX1_79 dX1_ask_54 rfl rfl (Nat.le_of_ble_eq_true rfl) (by decide) (fun r11 m11 hr11 hp11 => ?_)
      obtain ⟨rfl, hp11⟩ := hp11
      rcases hp11 with ⟨rfl, hp11⟩ | ⟨rfl, hp11⟩
      · refine z_if_ne C dX1_ask_57 (tgt := 61) (by decide) (by decide) (fun _ => ?_) (fun c12 => (by exfalso; omega))
        refine z_aload_n C dX1_ask_61 0 rfl ?_
        refine z_getR C ffX1_15 dX1_ask_62 (by decide) rfl rfl ?_
        refine z_iload C dX1_ask_65 4 rfl ?_
        refine z_bipush C dX1_ask_67 (by decide) ?_
        refine z_iast C dX1_ask_69 (by decide) rfl (by omega) (by decide) (by decide) ?_
        refine z_mem (fun m13 em13 => ?_)
        refine z_aload_n C dX1_ask_70 0 rfl ?_
        refine z_getR C ffX1_15 dX1_ask_71 (by decide) rfl rfl ?_
        refine z_iload_n C dX1_ask_74 3 rfl ?_
        refine z_iload_n C dX1_ask_75 2 rfl ?_
        refine z_iast C dX1_ask_76 (by decide) rfl (by omega) (by decide) (by omega) ?_
        refine z_mem (fun m14 em14 => ?_)
        refine z_aload_n C dX1_ask_77 0 rfl ?_
        refine z_getR C ffX1_15 dX1_ask_78 (by decide) rfl rfl ?_
        refine z_iload_n C dX1_ask_81 2 rfl ?_
        refine z_iload_n C dX1_ask_82 3 rfl ?_
        refine z_iast C dX1_ask_83 (by decide) rfl (by omega) (by decide) (by omega) ?_
        refine z_mem (fun m15 em15 => ?_)
        exact E dX1_ask_84 ⟨(by unfold sStp; rw [← ho'] ; rw [if_neg (by omega), if_neg (by omega)]; intro p p0 p1; exact ⟨(by rw [em15, zs_at, em14, zs_at, em13, zs_at, em6, zs_o _ _ (by omega)]; show _ = if p = a then _ else if p = o then a else if p = σ.1 o then -9 else σ.1 p; have g1 := (hσ p p0 p1).1; split <;> (try split) <;> (try split) <;> first | rfl | exact g1 | omega), (by rw [em15, zs_o _ _ (by omega), em14, zs_o _ _ (by omega), em13, zs_o _ _ (by omega), em6, zs_at]; show _ = if p = a then _ else σ.2 p; split <;> first | rfl | exact (hσ p p0 p1).2)⟩), (fun x x1 x2 => by rw [em15, zs_ne _ _ _ (by omega), em14, zs_ne _ _ _ (by omega), em13, zs_ne _ _ _ (by omega), em6, zs_ne _ _ _ (by omega)])⟩
      · refine z_if_ne C dX1_ask_57 (tgt := 61) (by decide) (by decide) (fun c16 => (by exfalso; omega)) (fun _ => ?_)
        exact E dX1_ask_60 ⟨(by unfold sStp; rw [← ho']; rw [if_neg (by omega), if_pos (by omega)]; intro p p0 p1; exact ⟨(by rw [em6, zs_o _ _ (by omega)]; exact (hσ p p0 p1).1), (by rw [em6, zs_at]; show _ = if p = a then _ else σ.2 p; split <;> first | rfl | exact (hσ p p0 p1).2)⟩), (fun x x1 x2 => by rw [em6, zs_ne _ _ _ (by omega)])⟩
  · exact E dX1_ask_18 ⟨(by unfold sStp; rw [if_pos (by omega)]; exact hσ), (fun x x1 x2 => rfl)⟩
set_option maxHeartbeats 4000000 in
theorem c_X1_askInTurn (l : Launch) (μ : zM) (t : Nat) (ht : zTo t) (v : zVw) (hv : zT μ t v) (ho : vOK v) (s : Int) (hs : s = 0 ∨ s = 1) : zMv l yX1_askInTurn cX1_askInTurn 6 3 72 [.inr 22, .inr t, .inl s] μ (fun (m : zM) => zAs m (sIt v (sIn v s) 25) ∧ ∀ x, x ≠ 24 → x ≠ 26 → m x = μ x) := by
  refine zMv_of (own := RX1) (by decide +kernel) rfl (Nat.le_of_ble_eq_true rfl) ?_
  intro X hX C hrm E
  subst hX
  show zJ X 6 μ 0 [(0, .inr 22), (1, .inr t), (2, .inl s)] []
  obtain ⟨hv1, hv2, hv3, hv4, hv5, hv6, hv7⟩ := id hv
  obtain ⟨ho1, ho2, ho3, ho4, ho5, ho6, ho7⟩ := id ho
  refine z_iconst C dX1_askInTurn_0 ?_
  refine z_istore_n C dX1_askInTurn_1 (by decide) (L' := [(0, _), (1, _), (2, _), (3, _)]) rfl ?_
  have LP2 : ∀ (N2 : Nat) (i : Int) (ma : zM), (0 ≤ i) → (i ≤ 10) → (∀ x, x ≠ 24 → x ≠ 26 → ma x = μ x) → (∀ p, 0 ≤ p → p < i → ma 24 p = -9) → (∀ p, 0 ≤ p → p < i → ma 26 p = (sIn v s).2 p) → (10 - i).toNat < N2 → zJ X 6 ma 2 [(0, .inr 22), (1, .inr t), (2, .inl s), (3, .inl i)] [] := by
    intro N2
    induction N2 with
    | zero => intro i ma h2_0 h2_1 h2_2 h2_3 h2_4 hN; exact absurd hN (Nat.not_lt_zero _)
    | succ N2 ih2 =>
      intro i ma h2_0 h2_1 h2_2 h2_3 h2_4 hN2
      refine z_iload_n C dX1_askInTurn_2 3 rfl ?_
      refine z_bipush C dX1_askInTurn_3 (by decide) ?_
      refine z_icmp_ge C dX1_askInTurn_5 (tgt := 69) (by decide) (by omega) (by decide) (fun c1 => ?_) (fun c1 => ?_)
      · refine z_bipush C dX1_askInTurn_69 (by decide) ?_
        refine z_istore_n C dX1_askInTurn_71 (by decide) (L' := [(0, _), (1, _), (2, _), (3, _)]) rfl ?_
        refine z_iconst C dX1_askInTurn_72 ?_
        refine z_istore C dX1_askInTurn_73 (by decide) (L' := [(0, _), (1, _), (2, _), (3, _), (4, _)]) rfl ?_
        have LP75 : ∀ (N75 : Nat) (k : Int) (mb : zM), (0 ≤ k) → (k ≤ 25) → (∀ x, x ≠ 24 → x ≠ 26 → mb x = μ x) → (zAs mb (sIt v (sIn v s) k.toNat)) → (25 - k).toNat < N75 → zJ X 6 mb 75 [(0, .inr 22), (1, .inr t), (2, .inl s), (3, .inl 25), (4, .inl k)] [] := by
          intro N75
          induction N75 with
          | zero => intro k mb h75_0 h75_1 h75_2 h75_3 hN; exact absurd hN (Nat.not_lt_zero _)
          | succ N75 ih75 =>
            intro k mb h75_0 h75_1 h75_2 h75_3 hN75
            have hB := sIt_b (v := v) (sIn_b ho s) k.toNat
            have hF := sFst_U (sIt v (sIn v s) k.toNat)
            refine z_iload C dX1_askInTurn_75 4 rfl ?_
            refine z_iload_n C dX1_askInTurn_77 3 rfl ?_
            refine z_icmp_ge C dX1_askInTurn_78 (tgt := 108) (by decide) (by omega) (by decide) (fun c2 => ?_) (fun c2 => ?_)
            · exact E dX1_askInTurn_108 ⟨(by rw [show (25 : Nat) = k.toNat by omega]; exact h75_3), h75_2⟩
            · refine z_aload_n C dX1_askInTurn_81 0 rfl ?_
              refine z_callVi C (c_X1_firstWhoWillAsk (zl X) mb (sIt v (sIn v s) k.toNat) h75_3 hB) yyX1_firstWhoWillAsk mlX1_72 (zRc_of (i := 22) C (by decide) rfl rfl) dX1_askInTurn_82 rfl rfl (Nat.le_of_ble_eq_true rfl) (by decide) (fun r3 m3 hr3 hp3 => ?_)
              obtain ⟨rfl, hp3⟩ := hp3
              rw [hp3]
              refine z_istore C dX1_askInTurn_85 (by decide) (L' := [(0, _), (1, _), (2, _), (3, _), (4, _), (5, _)]) rfl ?_
              refine z_iload C dX1_askInTurn_87 5 rfl ?_
              refine z_bipush C dX1_askInTurn_89 (by decide) ?_
              refine z_icmp_ne C dX1_askInTurn_91 (tgt := 95) (by decide) (by omega) (by decide) (fun c4 => ?_) (fun c4 => ?_)
              · refine z_aload_n C dX1_askInTurn_95 0 rfl ?_
                refine z_aload_n C dX1_askInTurn_96 1 rfl ?_
                refine z_iload C dX1_askInTurn_97 5 rfl ?_
                refine z_callVv C (c_X1_ask (zl X) mb t ht v (zT_fr hv (fun x x0 x1 => h75_2 x (by omega) (by omega))) ho (sIt v (sIn v s) k.toNat) h75_3 hB (sFst (sIt v (sIn v s) k.toNat)) (by omega)) yyX1_ask mlX1_76 (zRc_of (i := 22) C (by decide) rfl rfl) dX1_askInTurn_99 rfl rfl (Nat.le_of_ble_eq_true rfl) (by decide) (fun m5 hp5 => ?_)
                refine z_iinc C dX1_askInTurn_102 4 rfl (by decide) (L' := [(0, _), (1, _), (2, _), (3, _), (4, _), (5, _)]) rfl ?_
                refine z_goto C dX1_askInTurn_105 (tgt := 75) (by decide) ?_
                refine z_sub [0, 1, 2, 3, 4] rfl ?_; exact ih75 _ m5 (by omega) (by omega) (fun x x1 x2 => by rw [hp5.2 x x1 x2]; exact h75_2 x x1 x2) (by rw [show (k + 1).toNat = k.toNat + 1 by omega, sIt, if_neg (by omega)]; exact hp5.1) (by omega)
              · exact E dX1_askInTurn_94 ⟨(by rw [show (25 : Nat) = k.toNat + (25 - k.toNat) by omega, sIt_stop (by omega)]; exact h75_3), h75_2⟩
        exact LP75 _ 0 ma (by omega) (by omega) h2_2 (fun p p0 p1 => ⟨h2_3 p p0 (by omega), h2_4 p p0 (by omega)⟩) (Nat.lt_succ_self _)
      · refine z_aload_n C dX1_askInTurn_8 0 rfl ?_
        refine z_getR C ffX1_15 dX1_askInTurn_9 (by decide) rfl rfl ?_
        refine z_iload_n C dX1_askInTurn_12 3 rfl ?_
        refine z_bipush C dX1_askInTurn_13 (by decide) ?_
        refine z_iast C dX1_askInTurn_15 (by decide) rfl (by omega) (by decide) (by decide) ?_
        refine z_mem (fun m6 em6 => ?_)
        refine z_aload_n C dX1_askInTurn_16 1 rfl ?_
        refine z_iload_n C dX1_askInTurn_17 3 rfl ?_
        refine z_callVi C (c_X4_isThere (zl X) m6 t ht v (zT_fr hv (fun x x0 x1 => by rw [em6, zs_ne _ _ _ (by omega)]; exact h2_2 x (by omega) (by omega))) ho i (by omega)) yyX4_isThere mlX1_62 (zRc_of (i := t) C (by have := zto_lt ht; omega) (zd_to0 ht) rfl) dX1_askInTurn_18 rfl rfl (Nat.le_of_ble_eq_true rfl) (by decide) (fun r7 m7 hr7 hp7 => ?_)
        obtain ⟨rfl, hp7⟩ := hp7
        rcases hp7 with ⟨rfl, hp7⟩ | ⟨rfl, hp7⟩
        · refine z_if_eq C dX1_askInTurn_21 (tgt := 36) (by decide) (by decide) (fun c8 => (by exfalso; omega)) (fun _ => ?_)
          refine z_iload_n C dX1_askInTurn_24 3 rfl ?_
          refine z_callNi C (c_X5_sideOf (zl X) m6 i (by omega)) yyX5_sideOf (by decide +kernel) dX1_askInTurn_25 rfl rfl (Nat.le_of_ble_eq_true rfl) (by decide) (fun r9 m9 hr9 hp9 => ?_)
          obtain ⟨rfl, hp9⟩ := hp9
          rcases hp9 with ⟨hp9, rfl⟩ | ⟨hp9, rfl⟩
          · refine z_iload_n C dX1_askInTurn_28 2 rfl ?_
            refine z_icmp_ne C dX1_askInTurn_29 (tgt := 36) (by decide) (by decide) (by omega) (fun c10 => ?_) (fun c10 => ?_)
            · refine z_iconst C dX1_askInTurn_36 ?_
              refine z_istore C dX1_askInTurn_37 (by decide) (L' := [(0, _), (1, _), (2, _), (3, _), (4, _)]) rfl ?_
              refine z_aload_n C dX1_askInTurn_39 0 rfl ?_
              refine z_getR C ffX1_21 dX1_askInTurn_40 (by decide) rfl rfl ?_
              refine z_iload_n C dX1_askInTurn_43 3 rfl ?_
              refine z_iload C dX1_askInTurn_44 4 rfl ?_
              refine z_if_eq C dX1_askInTurn_46 (tgt := 61) (by decide) (by decide) (fun _ => ?_) (fun c11 => (by exfalso; omega))
              refine z_iconst C dX1_askInTurn_61 ?_
              have hval : 0 = (sIn v s).2 i := by show _ = if _ then _ else _; first | exact (if_pos (by omega)).symm | exact (if_neg (by omega)).symm
              refine z_iast C dX1_askInTurn_62 (by decide) rfl (by omega) (by decide) (by decide) ?_
              refine z_mem (fun m12 em12 => ?_)
              refine z_iinc C dX1_askInTurn_63 3 rfl (by decide) (L' := [(0, _), (1, _), (2, _), (3, _), (4, _)]) rfl ?_
              refine z_goto C dX1_askInTurn_66 (tgt := 2) (by decide) ?_
              refine z_sub [0, 1, 2, 3] rfl ?_; exact ih2 _ m12 (by omega) (by omega) (fun x x1 x2 => by rw [em12, zs_ne _ _ _ (by omega), em6, zs_ne _ _ _ (by omega)]; exact h2_2 x x1 x2) (fun p p0 p1 => by rw [em12, zs_o _ _ (by omega), em6]; exact zs_upto h2_3 rfl p p0 p1) (fun p p0 p1 => by rw [em12]; exact zs_upto (m := m6) (fun p p0 p1 => by rw [em6, zs_o _ _ (by omega)]; exact h2_4 p p0 p1) hval p p0 p1) (by omega)
            · refine z_iconst C dX1_askInTurn_32 ?_
              refine z_goto C dX1_askInTurn_33 (tgt := 37) (by decide) ?_
              refine z_istore C dX1_askInTurn_37 (by decide) (L' := [(0, _), (1, _), (2, _), (3, _), (4, _)]) rfl ?_
              refine z_aload_n C dX1_askInTurn_39 0 rfl ?_
              refine z_getR C ffX1_21 dX1_askInTurn_40 (by decide) rfl rfl ?_
              refine z_iload_n C dX1_askInTurn_43 3 rfl ?_
              refine z_iload C dX1_askInTurn_44 4 rfl ?_
              refine z_if_eq C dX1_askInTurn_46 (tgt := 61) (by decide) (by decide) (fun c13 => (by exfalso; omega)) (fun _ => ?_)
              refine z_iconst C dX1_askInTurn_49 ?_
              refine z_aload_n C dX1_askInTurn_50 1 rfl ?_
              refine z_iload_n C dX1_askInTurn_51 3 rfl ?_
              refine z_callVi C (c_X4_howManyFacing (zl X) m6 t ht v (zT_fr hv (fun x x0 x1 => by rw [em6, zs_ne _ _ _ (by omega)]; exact h2_2 x (by omega) (by omega))) ho i (by omega)) yyX4_howManyFacing mlX1_69 (zRc_of (i := t) C (by have := zto_lt ht; omega) (zd_to0 ht) rfl) dX1_askInTurn_52 rfl rfl (Nat.le_of_ble_eq_true rfl) (by decide) (fun r14 m14 hr14 hp14 => ?_)
              obtain ⟨rfl, hp14⟩ := hp14
              rw [show r14 = (if i < 5 then vR v else vL v) by split <;> omega]
              have hzs := zshl_b (if i < 5 then vR v else vL v) (by split <;> omega) (by split <;> omega)
              refine z_ishl C dX1_askInTurn_55 ?_
              refine z_iconst C dX1_askInTurn_56 ?_
              refine z_isub C dX1_askInTurn_57 ?_
              refine z_goto C dX1_askInTurn_58 (tgt := 62) (by decide) ?_
              have hval : ((zshl 1 (if i < 5 then vR v else vL v)) - 1) = (sIn v s).2 i := by show _ = if _ then _ else _; first | exact (if_pos (by omega)).symm | exact (if_neg (by omega)).symm
              refine z_iast C dX1_askInTurn_62 (by decide) rfl (by omega) (by decide) (by omega) ?_
              refine z_mem (fun m15 em15 => ?_)
              refine z_iinc C dX1_askInTurn_63 3 rfl (by decide) (L' := [(0, _), (1, _), (2, _), (3, _), (4, _)]) rfl ?_
              refine z_goto C dX1_askInTurn_66 (tgt := 2) (by decide) ?_
              refine z_sub [0, 1, 2, 3] rfl ?_; exact ih2 _ m15 (by omega) (by omega) (fun x x1 x2 => by rw [em15, zs_ne _ _ _ (by omega), em6, zs_ne _ _ _ (by omega)]; exact h2_2 x x1 x2) (fun p p0 p1 => by rw [em15, zs_o _ _ (by omega), em6]; exact zs_upto h2_3 rfl p p0 p1) (fun p p0 p1 => by rw [em15]; exact zs_upto (m := m6) (fun p p0 p1 => by rw [em6, zs_o _ _ (by omega)]; exact h2_4 p p0 p1) hval p p0 p1) (by omega)
          · refine z_iload_n C dX1_askInTurn_28 2 rfl ?_
            refine z_icmp_ne C dX1_askInTurn_29 (tgt := 36) (by decide) (by decide) (by omega) (fun c16 => ?_) (fun c16 => ?_)
            · refine z_iconst C dX1_askInTurn_36 ?_
              refine z_istore C dX1_askInTurn_37 (by decide) (L' := [(0, _), (1, _), (2, _), (3, _), (4, _)]) rfl ?_
              refine z_aload_n C dX1_askInTurn_39 0 rfl ?_
              refine z_getR C ffX1_21 dX1_askInTurn_40 (by decide) rfl rfl ?_
              refine z_iload_n C dX1_askInTurn_43 3 rfl ?_
              refine z_iload C dX1_askInTurn_44 4 rfl ?_
              refine z_if_eq C dX1_askInTurn_46 (tgt := 61) (by decide) (by decide) (fun _ => ?_) (fun c17 => (by exfalso; omega))
              refine z_iconst C dX1_askInTurn_61 ?_
              have hval : 0 = (sIn v s).2 i := by show _ = if _ then _ else _; first | exact (if_pos (by omega)).symm | exact (if_neg (by omega)).symm
              refine z_iast C dX1_askInTurn_62 (by decide) rfl (by omega) (by decide) (by decide) ?_
              refine z_mem (fun m18 em18 => ?_)
              refine z_iinc C dX1_askInTurn_63 3 rfl (by decide) (L' := [(0, _), (1, _), (2, _), (3, _), (4, _)]) rfl ?_
              refine z_goto C dX1_askInTurn_66 (tgt := 2) (by decide) ?_
              refine z_sub [0, 1, 2, 3] rfl ?_; exact ih2 _ m18 (by omega) (by omega) (fun x x1 x2 => by rw [em18, zs_ne _ _ _ (by omega), em6, zs_ne _ _ _ (by omega)]; exact h2_2 x x1 x2) (fun p p0 p1 => by rw [em18, zs_o _ _ (by omega), em6]; exact zs_upto h2_3 rfl p p0 p1) (fun p p0 p1 => by rw [em18]; exact zs_upto (m := m6) (fun p p0 p1 => by rw [em6, zs_o _ _ (by omega)]; exact h2_4 p p0 p1) hval p p0 p1) (by omega)
            · refine z_iconst C dX1_askInTurn_32 ?_
              refine z_goto C dX1_askInTurn_33 (tgt := 37) (by decide) ?_
              refine z_istore C dX1_askInTurn_37 (by decide) (L' := [(0, _), (1, _), (2, _), (3, _), (4, _)]) rfl ?_
              refine z_aload_n C dX1_askInTurn_39 0 rfl ?_
              refine z_getR C ffX1_21 dX1_askInTurn_40 (by decide) rfl rfl ?_
              refine z_iload_n C dX1_askInTurn_43 3 rfl ?_
              refine z_iload C dX1_askInTurn_44 4 rfl ?_
              refine z_if_eq C dX1_askInTurn_46 (tgt := 61) (by decide) (by decide) (fun c19 => (by exfalso; omega)) (fun _ => ?_)
              refine z_iconst C dX1_askInTurn_49 ?_
              refine z_aload_n C dX1_askInTurn_50 1 rfl ?_
              refine z_iload_n C dX1_askInTurn_51 3 rfl ?_
              refine z_callVi C (c_X4_howManyFacing (zl X) m6 t ht v (zT_fr hv (fun x x0 x1 => by rw [em6, zs_ne _ _ _ (by omega)]; exact h2_2 x (by omega) (by omega))) ho i (by omega)) yyX4_howManyFacing mlX1_69 (zRc_of (i := t) C (by have := zto_lt ht; omega) (zd_to0 ht) rfl) dX1_askInTurn_52 rfl rfl (Nat.le_of_ble_eq_true rfl) (by decide) (fun r20 m20 hr20 hp20 => ?_)
              obtain ⟨rfl, hp20⟩ := hp20
              rw [show r20 = (if i < 5 then vR v else vL v) by split <;> omega]
              have hzs := zshl_b (if i < 5 then vR v else vL v) (by split <;> omega) (by split <;> omega)
              refine z_ishl C dX1_askInTurn_55 ?_
              refine z_iconst C dX1_askInTurn_56 ?_
              refine z_isub C dX1_askInTurn_57 ?_
              refine z_goto C dX1_askInTurn_58 (tgt := 62) (by decide) ?_
              have hval : ((zshl 1 (if i < 5 then vR v else vL v)) - 1) = (sIn v s).2 i := by show _ = if _ then _ else _; first | exact (if_pos (by omega)).symm | exact (if_neg (by omega)).symm
              refine z_iast C dX1_askInTurn_62 (by decide) rfl (by omega) (by decide) (by omega) ?_
              refine z_mem (fun m21 em21 => ?_)
              refine z_iinc C dX1_askInTurn_63 3 rfl (by decide) (L' := [(0, _), (1, _), (2, _), (3, _), (4, _)]) rfl ?_
              refine z_goto C dX1_askInTurn_66 (tgt := 2) (by decide) ?_
              refine z_sub [0, 1, 2, 3] rfl ?_; exact ih2 _ m21 (by omega) (by omega) (fun x x1 x2 => by rw [em21, zs_ne _ _ _ (by omega), em6, zs_ne _ _ _ (by omega)]; exact h2_2 x x1 x2) (fun p p0 p1 => by rw [em21, zs_o _ _ (by omega), em6]; exact zs_upto h2_3 rfl p p0 p1) (fun p p0 p1 => by rw [em21]; exact zs_upto (m := m6) (fun p p0 p1 => by rw [em6, zs_o _ _ (by omega)]; exact h2_4 p p0 p1) hval p p0 p1) (by omega)
        · refine z_if_eq C dX1_askInTurn_21 (tgt := 36) (by decide) (by decide) (fun _ => ?_) (fun c22 => (by exfalso; omega))
          refine z_iconst C dX1_askInTurn_36 ?_
          refine z_istore C dX1_askInTurn_37 (by decide) (L' := [(0, _), (1, _), (2, _), (3, _), (4, _)]) rfl ?_
          refine z_aload_n C dX1_askInTurn_39 0 rfl ?_
          refine z_getR C ffX1_21 dX1_askInTurn_40 (by decide) rfl rfl ?_
          refine z_iload_n C dX1_askInTurn_43 3 rfl ?_
          refine z_iload C dX1_askInTurn_44 4 rfl ?_
          refine z_if_eq C dX1_askInTurn_46 (tgt := 61) (by decide) (by decide) (fun _ => ?_) (fun c23 => (by exfalso; omega))
          refine z_iconst C dX1_askInTurn_61 ?_
          have hval : 0 = (sIn v s).2 i := by show _ = if _ then _ else _; first | exact (if_pos (by omega)).symm | exact (if_neg (by omega)).symm
          refine z_iast C dX1_askInTurn_62 (by decide) rfl (by omega) (by decide) (by decide) ?_
          refine z_mem (fun m24 em24 => ?_)
          refine z_iinc C dX1_askInTurn_63 3 rfl (by decide) (L' := [(0, _), (1, _), (2, _), (3, _), (4, _)]) rfl ?_
          refine z_goto C dX1_askInTurn_66 (tgt := 2) (by decide) ?_
          refine z_sub [0, 1, 2, 3] rfl ?_; exact ih2 _ m24 (by omega) (by omega) (fun x x1 x2 => by rw [em24, zs_ne _ _ _ (by omega), em6, zs_ne _ _ _ (by omega)]; exact h2_2 x x1 x2) (fun p p0 p1 => by rw [em24, zs_o _ _ (by omega), em6]; exact zs_upto h2_3 rfl p p0 p1) (fun p p0 p1 => by rw [em24]; exact zs_upto (m := m6) (fun p p0 p1 => by rw [em6, zs_o _ _ (by omega)]; exact h2_4 p p0 p1) hval p p0 p1) (by omega)
  exact LP2 _ 0 μ (by omega) (by omega) (fun _ _ _ => rfl) (fun p p0 p1 => by omega) (fun p p0 p1 => by omega) (Nat.lt_succ_self _)
end
