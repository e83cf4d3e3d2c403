section
-- ===== PART A: goes FIRST, ahead of the names: the tables' words, and 'selects' of the private methods out of them =====
/-- a private method of a class that the tables say can be made, by its rows of tables_1 -/
def lw_okq (q : MethodName × Nat) : Prop := (q.1.cls ≠ "java/lang/invoke/MethodHandle" ∧ q.1.cls ≠ "java/lang/invoke/VarHandle") ∧ Cond.instantiable q.1.cls q.2 ∈ tables_1 ∧ Cond.privateMethod q.1 ∈ tables_1 ∧ Cond.instanceMethod q.1 ∈ tables_1
theorem lw_p0 : lw_okq (⟨"EightMinutes", "refuse", "(I)I"⟩, 11) := ⟨⟨by decide +kernel, by decide +kernel⟩, List.mem_of_getElem? (i := 17) (by decide +kernel), List.mem_of_getElem? (i := 181) (by decide +kernel), List.mem_of_getElem? (i := 182) (by decide +kernel)⟩
theorem lw_p1 : lw_okq (⟨"EightMinutes$Script", "carryOutOne", "(LEightMinutes$Told;I)Z"⟩, 2) := ⟨⟨by decide +kernel, by decide +kernel⟩, List.mem_of_getElem? (i := 69) (by decide +kernel), List.mem_of_getElem? (i := 340) (by decide +kernel), List.mem_of_getElem? (i := 341) (by decide +kernel)⟩
theorem lw_p2 : lw_okq (⟨"EightMinutes$Script", "kindAt", "(I)I"⟩, 2) := ⟨⟨by decide +kernel, by decide +kernel⟩, List.mem_of_getElem? (i := 69) (by decide +kernel), List.mem_of_getElem? (i := 344) (by decide +kernel), List.mem_of_getElem? (i := 345) (by decide +kernel)⟩
theorem lw_p3 : lw_okq (⟨"EightMinutes$Script", "digitAt", "(I)I"⟩, 2) := ⟨⟨by decide +kernel, by decide +kernel⟩, List.mem_of_getElem? (i := 69) (by decide +kernel), List.mem_of_getElem? (i := 348) (by decide +kernel), List.mem_of_getElem? (i := 349) (by decide +kernel)⟩
theorem lw_p4 : lw_okq (⟨"EightMinutes$Script", "setLiking", "(LEightMinutes$Told;I)Z"⟩, 2) := ⟨⟨by decide +kernel, by decide +kernel⟩, List.mem_of_getElem? (i := 69) (by decide +kernel), List.mem_of_getElem? (i := 360) (by decide +kernel), List.mem_of_getElem? (i := 361) (by decide +kernel)⟩
theorem lw_p5 : lw_okq (⟨"EightMinutes$Script", "setOrder", "(LEightMinutes$Told;I)Z"⟩, 2) := ⟨⟨by decide +kernel, by decide +kernel⟩, List.mem_of_getElem? (i := 69) (by decide +kernel), List.mem_of_getElem? (i := 376) (by decide +kernel), List.mem_of_getElem? (i := 377) (by decide +kernel)⟩
theorem lw_p6 : lw_okq (⟨"EightMinutes$Script", "setLaw", "(LEightMinutes$Told;I)Z"⟩, 2) := ⟨⟨by decide +kernel, by decide +kernel⟩, List.mem_of_getElem? (i := 69) (by decide +kernel), List.mem_of_getElem? (i := 380) (by decide +kernel), List.mem_of_getElem? (i := 381) (by decide +kernel)⟩
theorem lw_p7 : lw_okq (⟨"EightMinutes$Rounds", "partner", "(LEightMinutes$Told;II)I"⟩, 5) := ⟨⟨by decide +kernel, by decide +kernel⟩, List.mem_of_getElem? (i := 83) (by decide +kernel), List.mem_of_getElem? (i := 407) (by decide +kernel), List.mem_of_getElem? (i := 408) (by decide +kernel)⟩
theorem lw_p8 : lw_okq (⟨"EightMinutes$Rounds", "feelAndSay", "(LEightMinutes$Told;II)V"⟩, 5) := ⟨⟨by decide +kernel, by decide +kernel⟩, List.mem_of_getElem? (i := 83) (by decide +kernel), List.mem_of_getElem? (i := 418) (by decide +kernel), List.mem_of_getElem? (i := 419) (by decide +kernel)⟩
theorem lw_p9 : lw_okq (⟨"EightMinutes$Rounds", "feeling", "(LEightMinutes$Told;III)I"⟩, 5) := ⟨⟨by decide +kernel, by decide +kernel⟩, List.mem_of_getElem? (i := 83) (by decide +kernel), List.mem_of_getElem? (i := 422) (by decide +kernel), List.mem_of_getElem? (i := 423) (by decide +kernel)⟩
theorem lw_p10 : lw_okq (⟨"EightMinutes$Rounds", "isInShade", "(LEightMinutes$Told;III)Z"⟩, 5) := ⟨⟨by decide +kernel, by decide +kernel⟩, List.mem_of_getElem? (i := 83) (by decide +kernel), List.mem_of_getElem? (i := 430) (by decide +kernel), List.mem_of_getElem? (i := 431) (by decide +kernel)⟩
theorem lw_p11 : lw_okq (⟨"EightMinutes$Rounds", "wasAlone", "(II)Z"⟩, 5) := ⟨⟨by decide +kernel, by decide +kernel⟩, List.mem_of_getElem? (i := 83) (by decide +kernel), List.mem_of_getElem? (i := 434) (by decide +kernel), List.mem_of_getElem? (i := 435) (by decide +kernel)⟩
theorem lw_p12 : lw_okq (⟨"EightMinutes$Pairing", "firstWhoWillAsk", "()I"⟩, 4) := ⟨⟨by decide +kernel, by decide +kernel⟩, List.mem_of_getElem? (i := 112) (by decide +kernel), List.mem_of_getElem? (i := 509) (by decide +kernel), List.mem_of_getElem? (i := 510) (by decide +kernel)⟩
theorem lw_p13 : lw_okq (⟨"EightMinutes$Pairing", "ask", "(LEightMinutes$Told;I)V"⟩, 4) := ⟨⟨by decide +kernel, by decide +kernel⟩, List.mem_of_getElem? (i := 112) (by decide +kernel), List.mem_of_getElem? (i := 513) (by decide +kernel), List.mem_of_getElem? (i := 514) (by decide +kernel)⟩
theorem lw_p14 : lw_okq (⟨"EightMinutes$Pairing", "validYeses", "(LEightMinutes$Told;III)I"⟩, 4) := ⟨⟨by decide +kernel, by decide +kernel⟩, List.mem_of_getElem? (i := 112) (by decide +kernel), List.mem_of_getElem? (i := 526) (by decide +kernel), List.mem_of_getElem? (i := 527) (by decide +kernel)⟩
theorem lw_p15 : lw_okq (⟨"EightMinutes", "gotWhenAsking", "(II)I"⟩, 11) := ⟨⟨by decide +kernel, by decide +kernel⟩, List.mem_of_getElem? (i := 17) (by decide +kernel), List.mem_of_getElem? (i := 567) (by decide +kernel), List.mem_of_getElem? (i := 568) (by decide +kernel)⟩
def lw_privs_1 : List (MethodName × Nat) := [(⟨"EightMinutes", "refuse", "(I)I"⟩, 11), (⟨"EightMinutes$Script", "carryOutOne", "(LEightMinutes$Told;I)Z"⟩, 2), (⟨"EightMinutes$Script", "kindAt", "(I)I"⟩, 2), (⟨"EightMinutes$Script", "digitAt", "(I)I"⟩, 2), (⟨"EightMinutes$Script", "setLiking", "(LEightMinutes$Told;I)Z"⟩, 2), (⟨"EightMinutes$Script", "setOrder", "(LEightMinutes$Told;I)Z"⟩, 2), (⟨"EightMinutes$Script", "setLaw", "(LEightMinutes$Told;I)Z"⟩, 2), (⟨"EightMinutes$Rounds", "partner", "(LEightMinutes$Told;II)I"⟩, 5), (⟨"EightMinutes$Rounds", "feelAndSay", "(LEightMinutes$Told;II)V"⟩, 5), (⟨"EightMinutes$Rounds", "feeling", "(LEightMinutes$Told;III)I"⟩, 5), (⟨"EightMinutes$Rounds", "isInShade", "(LEightMinutes$Told;III)Z"⟩, 5), (⟨"EightMinutes$Rounds", "wasAlone", "(II)Z"⟩, 5), (⟨"EightMinutes$Pairing", "firstWhoWillAsk", "()I"⟩, 4), (⟨"EightMinutes$Pairing", "ask", "(LEightMinutes$Told;I)V"⟩, 4), (⟨"EightMinutes$Pairing", "validYeses", "(LEightMinutes$Told;III)I"⟩, 4), (⟨"EightMinutes", "gotWhenAsking", "(II)I"⟩, 11)]
theorem lw_r1 : ∀ q ∈ lw_privs_1, lw_okq q := List.forall_mem_cons.mpr ⟨lw_p0, List.forall_mem_cons.mpr ⟨lw_p1, List.forall_mem_cons.mpr ⟨lw_p2, List.forall_mem_cons.mpr ⟨lw_p3, List.forall_mem_cons.mpr ⟨lw_p4, List.forall_mem_cons.mpr ⟨lw_p5, List.forall_mem_cons.mpr ⟨lw_p6, List.forall_mem_cons.mpr ⟨lw_p7, List.forall_mem_cons.mpr ⟨lw_p8, List.forall_mem_cons.mpr ⟨lw_p9, List.forall_mem_cons.mpr ⟨lw_p10, List.forall_mem_cons.mpr ⟨lw_p11, List.forall_mem_cons.mpr ⟨lw_p12, List.forall_mem_cons.mpr ⟨lw_p13, List.forall_mem_cons.mpr ⟨lw_p14, List.forall_mem_cons.mpr ⟨lw_p15, fun _ h => absurd h List.not_mem_nil⟩⟩⟩⟩⟩⟩⟩⟩⟩⟩⟩⟩⟩⟩⟩⟩
theorem lw_p16 : lw_okq (⟨"EightMinutes$Holding", "giveByCode", "(LEightMinutes$Told;II)Z"⟩, 1) := ⟨⟨by decide +kernel, by decide +kernel⟩, List.mem_of_getElem? (i := 133) (by decide +kernel), List.mem_of_getElem? (i := 584) (by decide +kernel), List.mem_of_getElem? (i := 585) (by decide +kernel)⟩
theorem lw_p17 : lw_okq (⟨"EightMinutes$Holding", "wouldRather", "(LEightMinutes$Told;II)Z"⟩, 1) := ⟨⟨by decide +kernel, by decide +kernel⟩, List.mem_of_getElem? (i := 133) (by decide +kernel), List.mem_of_getElem? (i := 601) (by decide +kernel), List.mem_of_getElem? (i := 602) (by decide +kernel)⟩
theorem lw_p18 : lw_okq (⟨"EightMinutes", "holdAsTheRowTells", "()Z"⟩, 11) := ⟨⟨by decide +kernel, by decide +kernel⟩, List.mem_of_getElem? (i := 17) (by decide +kernel), List.mem_of_getElem? (i := 614) (by decide +kernel), List.mem_of_getElem? (i := 615) (by decide +kernel)⟩
theorem lw_p19 : lw_okq (⟨"EightMinutesModel", "no", "(I)I"⟩, 35) := ⟨⟨by decide +kernel, by decide +kernel⟩, List.mem_of_getElem? (i := 671) (by decide +kernel), List.mem_of_getElem? (i := 787) (by decide +kernel), List.mem_of_getElem? (i := 788) (by decide +kernel)⟩
theorem lw_p20 : lw_okq (⟨"EightMinutesModel", "isText", "()Z"⟩, 35) := ⟨⟨by decide +kernel, by decide +kernel⟩, List.mem_of_getElem? (i := 671) (by decide +kernel), List.mem_of_getElem? (i := 795) (by decide +kernel), List.mem_of_getElem? (i := 796) (by decide +kernel)⟩
theorem lw_p21 : lw_okq (⟨"EightMinutesModel", "takesStatement", "()Z"⟩, 35) := ⟨⟨by decide +kernel, by decide +kernel⟩, List.mem_of_getElem? (i := 671) (by decide +kernel), List.mem_of_getElem? (i := 799) (by decide +kernel), List.mem_of_getElem? (i := 800) (by decide +kernel)⟩
theorem lw_p22 : lw_okq (⟨"EightMinutesModel", "next", "()I"⟩, 35) := ⟨⟨by decide +kernel, by decide +kernel⟩, List.mem_of_getElem? (i := 671) (by decide +kernel), List.mem_of_getElem? (i := 803) (by decide +kernel), List.mem_of_getElem? (i := 804) (by decide +kernel)⟩
theorem lw_p23 : lw_okq (⟨"EightMinutesModel", "takesRest", "(I)Z"⟩, 35) := ⟨⟨by decide +kernel, by decide +kernel⟩, List.mem_of_getElem? (i := 671) (by decide +kernel), List.mem_of_getElem? (i := 807) (by decide +kernel), List.mem_of_getElem? (i := 808) (by decide +kernel)⟩
theorem lw_p24 : lw_okq (⟨"EightMinutesModel", "takesKind", "()Z"⟩, 35) := ⟨⟨by decide +kernel, by decide +kernel⟩, List.mem_of_getElem? (i := 671) (by decide +kernel), List.mem_of_getElem? (i := 811) (by decide +kernel), List.mem_of_getElem? (i := 812) (by decide +kernel)⟩
theorem lw_p25 : lw_okq (⟨"EightMinutesModel", "kindOf", "(I)I"⟩, 35) := ⟨⟨by decide +kernel, by decide +kernel⟩, List.mem_of_getElem? (i := 671) (by decide +kernel), List.mem_of_getElem? (i := 815) (by decide +kernel), List.mem_of_getElem? (i := 816) (by decide +kernel)⟩
theorem lw_p26 : lw_okq (⟨"EightMinutesModel", "takesOne", "()Z"⟩, 35) := ⟨⟨by decide +kernel, by decide +kernel⟩, List.mem_of_getElem? (i := 671) (by decide +kernel), List.mem_of_getElem? (i := 819) (by decide +kernel), List.mem_of_getElem? (i := 820) (by decide +kernel)⟩
theorem lw_p27 : lw_okq (⟨"EightMinutesModel", "digit", "()I"⟩, 35) := ⟨⟨by decide +kernel, by decide +kernel⟩, List.mem_of_getElem? (i := 671) (by decide +kernel), List.mem_of_getElem? (i := 823) (by decide +kernel), List.mem_of_getElem? (i := 824) (by decide +kernel)⟩
theorem lw_p28 : lw_okq (⟨"EightMinutesModel", "in", "(III)Z"⟩, 35) := ⟨⟨by decide +kernel, by decide +kernel⟩, List.mem_of_getElem? (i := 671) (by decide +kernel), List.mem_of_getElem? (i := 827) (by decide +kernel), List.mem_of_getElem? (i := 828) (by decide +kernel)⟩
theorem lw_p29 : lw_okq (⟨"EightMinutesModel", "takesThree", "()Z"⟩, 35) := ⟨⟨by decide +kernel, by decide +kernel⟩, List.mem_of_getElem? (i := 671) (by decide +kernel), List.mem_of_getElem? (i := 831) (by decide +kernel), List.mem_of_getElem? (i := 832) (by decide +kernel)⟩
theorem lw_p30 : lw_okq (⟨"EightMinutesModel", "takesTwo", "()Z"⟩, 35) := ⟨⟨by decide +kernel, by decide +kernel⟩, List.mem_of_getElem? (i := 671) (by decide +kernel), List.mem_of_getElem? (i := 835) (by decide +kernel), List.mem_of_getElem? (i := 836) (by decide +kernel)⟩
theorem lw_p31 : lw_okq (⟨"EightMinutesModel", "takes", "(I)Z"⟩, 35) := ⟨⟨by decide +kernel, by decide +kernel⟩, List.mem_of_getElem? (i := 671) (by decide +kernel), List.mem_of_getElem? (i := 839) (by decide +kernel), List.mem_of_getElem? (i := 840) (by decide +kernel)⟩
def lw_privs_2 : List (MethodName × Nat) := [(⟨"EightMinutes$Holding", "giveByCode", "(LEightMinutes$Told;II)Z"⟩, 1), (⟨"EightMinutes$Holding", "wouldRather", "(LEightMinutes$Told;II)Z"⟩, 1), (⟨"EightMinutes", "holdAsTheRowTells", "()Z"⟩, 11), (⟨"EightMinutesModel", "no", "(I)I"⟩, 35), (⟨"EightMinutesModel", "isText", "()Z"⟩, 35), (⟨"EightMinutesModel", "takesStatement", "()Z"⟩, 35), (⟨"EightMinutesModel", "next", "()I"⟩, 35), (⟨"EightMinutesModel", "takesRest", "(I)Z"⟩, 35), (⟨"EightMinutesModel", "takesKind", "()Z"⟩, 35), (⟨"EightMinutesModel", "kindOf", "(I)I"⟩, 35), (⟨"EightMinutesModel", "takesOne", "()Z"⟩, 35), (⟨"EightMinutesModel", "digit", "()I"⟩, 35), (⟨"EightMinutesModel", "in", "(III)Z"⟩, 35), (⟨"EightMinutesModel", "takesThree", "()Z"⟩, 35), (⟨"EightMinutesModel", "takesTwo", "()Z"⟩, 35), (⟨"EightMinutesModel", "takes", "(I)Z"⟩, 35)]
theorem lw_r2 : ∀ q ∈ lw_privs_2, lw_okq q := List.forall_mem_cons.mpr ⟨lw_p16, List.forall_mem_cons.mpr ⟨lw_p17, List.forall_mem_cons.mpr ⟨lw_p18, List.forall_mem_cons.mpr ⟨lw_p19, List.forall_mem_cons.mpr ⟨lw_p20, List.forall_mem_cons.mpr ⟨lw_p21, List.forall_mem_cons.mpr ⟨lw_p22, List.forall_mem_cons.mpr ⟨lw_p23, List.forall_mem_cons.mpr ⟨lw_p24, List.forall_mem_cons.mpr ⟨lw_p25, List.forall_mem_cons.mpr ⟨lw_p26, List.forall_mem_cons.mpr ⟨lw_p27, List.forall_mem_cons.mpr ⟨lw_p28, List.forall_mem_cons.mpr ⟨lw_p29, List.forall_mem_cons.mpr ⟨lw_p30, List.forall_mem_cons.mpr ⟨lw_p31, fun _ h => absurd h List.not_mem_nil⟩⟩⟩⟩⟩⟩⟩⟩⟩⟩⟩⟩⟩⟩⟩⟩
theorem lw_p32 : lw_okq (⟨"EightMinutesModel", "wrongPlace", "()I"⟩, 35) := ⟨⟨by decide +kernel, by decide +kernel⟩, List.mem_of_getElem? (i := 671) (by decide +kernel), List.mem_of_getElem? (i := 843) (by decide +kernel), List.mem_of_getElem? (i := 844) (by decide +kernel)⟩
theorem lw_p33 : lw_okq (⟨"EightMinutesModel", "isGood", "(III)Z"⟩, 35) := ⟨⟨by decide +kernel, by decide +kernel⟩, List.mem_of_getElem? (i := 671) (by decide +kernel), List.mem_of_getElem? (i := 847) (by decide +kernel), List.mem_of_getElem? (i := 848) (by decide +kernel)⟩
theorem lw_p34 : lw_okq (⟨"EightMinutesModel", "isOf", "(III)Z"⟩, 35) := ⟨⟨by decide +kernel, by decide +kernel⟩, List.mem_of_getElem? (i := 671) (by decide +kernel), List.mem_of_getElem? (i := 851) (by decide +kernel), List.mem_of_getElem? (i := 852) (by decide +kernel)⟩
theorem lw_p35 : lw_okq (⟨"EightMinutesModel", "comesAll", "()I"⟩, 35) := ⟨⟨by decide +kernel, by decide +kernel⟩, List.mem_of_getElem? (i := 671) (by decide +kernel), List.mem_of_getElem? (i := 855) (by decide +kernel), List.mem_of_getElem? (i := 856) (by decide +kernel)⟩
theorem lw_p36 : lw_okq (⟨"EightMinutesModel", "comes", "(I)V"⟩, 35) := ⟨⟨by decide +kernel, by decide +kernel⟩, List.mem_of_getElem? (i := 671) (by decide +kernel), List.mem_of_getElem? (i := 859) (by decide +kernel), List.mem_of_getElem? (i := 860) (by decide +kernel)⟩
theorem lw_p37 : lw_okq (⟨"EightMinutesModel", "newOne", "(I)V"⟩, 35) := ⟨⟨by decide +kernel, by decide +kernel⟩, List.mem_of_getElem? (i := 671) (by decide +kernel), List.mem_of_getElem? (i := 863) (by decide +kernel), List.mem_of_getElem? (i := 864) (by decide +kernel)⟩
theorem lw_p38 : lw_okq (⟨"EightMinutesModel", "otherOf", "(II)I"⟩, 35) := ⟨⟨by decide +kernel, by decide +kernel⟩, List.mem_of_getElem? (i := 671) (by decide +kernel), List.mem_of_getElem? (i := 867) (by decide +kernel), List.mem_of_getElem? (i := 868) (by decide +kernel)⟩
theorem lw_p39 : lw_okq (⟨"EightMinutesModel", "isPerson", "(I)Z"⟩, 35) := ⟨⟨by decide +kernel, by decide +kernel⟩, List.mem_of_getElem? (i := 671) (by decide +kernel), List.mem_of_getElem? (i := 875) (by decide +kernel), List.mem_of_getElem? (i := 876) (by decide +kernel)⟩
theorem lw_p40 : lw_okq (⟨"EightMinutesModel", "gapsOf", "(I)I"⟩, 35) := ⟨⟨by decide +kernel, by decide +kernel⟩, List.mem_of_getElem? (i := 671) (by decide +kernel), List.mem_of_getElem? (i := 879) (by decide +kernel), List.mem_of_getElem? (i := 880) (by decide +kernel)⟩
theorem lw_p41 : lw_okq (⟨"EightMinutesModel", "roundsNow", "()I"⟩, 35) := ⟨⟨by decide +kernel, by decide +kernel⟩, List.mem_of_getElem? (i := 671) (by decide +kernel), List.mem_of_getElem? (i := 883) (by decide +kernel), List.mem_of_getElem? (i := 884) (by decide +kernel)⟩
theorem lw_p42 : lw_okq (⟨"EightMinutesModel", "metBy", "(II)I"⟩, 35) := ⟨⟨by decide +kernel, by decide +kernel⟩, List.mem_of_getElem? (i := 671) (by decide +kernel), List.mem_of_getElem? (i := 887) (by decide +kernel), List.mem_of_getElem? (i := 888) (by decide +kernel)⟩
theorem lw_p43 : lw_okq (⟨"EightMinutesModel", "areTwo", "(II)Z"⟩, 35) := ⟨⟨by decide +kernel, by decide +kernel⟩, List.mem_of_getElem? (i := 671) (by decide +kernel), List.mem_of_getElem? (i := 895) (by decide +kernel), List.mem_of_getElem? (i := 896) (by decide +kernel)⟩
theorem lw_p44 : lw_okq (⟨"EightMinutesModel", "likingOf", "(II)I"⟩, 35) := ⟨⟨by decide +kernel, by decide +kernel⟩, List.mem_of_getElem? (i := 671) (by decide +kernel), List.mem_of_getElem? (i := 899) (by decide +kernel), List.mem_of_getElem? (i := 900) (by decide +kernel)⟩
theorem lw_p45 : lw_okq (⟨"EightMinutesModel", "isRound", "(I)Z"⟩, 35) := ⟨⟨by decide +kernel, by decide +kernel⟩, List.mem_of_getElem? (i := 671) (by decide +kernel), List.mem_of_getElem? (i := 919) (by decide +kernel), List.mem_of_getElem? (i := 920) (by decide +kernel)⟩
theorem lw_p46 : lw_okq (⟨"EightMinutesModel", "feels", "(III)I"⟩, 35) := ⟨⟨by decide +kernel, by decide +kernel⟩, List.mem_of_getElem? (i := 671) (by decide +kernel), List.mem_of_getElem? (i := 928) (by decide +kernel), List.mem_of_getElem? (i := 929) (by decide +kernel)⟩
theorem lw_p47 : lw_okq (⟨"EightMinutesModel", "tired", "(III)I"⟩, 35) := ⟨⟨by decide +kernel, by decide +kernel⟩, List.mem_of_getElem? (i := 671) (by decide +kernel), List.mem_of_getElem? (i := 932) (by decide +kernel), List.mem_of_getElem? (i := 933) (by decide +kernel)⟩
def lw_privs_3 : List (MethodName × Nat) := [(⟨"EightMinutesModel", "wrongPlace", "()I"⟩, 35), (⟨"EightMinutesModel", "isGood", "(III)Z"⟩, 35), (⟨"EightMinutesModel", "isOf", "(III)Z"⟩, 35), (⟨"EightMinutesModel", "comesAll", "()I"⟩, 35), (⟨"EightMinutesModel", "comes", "(I)V"⟩, 35), (⟨"EightMinutesModel", "newOne", "(I)V"⟩, 35), (⟨"EightMinutesModel", "otherOf", "(II)I"⟩, 35), (⟨"EightMinutesModel", "isPerson", "(I)Z"⟩, 35), (⟨"EightMinutesModel", "gapsOf", "(I)I"⟩, 35), (⟨"EightMinutesModel", "roundsNow", "()I"⟩, 35), (⟨"EightMinutesModel", "metBy", "(II)I"⟩, 35), (⟨"EightMinutesModel", "areTwo", "(II)Z"⟩, 35), (⟨"EightMinutesModel", "likingOf", "(II)I"⟩, 35), (⟨"EightMinutesModel", "isRound", "(I)Z"⟩, 35), (⟨"EightMinutesModel", "feels", "(III)I"⟩, 35), (⟨"EightMinutesModel", "tired", "(III)I"⟩, 35)]
theorem lw_r3 : ∀ q ∈ lw_privs_3, lw_okq q := List.forall_mem_cons.mpr ⟨lw_p32, List.forall_mem_cons.mpr ⟨lw_p33, List.forall_mem_cons.mpr ⟨lw_p34, List.forall_mem_cons.mpr ⟨lw_p35, List.forall_mem_cons.mpr ⟨lw_p36, List.forall_mem_cons.mpr ⟨lw_p37, List.forall_mem_cons.mpr ⟨lw_p38, List.forall_mem_cons.mpr ⟨lw_p39, List.forall_mem_cons.mpr ⟨lw_p40, List.forall_mem_cons.mpr ⟨lw_p41, List.forall_mem_cons.mpr ⟨lw_p42, List.forall_mem_cons.mpr ⟨lw_p43, List.forall_mem_cons.mpr ⟨lw_p44, List.forall_mem_cons.mpr ⟨lw_p45, List.forall_mem_cons.mpr ⟨lw_p46, List.forall_mem_cons.mpr ⟨lw_p47, fun _ h => absurd h List.not_mem_nil⟩⟩⟩⟩⟩⟩⟩⟩⟩⟩⟩⟩⟩⟩⟩⟩
theorem lw_p48 : lw_okq (⟨"EightMinutesModel", "behindOf", "(II)I"⟩, 35) := ⟨⟨by decide +kernel, by decide +kernel⟩, List.mem_of_getElem? (i := 671) (by decide +kernel), List.mem_of_getElem? (i := 936) (by decide +kernel), List.mem_of_getElem? (i := 937) (by decide +kernel)⟩
theorem lw_p49 : lw_okq (⟨"EightMinutesModel", "yesesOf", "(I)I"⟩, 35) := ⟨⟨by decide +kernel, by decide +kernel⟩, List.mem_of_getElem? (i := 671) (by decide +kernel), List.mem_of_getElem? (i := 944) (by decide +kernel), List.mem_of_getElem? (i := 945) (by decide +kernel)⟩
theorem lw_p50 : lw_okq (⟨"EightMinutesModel", "others", "(I)I"⟩, 35) := ⟨⟨by decide +kernel, by decide +kernel⟩, List.mem_of_getElem? (i := 671) (by decide +kernel), List.mem_of_getElem? (i := 948) (by decide +kernel), List.mem_of_getElem? (i := 949) (by decide +kernel)⟩
theorem lw_p51 : lw_okq (⟨"EightMinutesModel", "saysYes", "(II)Z"⟩, 35) := ⟨⟨by decide +kernel, by decide +kernel⟩, List.mem_of_getElem? (i := 671) (by decide +kernel), List.mem_of_getElem? (i := 952) (by decide +kernel), List.mem_of_getElem? (i := 953) (by decide +kernel)⟩
theorem lw_p52 : lw_okq (⟨"EightMinutesModel", "yesesTo", "(I)I"⟩, 35) := ⟨⟨by decide +kernel, by decide +kernel⟩, List.mem_of_getElem? (i := 671) (by decide +kernel), List.mem_of_getElem? (i := 956) (by decide +kernel), List.mem_of_getElem? (i := 957) (by decide +kernel)⟩
theorem lw_p53 : lw_okq (⟨"EightMinutesModel", "layRanks", "(I)V"⟩, 35) := ⟨⟨by decide +kernel, by decide +kernel⟩, List.mem_of_getElem? (i := 671) (by decide +kernel), List.mem_of_getElem? (i := 964) (by decide +kernel), List.mem_of_getElem? (i := 965) (by decide +kernel)⟩
theorem lw_p54 : lw_okq (⟨"EightMinutesModel", "nextAsker", "(III)I"⟩, 35) := ⟨⟨by decide +kernel, by decide +kernel⟩, List.mem_of_getElem? (i := 671) (by decide +kernel), List.mem_of_getElem? (i := 968) (by decide +kernel), List.mem_of_getElem? (i := 969) (by decide +kernel)⟩
theorem lw_p55 : lw_okq (⟨"EightMinutesModel", "dearest", "(II)I"⟩, 35) := ⟨⟨by decide +kernel, by decide +kernel⟩, List.mem_of_getElem? (i := 671) (by decide +kernel), List.mem_of_getElem? (i := 972) (by decide +kernel), List.mem_of_getElem? (i := 973) (by decide +kernel)⟩
theorem lw_p56 : lw_okq (⟨"EightMinutesModel", "has", "(II)Z"⟩, 35) := ⟨⟨by decide +kernel, by decide +kernel⟩, List.mem_of_getElem? (i := 671) (by decide +kernel), List.mem_of_getElem? (i := 976) (by decide +kernel), List.mem_of_getElem? (i := 977) (by decide +kernel)⟩
theorem lw_p57 : lw_okq (⟨"EightMinutesModel", "isRather", "(III)Z"⟩, 35) := ⟨⟨by decide +kernel, by decide +kernel⟩, List.mem_of_getElem? (i := 671) (by decide +kernel), List.mem_of_getElem? (i := 980) (by decide +kernel), List.mem_of_getElem? (i := 981) (by decide +kernel)⟩
theorem lw_p58 : lw_okq (⟨"EightMinutesModel", "layCounts", "(I)V"⟩, 35) := ⟨⟨by decide +kernel, by decide +kernel⟩, List.mem_of_getElem? (i := 671) (by decide +kernel), List.mem_of_getElem? (i := 992) (by decide +kernel), List.mem_of_getElem? (i := 993) (by decide +kernel)⟩
theorem lw_p59 : lw_okq (⟨"EightMinutesModel", "allPairs", "(I)I"⟩, 35) := ⟨⟨by decide +kernel, by decide +kernel⟩, List.mem_of_getElem? (i := 671) (by decide +kernel), List.mem_of_getElem? (i := 996) (by decide +kernel), List.mem_of_getElem? (i := 997) (by decide +kernel)⟩
theorem lw_p60 : lw_okq (⟨"EightMinutesModel", "pairsOf", "(I)I"⟩, 35) := ⟨⟨by decide +kernel, by decide +kernel⟩, List.mem_of_getElem? (i := 671) (by decide +kernel), List.mem_of_getElem? (i := 1000) (by decide +kernel), List.mem_of_getElem? (i := 1001) (by decide +kernel)⟩
theorem lw_p61 : lw_okq (⟨"EightMinutesModel", "shadedNow", "()I"⟩, 35) := ⟨⟨by decide +kernel, by decide +kernel⟩, List.mem_of_getElem? (i := 671) (by decide +kernel), List.mem_of_getElem? (i := 1012) (by decide +kernel), List.mem_of_getElem? (i := 1013) (by decide +kernel)⟩
theorem lw_p62 : lw_okq (⟨"EightMinutesModel", "meetAll", "()Z"⟩, 35) := ⟨⟨by decide +kernel, by decide +kernel⟩, List.mem_of_getElem? (i := 671) (by decide +kernel), List.mem_of_getElem? (i := 1020) (by decide +kernel), List.mem_of_getElem? (i := 1021) (by decide +kernel)⟩
theorem lw_p63 : lw_okq (⟨"EightMinutesModel", "layWay", "(I)Z"⟩, 35) := ⟨⟨by decide +kernel, by decide +kernel⟩, List.mem_of_getElem? (i := 671) (by decide +kernel), List.mem_of_getElem? (i := 1028) (by decide +kernel), List.mem_of_getElem? (i := 1029) (by decide +kernel)⟩
def lw_privs_4 : List (MethodName × Nat) := [(⟨"EightMinutesModel", "behindOf", "(II)I"⟩, 35), (⟨"EightMinutesModel", "yesesOf", "(I)I"⟩, 35), (⟨"EightMinutesModel", "others", "(I)I"⟩, 35), (⟨"EightMinutesModel", "saysYes", "(II)Z"⟩, 35), (⟨"EightMinutesModel", "yesesTo", "(I)I"⟩, 35), (⟨"EightMinutesModel", "layRanks", "(I)V"⟩, 35), (⟨"EightMinutesModel", "nextAsker", "(III)I"⟩, 35), (⟨"EightMinutesModel", "dearest", "(II)I"⟩, 35), (⟨"EightMinutesModel", "has", "(II)Z"⟩, 35), (⟨"EightMinutesModel", "isRather", "(III)Z"⟩, 35), (⟨"EightMinutesModel", "layCounts", "(I)V"⟩, 35), (⟨"EightMinutesModel", "allPairs", "(I)I"⟩, 35), (⟨"EightMinutesModel", "pairsOf", "(I)I"⟩, 35), (⟨"EightMinutesModel", "shadedNow", "()I"⟩, 35), (⟨"EightMinutesModel", "meetAll", "()Z"⟩, 35), (⟨"EightMinutesModel", "layWay", "(I)Z"⟩, 35)]
theorem lw_r4 : ∀ q ∈ lw_privs_4, lw_okq q := List.forall_mem_cons.mpr ⟨lw_p48, List.forall_mem_cons.mpr ⟨lw_p49, List.forall_mem_cons.mpr ⟨lw_p50, List.forall_mem_cons.mpr ⟨lw_p51, List.forall_mem_cons.mpr ⟨lw_p52, List.forall_mem_cons.mpr ⟨lw_p53, List.forall_mem_cons.mpr ⟨lw_p54, List.forall_mem_cons.mpr ⟨lw_p55, List.forall_mem_cons.mpr ⟨lw_p56, List.forall_mem_cons.mpr ⟨lw_p57, List.forall_mem_cons.mpr ⟨lw_p58, List.forall_mem_cons.mpr ⟨lw_p59, List.forall_mem_cons.mpr ⟨lw_p60, List.forall_mem_cons.mpr ⟨lw_p61, List.forall_mem_cons.mpr ⟨lw_p62, List.forall_mem_cons.mpr ⟨lw_p63, fun _ h => absurd h List.not_mem_nil⟩⟩⟩⟩⟩⟩⟩⟩⟩⟩⟩⟩⟩⟩⟩⟩
theorem lw_p64 : lw_okq (⟨"EightMinutesModel", "firstRather", "()I"⟩, 35) := ⟨⟨by decide +kernel, by decide +kernel⟩, List.mem_of_getElem? (i := 671) (by decide +kernel), List.mem_of_getElem? (i := 1032) (by decide +kernel), List.mem_of_getElem? (i := 1033) (by decide +kernel)⟩
theorem lw_p65 : lw_okq (⟨"EightMinutesModel", "wouldRather", "(II)Z"⟩, 35) := ⟨⟨by decide +kernel, by decide +kernel⟩, List.mem_of_getElem? (i := 671) (by decide +kernel), List.mem_of_getElem? (i := 1036) (by decide +kernel), List.mem_of_getElem? (i := 1037) (by decide +kernel)⟩
theorem lw_p66 : lw_okq (⟨"EightMinutesModel", "isWay", "()Z"⟩, 35) := ⟨⟨by decide +kernel, by decide +kernel⟩, List.mem_of_getElem? (i := 671) (by decide +kernel), List.mem_of_getElem? (i := 1048) (by decide +kernel), List.mem_of_getElem? (i := 1049) (by decide +kernel)⟩
theorem lw_p67 : lw_okq (⟨"EightMinutesModel", "judged", "()I"⟩, 35) := ⟨⟨by decide +kernel, by decide +kernel⟩, List.mem_of_getElem? (i := 671) (by decide +kernel), List.mem_of_getElem? (i := 1060) (by decide +kernel), List.mem_of_getElem? (i := 1061) (by decide +kernel)⟩
theorem lw_p68 : lw_okq (⟨"EightMinutesModel", "nth", "(I)I"⟩, 35) := ⟨⟨by decide +kernel, by decide +kernel⟩, List.mem_of_getElem? (i := 671) (by decide +kernel), List.mem_of_getElem? (i := 1064) (by decide +kernel), List.mem_of_getElem? (i := 1065) (by decide +kernel)⟩
theorem lw_p69 : lw_okq (⟨"EightMinutesModel", "draw", "(I)I"⟩, 35) := ⟨⟨by decide +kernel, by decide +kernel⟩, List.mem_of_getElem? (i := 671) (by decide +kernel), List.mem_of_getElem? (i := 1076) (by decide +kernel), List.mem_of_getElem? (i := 1077) (by decide +kernel)⟩
theorem lw_p70 : lw_okq (⟨"EightMinutesModel", "allGaps", "()I"⟩, 35) := ⟨⟨by decide +kernel, by decide +kernel⟩, List.mem_of_getElem? (i := 671) (by decide +kernel), List.mem_of_getElem? (i := 1095) (by decide +kernel), List.mem_of_getElem? (i := 1096) (by decide +kernel)⟩
def lw_privs_5 : List (MethodName × Nat) := [(⟨"EightMinutesModel", "firstRather", "()I"⟩, 35), (⟨"EightMinutesModel", "wouldRather", "(II)Z"⟩, 35), (⟨"EightMinutesModel", "isWay", "()Z"⟩, 35), (⟨"EightMinutesModel", "judged", "()I"⟩, 35), (⟨"EightMinutesModel", "nth", "(I)I"⟩, 35), (⟨"EightMinutesModel", "draw", "(I)I"⟩, 35), (⟨"EightMinutesModel", "allGaps", "()I"⟩, 35)]
theorem lw_r5 : ∀ q ∈ lw_privs_5, lw_okq q := List.forall_mem_cons.mpr ⟨lw_p64, List.forall_mem_cons.mpr ⟨lw_p65, List.forall_mem_cons.mpr ⟨lw_p66, List.forall_mem_cons.mpr ⟨lw_p67, List.forall_mem_cons.mpr ⟨lw_p68, List.forall_mem_cons.mpr ⟨lw_p69, List.forall_mem_cons.mpr ⟨lw_p70, fun _ h => absurd h List.not_mem_nil⟩⟩⟩⟩⟩⟩⟩
def lw_privs : List (MethodName × Nat) := lw_privs_1 ++ (lw_privs_2 ++ (lw_privs_3 ++ (lw_privs_4 ++ (lw_privs_5))))
def lw_tbl : List Cond := k2_sels lw_privs ++ tables_1
theorem lw_privs_ok : ∀ q ∈ lw_privs, lw_okq q := by
  show ∀ q ∈ lw_privs_1 ++ (lw_privs_2 ++ (lw_privs_3 ++ (lw_privs_4 ++ (lw_privs_5)))), lw_okq q
  exact List.forall_mem_append.mpr ⟨lw_r1, List.forall_mem_append.mpr ⟨lw_r2, List.forall_mem_append.mpr ⟨lw_r3, List.forall_mem_append.mpr ⟨lw_r4, lw_r5⟩⟩⟩⟩
end
section
/-! names, field tables, code and method names: out of the printed NAMES -/
def RX0 : String := "EightMinutes$Holding"
def TX0 : u_T := fun k => match k with
  | _ => ("EightMinutes$Holding", "has", "[I", true)
def tyX0 : Nat → FieldType := fun k => match k with
  | _ => .array .int
theorem nmX0 : ∀ a, a < 1 → ∀ b, b < 1 → a ≠ b → (TX0 a).2.1 ≠ (TX0 b).2.1 := by decide +kernel
theorem tyX0_ok : ∀ k, k < 1 → parseFieldDescriptor (TX0 k).2.2.1 = some (tyX0 k) := by decide +kernel
abbrev cX0_init : ByteArray := prog_2_method_1_code
def yX0_init : MethodName := ⟨RX0, "<init>", "()V"⟩
abbrev cX0_letAllGo : ByteArray := prog_2_method_2_code
def yX0_letAllGo : MethodName := ⟨RX0, "letAllGo", "()V"⟩
abbrev cX0_give : ByteArray := prog_2_method_3_code
def yX0_give : MethodName := ⟨RX0, "give", "(II)Z"⟩
abbrev cX0_firmWays : ByteArray := prog_2_method_4_code
def yX0_firmWays : MethodName := ⟨RX0, "firmWays", "(LEightMinutes$Told;)I"⟩
abbrev cX0_giveByCode : ByteArray := prog_2_method_5_code
def yX0_giveByCode : MethodName := ⟨RX0, "giveByCode", "(LEightMinutes$Told;II)Z"⟩
abbrev cX0_firstWhoWouldRather : ByteArray := prog_2_method_6_code
def yX0_firstWhoWouldRather : MethodName := ⟨RX0, "firstWhoWouldRather", "(LEightMinutes$Told;)I"⟩
abbrev cX0_wouldRather : ByteArray := prog_2_method_7_code
def yX0_wouldRather : MethodName := ⟨RX0, "wouldRather", "(LEightMinutes$Told;II)Z"⟩
def RX1 : String := "EightMinutes$Pairing"
def TX1 : u_T := fun k => match k with
  | 0 => ("EightMinutes$Pairing", "pairBits", "[I", true)
  | 1 => ("EightMinutes$Pairing", "got", "[I", true)
  | 2 => ("EightMinutes$Pairing", "valid", "[I", true)
  | _ => ("EightMinutes$Pairing", "unasked", "[I", true)
def tyX1 : Nat → FieldType := fun k => match k with
  | 0 => .array .int
  | 1 => .array .int
  | 2 => .array .int
  | _ => .array .int
theorem nmX1 : ∀ a, a < 4 → ∀ b, b < 4 → a ≠ b → (TX1 a).2.1 ≠ (TX1 b).2.1 := by decide +kernel
theorem tyX1_ok : ∀ k, k < 4 → parseFieldDescriptor (TX1 k).2.2.1 = some (tyX1 k) := by decide +kernel
abbrev cX1_init : ByteArray := prog_3_method_1_code
def yX1_init : MethodName := ⟨RX1, "<init>", "()V"⟩
abbrev cX1_settle : ByteArray := prog_3_method_2_code
def yX1_settle : MethodName := ⟨RX1, "settle", "(LEightMinutes$Told;LEightMinutes$Rounds;I)V"⟩
abbrev cX1_validYeses : ByteArray := prog_3_method_3_code
def yX1_validYeses : MethodName := ⟨RX1, "validYeses", "(LEightMinutes$Told;III)I"⟩
abbrev cX1_howMany : ByteArray := prog_3_method_4_code
def yX1_howMany : MethodName := ⟨RX1, "howMany", "()I"⟩
abbrev cX1_gladness : ByteArray := prog_3_method_5_code
def yX1_gladness : MethodName := ⟨RX1, "gladness", "(LEightMinutes$Told;)I"⟩
abbrev cX1_likedMost : ByteArray := prog_3_method_6_code
def yX1_likedMost : MethodName := ⟨RX1, "likedMost", "(LEightMinutes$Told;III)I"⟩
abbrev cX1_favourite : ByteArray := prog_3_method_7_code
def yX1_favourite : MethodName := ⟨RX1, "favourite", "(LEightMinutes$Told;II)I"⟩
abbrev cX1_askInTurn : ByteArray := prog_3_method_8_code
def yX1_askInTurn : MethodName := ⟨RX1, "askInTurn", "(LEightMinutes$Told;I)V"⟩
abbrev cX1_firstWhoWillAsk : ByteArray := prog_3_method_9_code
def yX1_firstWhoWillAsk : MethodName := ⟨RX1, "firstWhoWillAsk", "()I"⟩
abbrev cX1_ask : ByteArray := prog_3_method_10_code
def yX1_ask : MethodName := ⟨RX1, "ask", "(LEightMinutes$Told;I)V"⟩
abbrev cX1_isLikedBefore : ByteArray := prog_3_method_11_code
def yX1_isLikedBefore : MethodName := ⟨RX1, "isLikedBefore", "(LEightMinutes$Told;III)Z"⟩
def RX2 : String := "EightMinutes$Rounds"
def TX2 : u_T := fun k => match k with
  | 0 => ("EightMinutes$Rounds", "partners", "[[I", true)
  | 1 => ("EightMinutes$Rounds", "feelings", "[[I", true)
  | 2 => ("EightMinutes$Rounds", "slips", "[I", true)
  | 3 => ("EightMinutes$Rounds", "shadedRounds", "I", false)
  | _ => ("EightMinutes$Rounds", "howMany", "I", false)
def tyX2 : Nat → FieldType := fun k => match k with
  | 0 => .array (.array .int)
  | 1 => .array (.array .int)
  | 2 => .array .int
  | 3 => .int
  | _ => .int
theorem nmX2 : ∀ a, a < 5 → ∀ b, b < 5 → a ≠ b → (TX2 a).2.1 ≠ (TX2 b).2.1 := by decide +kernel
theorem tyX2_ok : ∀ k, k < 5 → parseFieldDescriptor (TX2 k).2.2.1 = some (tyX2 k) := by decide +kernel
abbrev cX2_init : ByteArray := prog_4_method_1_code
def yX2_init : MethodName := ⟨RX2, "<init>", "()V"⟩
abbrev cX2_hold : ByteArray := prog_4_method_2_code
def yX2_hold : MethodName := ⟨RX2, "hold", "(LEightMinutes$Told;)V"⟩
abbrev cX2_partner : ByteArray := prog_4_method_3_code
def yX2_partner : MethodName := ⟨RX2, "partner", "(LEightMinutes$Told;II)I"⟩
abbrev cX2_feelAndSay : ByteArray := prog_4_method_4_code
def yX2_feelAndSay : MethodName := ⟨RX2, "feelAndSay", "(LEightMinutes$Told;II)V"⟩
abbrev cX2_feeling : ByteArray := prog_4_method_5_code
def yX2_feeling : MethodName := ⟨RX2, "feeling", "(LEightMinutes$Told;III)I"⟩
abbrev cX2_isInShade : ByteArray := prog_4_method_6_code
def yX2_isInShade : MethodName := ⟨RX2, "isInShade", "(LEightMinutes$Told;III)Z"⟩
abbrev cX2_wasAlone : ByteArray := prog_4_method_7_code
def yX2_wasAlone : MethodName := ⟨RX2, "wasAlone", "(II)Z"⟩
abbrev cX2_gaps : ByteArray := prog_4_method_8_code
def yX2_gaps : MethodName := ⟨RX2, "gaps", "(I)I"⟩
abbrev cX2_allGaps : ByteArray := prog_4_method_9_code
def yX2_allGaps : MethodName := ⟨RX2, "allGaps", "(LEightMinutes$Told;)I"⟩
abbrev cX2_saysYes : ByteArray := prog_4_method_10_code
def yX2_saysYes : MethodName := ⟨RX2, "saysYes", "(II)Z"⟩
abbrev cX2_slipsFor : ByteArray := prog_4_method_11_code
def yX2_slipsFor : MethodName := ⟨RX2, "slipsFor", "(I)I"⟩
abbrev cX2_letAllMeetAll : ByteArray := prog_4_method_12_code
def yX2_letAllMeetAll : MethodName := ⟨RX2, "letAllMeetAll", "(LEightMinutes$Told;)Z"⟩
def RX3 : String := "EightMinutes$Script"
def TX3 : u_T := fun k => match k with
  | 0 => ("EightMinutes$Script", "letters", "[I", true)
  | _ => ("EightMinutes$Script", "length", "I", false)
def tyX3 : Nat → FieldType := fun k => match k with
  | 0 => .array .int
  | _ => .int
theorem nmX3 : ∀ a, a < 2 → ∀ b, b < 2 → a ≠ b → (TX3 a).2.1 ≠ (TX3 b).2.1 := by decide +kernel
theorem tyX3_ok : ∀ k, k < 2 → parseFieldDescriptor (TX3 k).2.2.1 = some (tyX3 k) := by decide +kernel
abbrev cX3_init : ByteArray := prog_5_method_1_code
def yX3_init : MethodName := ⟨RX3, "<init>", "()V"⟩
abbrev cX3_isFull : ByteArray := prog_5_method_2_code
def yX3_isFull : MethodName := ⟨RX3, "isFull", "()Z"⟩
abbrev cX3_add : ByteArray := prog_5_method_3_code
def yX3_add : MethodName := ⟨RX3, "add", "(I)I"⟩
abbrev cX3_forget : ByteArray := prog_5_method_4_code
def yX3_forget : MethodName := ⟨RX3, "forget", "()V"⟩
abbrev cX3_firstBadLetter : ByteArray := prog_5_method_5_code
def yX3_firstBadLetter : MethodName := ⟨RX3, "firstBadLetter", "()I"⟩
abbrev cX3_formBehind : ByteArray := prog_5_method_6_code
def yX3_formBehind : MethodName := ⟨RX3, "formBehind", "(I)Ljava/lang/String;"⟩
abbrev cX3_fits : ByteArray := prog_5_method_7_code
def yX3_fits : MethodName := ⟨RX3, "fits", "(CI)Z"⟩
abbrev cX3_statements : ByteArray := prog_5_method_8_code
def yX3_statements : MethodName := ⟨RX3, "statements", "()I"⟩
abbrev cX3_carryOut : ByteArray := prog_5_method_9_code
def yX3_carryOut : MethodName := ⟨RX3, "carryOut", "(LEightMinutes$Told;)I"⟩
abbrev cX3_carryOutOne : ByteArray := prog_5_method_10_code
def yX3_carryOutOne : MethodName := ⟨RX3, "carryOutOne", "(LEightMinutes$Told;I)Z"⟩
abbrev cX3_setLiking : ByteArray := prog_5_method_11_code
def yX3_setLiking : MethodName := ⟨RX3, "setLiking", "(LEightMinutes$Told;I)Z"⟩
abbrev cX3_setOrder : ByteArray := prog_5_method_12_code
def yX3_setOrder : MethodName := ⟨RX3, "setOrder", "(LEightMinutes$Told;I)Z"⟩
abbrev cX3_setLaw : ByteArray := prog_5_method_13_code
def yX3_setLaw : MethodName := ⟨RX3, "setLaw", "(LEightMinutes$Told;I)Z"⟩
abbrev cX3_kindAt : ByteArray := prog_5_method_14_code
def yX3_kindAt : MethodName := ⟨RX3, "kindAt", "(I)I"⟩
abbrev cX3_digitAt : ByteArray := prog_5_method_15_code
def yX3_digitAt : MethodName := ⟨RX3, "digitAt", "(I)I"⟩
def RX4 : String := "EightMinutes$Told"
def TX4 : u_T := fun k => match k with
  | 0 => ("EightMinutes$Told", "people", "[I", true)
  | 1 => ("EightMinutes$Told", "kinds", "[I", true)
  | 2 => ("EightMinutes$Told", "bars", "[I", true)
  | 3 => ("EightMinutes$Told", "likings", "[I", true)
  | 4 => ("EightMinutes$Told", "step", "I", false)
  | 5 => ("EightMinutes$Told", "shift", "I", false)
  | _ => ("EightMinutes$Told", "law", "I", false)
def tyX4 : Nat → FieldType := fun k => match k with
  | 0 => .array .int
  | 1 => .array .int
  | 2 => .array .int
  | 3 => .array .int
  | 4 => .int
  | 5 => .int
  | _ => .int
theorem nmX4 : ∀ a, a < 7 → ∀ b, b < 7 → a ≠ b → (TX4 a).2.1 ≠ (TX4 b).2.1 := by decide +kernel
theorem tyX4_ok : ∀ k, k < 7 → parseFieldDescriptor (TX4 k).2.2.1 = some (tyX4 k) := by decide +kernel
abbrev cX4_init : ByteArray := prog_6_method_1_code
def yX4_init : MethodName := ⟨RX4, "<init>", "()V"⟩
abbrev cX4_become : ByteArray := prog_6_method_2_code
def yX4_become : MethodName := ⟨RX4, "become", "(LEightMinutes$Told;)V"⟩
abbrev cX4_isThere : ByteArray := prog_6_method_3_code
def yX4_isThere : MethodName := ⟨RX4, "isThere", "(I)Z"⟩
abbrev cX4_areUnlike : ByteArray := prog_6_method_4_code
def yX4_areUnlike : MethodName := ⟨RX4, "areUnlike", "(II)Z"⟩
abbrev cX4_howManyPeople : ByteArray := prog_6_method_5_code
def yX4_howManyPeople : MethodName := ⟨RX4, "howManyPeople", "()I"⟩
abbrev cX4_howManyFacing : ByteArray := prog_6_method_6_code
def yX4_howManyFacing : MethodName := ⟨RX4, "howManyFacing", "(I)I"⟩
abbrev cX4_rounds : ByteArray := prog_6_method_7_code
def yX4_rounds : MethodName := ⟨RX4, "rounds", "()I"⟩
abbrev cX4_isRound : ByteArray := prog_6_method_8_code
def yX4_isRound : MethodName := ⟨RX4, "isRound", "(I)Z"⟩
abbrev cX4_likes : ByteArray := prog_6_method_9_code
def yX4_likes : MethodName := ⟨RX4, "likes", "(II)I"⟩
abbrev cX4_setLiking : ByteArray := prog_6_method_10_code
def yX4_setLiking : MethodName := ⟨RX4, "setLiking", "(III)V"⟩
abbrev cX4_addPerson : ByteArray := prog_6_method_11_code
def yX4_addPerson : MethodName := ⟨RX4, "addPerson", "(III)Z"⟩
abbrev cX4_drawLikings : ByteArray := prog_6_method_12_code
def yX4_drawLikings : MethodName := ⟨RX4, "drawLikings", "(I)I"⟩
def RX5 : String := "EightMinutes"
def TX5 : u_T := fun k => match k with
  | 0 => ("EightMinutes", "told", "LEightMinutes$Told;", true)
  | 1 => ("EightMinutes", "mind", "LEightMinutes$Told;", true)
  | 2 => ("EightMinutes", "kept", "LEightMinutes$Told;", true)
  | 3 => ("EightMinutes", "isKept", "Z", false)
  | 4 => ("EightMinutes", "script", "LEightMinutes$Script;", true)
  | 5 => ("EightMinutes", "rounds", "LEightMinutes$Rounds;", true)
  | 6 => ("EightMinutes", "pairing", "LEightMinutes$Pairing;", true)
  | 7 => ("EightMinutes", "holding", "LEightMinutes$Holding;", true)
  | 8 => ("EightMinutes", "slipRow", "[I", true)
  | 9 => ("EightMinutes", "inRow", "I", false)
  | _ => ("EightMinutes", "refusals", "[I", true)
def tyX5 : Nat → FieldType := fun k => match k with
  | 0 => .object "EightMinutes$Told"
  | 1 => .object "EightMinutes$Told"
  | 2 => .object "EightMinutes$Told"
  | 3 => .boolean
  | 4 => .object "EightMinutes$Script"
  | 5 => .object "EightMinutes$Rounds"
  | 6 => .object "EightMinutes$Pairing"
  | 7 => .object "EightMinutes$Holding"
  | 8 => .array .int
  | 9 => .int
  | _ => .array .int
theorem nmX5 : ∀ a, a < 11 → ∀ b, b < 11 → a ≠ b → (TX5 a).2.1 ≠ (TX5 b).2.1 := by decide +kernel
theorem tyX5_ok : ∀ k, k < 11 → parseFieldDescriptor (TX5 k).2.2.1 = some (tyX5 k) := by decide +kernel
abbrev cX5_init : ByteArray := prog_1_method_1_code
def yX5_init : MethodName := ⟨RX5, "<init>", "()V"⟩
abbrev cX5_letter : ByteArray := prog_1_method_2_code
def yX5_letter : MethodName := ⟨RX5, "letter", "(I)I"⟩
abbrev cX5_evening : ByteArray := prog_1_method_3_code
def yX5_evening : MethodName := ⟨RX5, "evening", "()I"⟩
abbrev cX5_person : ByteArray := prog_1_method_4_code
def yX5_person : MethodName := ⟨RX5, "person", "(II)I"⟩
abbrev cX5_liking : ByteArray := prog_1_method_5_code
def yX5_liking : MethodName := ⟨RX5, "liking", "(II)I"⟩
abbrev cX5_like : ByteArray := prog_1_method_6_code
def yX5_like : MethodName := ⟨RX5, "like", "(III)I"⟩
abbrev cX5_order : ByteArray := prog_1_method_7_code
def yX5_order : MethodName := ⟨RX5, "order", "(II)I"⟩
abbrev cX5_law : ByteArray := prog_1_method_8_code
def yX5_law : MethodName := ⟨RX5, "law", "(I)I"⟩
abbrev cX5_meets : ByteArray := prog_1_method_9_code
def yX5_meets : MethodName := ⟨RX5, "meets", "(II)I"⟩
abbrev cX5_felt : ByteArray := prog_1_method_10_code
def yX5_felt : MethodName := ⟨RX5, "felt", "(II)I"⟩
abbrev cX5_yeses : ByteArray := prog_1_method_11_code
def yX5_yeses : MethodName := ⟨RX5, "yeses", "(II)I"⟩
abbrev cX5_pairs : ByteArray := prog_1_method_12_code
def yX5_pairs : MethodName := ⟨RX5, "pairs", "(I)I"⟩
abbrev cX5_glad : ByteArray := prog_1_method_13_code
def yX5_glad : MethodName := ⟨RX5, "glad", "(II)I"⟩
abbrev cX5_shaded : ByteArray := prog_1_method_14_code
def yX5_shaded : MethodName := ⟨RX5, "shaded", "()I"⟩
abbrev cX5_bestOrder : ByteArray := prog_1_method_15_code
def yX5_bestOrder : MethodName := ⟨RX5, "bestOrder", "()I"⟩
abbrev cX5_ranks : ByteArray := prog_1_method_16_code
def yX5_ranks : MethodName := ⟨RX5, "ranks", "(I)I"⟩
abbrev cX5_asked : ByteArray := prog_1_method_17_code
def yX5_asked : MethodName := ⟨RX5, "asked", "(I)I"⟩
abbrev cX5_firm : ByteArray := prog_1_method_18_code
def yX5_firm : MethodName := ⟨RX5, "firm", "()I"⟩
abbrev cX5_row : ByteArray := prog_1_method_19_code
def yX5_row : MethodName := ⟨RX5, "row", "(I)I"⟩
abbrev cX5_rather : ByteArray := prog_1_method_20_code
def yX5_rather : MethodName := ⟨RX5, "rather", "()I"⟩
abbrev cX5_truly : ByteArray := prog_1_method_21_code
def yX5_truly : MethodName := ⟨RX5, "truly", "(II)I"⟩
abbrev cX5_judge : ByteArray := prog_1_method_22_code
def yX5_judge : MethodName := ⟨RX5, "judge", "()I"⟩
abbrev cX5_clear : ByteArray := prog_1_method_23_code
def yX5_clear : MethodName := ⟨RX5, "clear", "()I"⟩
abbrev cX5_lots : ByteArray := prog_1_method_24_code
def yX5_lots : MethodName := ⟨RX5, "lots", "(II)I"⟩
abbrev cX5_image : ByteArray := prog_1_method_25_code
def yX5_image : MethodName := ⟨RX5, "image", "()I"⟩
abbrev cX5_on : ByteArray := prog_1_method_26_code
def yX5_on : MethodName := ⟨RX5, "on", "()I"⟩
abbrev cX5_count : ByteArray := prog_1_method_27_code
def yX5_count : MethodName := ⟨RX5, "count", "(I)I"⟩
abbrev cX5_refuse : ByteArray := prog_1_method_28_code
def yX5_refuse : MethodName := ⟨RX5, "refuse", "(I)I"⟩
abbrev cX5_gotWhenAsking : ByteArray := prog_1_method_29_code
def yX5_gotWhenAsking : MethodName := ⟨RX5, "gotWhenAsking", "(II)I"⟩
abbrev cX5_holdAsTheRowTells : ByteArray := prog_1_method_30_code
def yX5_holdAsTheRowTells : MethodName := ⟨RX5, "holdAsTheRowTells", "()Z"⟩
abbrev cX5_isLaw : ByteArray := prog_1_method_31_code
def yX5_isLaw : MethodName := ⟨RX5, "isLaw", "(I)Z"⟩
abbrev cX5_sideOf : ByteArray := prog_1_method_32_code
def yX5_sideOf : MethodName := ⟨RX5, "sideOf", "(I)I"⟩
abbrev cX5_bitOf : ByteArray := prog_1_method_33_code
def yX5_bitOf : MethodName := ⟨RX5, "bitOf", "(I)I"⟩
abbrev cX5_otherStart : ByteArray := prog_1_method_34_code
def yX5_otherStart : MethodName := ⟨RX5, "otherStart", "(I)I"⟩
def RX6 : String := "EightMinutesModel"
def TX6 : u_T := fun k => match k with
  | 0 => ("EightMinutesModel", "lefts", "I", false)
  | 1 => ("EightMinutesModel", "rights", "I", false)
  | 2 => ("EightMinutesModel", "step", "I", false)
  | 3 => ("EightMinutesModel", "shift", "I", false)
  | 4 => ("EightMinutesModel", "law", "I", false)
  | 5 => ("EightMinutesModel", "fed", "I", false)
  | 6 => ("EightMinutesModel", "rows", "I", false)
  | 7 => ("EightMinutesModel", "kind", "[I", true)
  | 8 => ("EightMinutesModel", "bar", "[I", true)
  | 9 => ("EightMinutesModel", "likes", "[I", true)
  | 10 => ("EightMinutesModel", "text", "[I", true)
  | 11 => ("EightMinutesModel", "row", "[I", true)
  | 12 => ("EightMinutesModel", "refused", "[I", true)
  | 13 => ("EightMinutesModel", "place", "I", false)
  | 14 => ("EightMinutesModel", "one", "I", false)
  | 15 => ("EightMinutesModel", "two", "I", false)
  | 16 => ("EightMinutesModel", "three", "I", false)
  | 17 => ("EightMinutesModel", "sort", "I", false)
  | 18 => ("EightMinutesModel", "asks", "[I", true)
  | 19 => ("EightMinutesModel", "keeps", "[I", true)
  | 20 => ("EightMinutesModel", "gets", "[I", true)
  | 21 => ("EightMinutesModel", "counts", "[I", true)
  | 22 => ("EightMinutesModel", "leftHas", "[I", true)
  | 23 => ("EightMinutesModel", "rightHas", "[I", true)
  | 24 => ("EightMinutesModel", "seed", "I", false)
  | 25 => ("EightMinutesModel", "keptLikes", "[I", true)
  | 26 => ("EightMinutesModel", "hasImage", "Z", false)
  | 27 => ("EightMinutesModel", "imageLefts", "I", false)
  | 28 => ("EightMinutesModel", "imageRights", "I", false)
  | 29 => ("EightMinutesModel", "imageStep", "I", false)
  | 30 => ("EightMinutesModel", "imageShift", "I", false)
  | 31 => ("EightMinutesModel", "imageLaw", "I", false)
  | 32 => ("EightMinutesModel", "imageKind", "[I", true)
  | 33 => ("EightMinutesModel", "imageBar", "[I", true)
  | _ => ("EightMinutesModel", "imageLikes", "[I", true)
def tyX6 : Nat → FieldType := fun k => match k with
  | 0 => .int
  | 1 => .int
  | 2 => .int
  | 3 => .int
  | 4 => .int
  | 5 => .int
  | 6 => .int
  | 7 => .array .int
  | 8 => .array .int
  | 9 => .array .int
  | 10 => .array .int
  | 11 => .array .int
  | 12 => .array .int
  | 13 => .int
  | 14 => .int
  | 15 => .int
  | 16 => .int
  | 17 => .int
  | 18 => .array .int
  | 19 => .array .int
  | 20 => .array .int
  | 21 => .array .int
  | 22 => .array .int
  | 23 => .array .int
  | 24 => .int
  | 25 => .array .int
  | 26 => .boolean
  | 27 => .int
  | 28 => .int
  | 29 => .int
  | 30 => .int
  | 31 => .int
  | 32 => .array .int
  | 33 => .array .int
  | _ => .array .int
theorem nmX6 : ∀ a, a < 35 → ∀ b, b < 35 → a ≠ b → (TX6 a).2.1 ≠ (TX6 b).2.1 := by decide +kernel
theorem tyX6_ok : ∀ k, k < 35 → parseFieldDescriptor (TX6 k).2.2.1 = some (tyX6 k) := by decide +kernel
abbrev cX6_init : ByteArray := prog_8_method_1_code
def yX6_init : MethodName := ⟨RX6, "<init>", "()V"⟩
abbrev cX6_in : ByteArray := prog_8_method_2_code
def yX6_in : MethodName := ⟨RX6, "in", "(III)Z"⟩
abbrev cX6_has : ByteArray := prog_8_method_3_code
def yX6_has : MethodName := ⟨RX6, "has", "(II)Z"⟩
abbrev cX6_no : ByteArray := prog_8_method_4_code
def yX6_no : MethodName := ⟨RX6, "no", "(I)I"⟩
abbrev cX6_isOf : ByteArray := prog_8_method_5_code
def yX6_isOf : MethodName := ⟨RX6, "isOf", "(III)Z"⟩
abbrev cX6_isPerson : ByteArray := prog_8_method_6_code
def yX6_isPerson : MethodName := ⟨RX6, "isPerson", "(I)Z"⟩
abbrev cX6_areTwo : ByteArray := prog_8_method_7_code
def yX6_areTwo : MethodName := ⟨RX6, "areTwo", "(II)Z"⟩
abbrev cX6_likingOf : ByteArray := prog_8_method_8_code
def yX6_likingOf : MethodName := ⟨RX6, "likingOf", "(II)I"⟩
abbrev cX6_others : ByteArray := prog_8_method_9_code
def yX6_others : MethodName := ⟨RX6, "others", "(I)I"⟩
abbrev cX6_otherOf : ByteArray := prog_8_method_10_code
def yX6_otherOf : MethodName := ⟨RX6, "otherOf", "(II)I"⟩
abbrev cX6_letter : ByteArray := prog_8_method_11_code
def yX6_letter : MethodName := ⟨RX6, "letter", "(I)I"⟩
abbrev cX6_next : ByteArray := prog_8_method_12_code
def yX6_next : MethodName := ⟨RX6, "next", "()I"⟩
abbrev cX6_takes : ByteArray := prog_8_method_13_code
def yX6_takes : MethodName := ⟨RX6, "takes", "(I)Z"⟩
abbrev cX6_digit : ByteArray := prog_8_method_14_code
def yX6_digit : MethodName := ⟨RX6, "digit", "()I"⟩
abbrev cX6_kindOf : ByteArray := prog_8_method_15_code
def yX6_kindOf : MethodName := ⟨RX6, "kindOf", "(I)I"⟩
abbrev cX6_takesKind : ByteArray := prog_8_method_16_code
def yX6_takesKind : MethodName := ⟨RX6, "takesKind", "()Z"⟩
abbrev cX6_takesOne : ByteArray := prog_8_method_17_code
def yX6_takesOne : MethodName := ⟨RX6, "takesOne", "()Z"⟩
abbrev cX6_takesTwo : ByteArray := prog_8_method_18_code
def yX6_takesTwo : MethodName := ⟨RX6, "takesTwo", "()Z"⟩
abbrev cX6_takesThree : ByteArray := prog_8_method_19_code
def yX6_takesThree : MethodName := ⟨RX6, "takesThree", "()Z"⟩
abbrev cX6_takesRest : ByteArray := prog_8_method_20_code
def yX6_takesRest : MethodName := ⟨RX6, "takesRest", "(I)Z"⟩
abbrev cX6_takesStatement : ByteArray := prog_8_method_21_code
def yX6_takesStatement : MethodName := ⟨RX6, "takesStatement", "()Z"⟩
abbrev cX6_isText : ByteArray := prog_8_method_22_code
def yX6_isText : MethodName := ⟨RX6, "isText", "()Z"⟩
abbrev cX6_isGood : ByteArray := prog_8_method_23_code
def yX6_isGood : MethodName := ⟨RX6, "isGood", "(III)Z"⟩
abbrev cX6_wrongPlace : ByteArray := prog_8_method_24_code
def yX6_wrongPlace : MethodName := ⟨RX6, "wrongPlace", "()I"⟩
abbrev cX6_newOne : ByteArray := prog_8_method_25_code
def yX6_newOne : MethodName := ⟨RX6, "newOne", "(I)V"⟩
abbrev cX6_comes : ByteArray := prog_8_method_26_code
def yX6_comes : MethodName := ⟨RX6, "comes", "(I)V"⟩
abbrev cX6_comesAll : ByteArray := prog_8_method_27_code
def yX6_comesAll : MethodName := ⟨RX6, "comesAll", "()I"⟩
abbrev cX6_evening : ByteArray := prog_8_method_28_code
def yX6_evening : MethodName := ⟨RX6, "evening", "()I"⟩
abbrev cX6_roundsNow : ByteArray := prog_8_method_29_code
def yX6_roundsNow : MethodName := ⟨RX6, "roundsNow", "()I"⟩
abbrev cX6_isRound : ByteArray := prog_8_method_30_code
def yX6_isRound : MethodName := ⟨RX6, "isRound", "(I)Z"⟩
abbrev cX6_metBy : ByteArray := prog_8_method_31_code
def yX6_metBy : MethodName := ⟨RX6, "metBy", "(II)I"⟩
abbrev cX6_behindOf : ByteArray := prog_8_method_32_code
def yX6_behindOf : MethodName := ⟨RX6, "behindOf", "(II)I"⟩
abbrev cX6_tired : ByteArray := prog_8_method_33_code
def yX6_tired : MethodName := ⟨RX6, "tired", "(III)I"⟩
abbrev cX6_feels : ByteArray := prog_8_method_34_code
def yX6_feels : MethodName := ⟨RX6, "feels", "(III)I"⟩
abbrev cX6_saysYes : ByteArray := prog_8_method_35_code
def yX6_saysYes : MethodName := ⟨RX6, "saysYes", "(II)Z"⟩
abbrev cX6_yesesOf : ByteArray := prog_8_method_36_code
def yX6_yesesOf : MethodName := ⟨RX6, "yesesOf", "(I)I"⟩
abbrev cX6_yesesTo : ByteArray := prog_8_method_37_code
def yX6_yesesTo : MethodName := ⟨RX6, "yesesTo", "(I)I"⟩
abbrev cX6_gapsOf : ByteArray := prog_8_method_38_code
def yX6_gapsOf : MethodName := ⟨RX6, "gapsOf", "(I)I"⟩
abbrev cX6_person : ByteArray := prog_8_method_39_code
def yX6_person : MethodName := ⟨RX6, "person", "(II)I"⟩
abbrev cX6_liking : ByteArray := prog_8_method_40_code
def yX6_liking : MethodName := ⟨RX6, "liking", "(II)I"⟩
abbrev cX6_like : ByteArray := prog_8_method_41_code
def yX6_like : MethodName := ⟨RX6, "like", "(III)I"⟩
abbrev cX6_order : ByteArray := prog_8_method_42_code
def yX6_order : MethodName := ⟨RX6, "order", "(II)I"⟩
abbrev cX6_law : ByteArray := prog_8_method_43_code
def yX6_law : MethodName := ⟨RX6, "law", "(I)I"⟩
abbrev cX6_meets : ByteArray := prog_8_method_44_code
def yX6_meets : MethodName := ⟨RX6, "meets", "(II)I"⟩
abbrev cX6_felt : ByteArray := prog_8_method_45_code
def yX6_felt : MethodName := ⟨RX6, "felt", "(II)I"⟩
abbrev cX6_yeses : ByteArray := prog_8_method_46_code
def yX6_yeses : MethodName := ⟨RX6, "yeses", "(II)I"⟩
abbrev cX6_dearest : ByteArray := prog_8_method_47_code
def yX6_dearest : MethodName := ⟨RX6, "dearest", "(II)I"⟩
abbrev cX6_isRather : ByteArray := prog_8_method_48_code
def yX6_isRather : MethodName := ⟨RX6, "isRather", "(III)Z"⟩
abbrev cX6_nextAsker : ByteArray := prog_8_method_49_code
def yX6_nextAsker : MethodName := ⟨RX6, "nextAsker", "(III)I"⟩
abbrev cX6_layRanks : ByteArray := prog_8_method_50_code
def yX6_layRanks : MethodName := ⟨RX6, "layRanks", "(I)V"⟩
abbrev cX6_ranks : ByteArray := prog_8_method_51_code
def yX6_ranks : MethodName := ⟨RX6, "ranks", "(I)I"⟩
abbrev cX6_asked : ByteArray := prog_8_method_52_code
def yX6_asked : MethodName := ⟨RX6, "asked", "(I)I"⟩
abbrev cX6_layCounts : ByteArray := prog_8_method_53_code
def yX6_layCounts : MethodName := ⟨RX6, "layCounts", "(I)V"⟩
abbrev cX6_pairsOf : ByteArray := prog_8_method_54_code
def yX6_pairsOf : MethodName := ⟨RX6, "pairsOf", "(I)I"⟩
abbrev cX6_allPairs : ByteArray := prog_8_method_55_code
def yX6_allPairs : MethodName := ⟨RX6, "allPairs", "(I)I"⟩
abbrev cX6_pairs : ByteArray := prog_8_method_56_code
def yX6_pairs : MethodName := ⟨RX6, "pairs", "(I)I"⟩
abbrev cX6_glad : ByteArray := prog_8_method_57_code
def yX6_glad : MethodName := ⟨RX6, "glad", "(II)I"⟩
abbrev cX6_shadedNow : ByteArray := prog_8_method_58_code
def yX6_shadedNow : MethodName := ⟨RX6, "shadedNow", "()I"⟩
abbrev cX6_shaded : ByteArray := prog_8_method_59_code
def yX6_shaded : MethodName := ⟨RX6, "shaded", "()I"⟩
abbrev cX6_meetAll : ByteArray := prog_8_method_60_code
def yX6_meetAll : MethodName := ⟨RX6, "meetAll", "()Z"⟩
abbrev cX6_bestOrder : ByteArray := prog_8_method_61_code
def yX6_bestOrder : MethodName := ⟨RX6, "bestOrder", "()I"⟩
abbrev cX6_wouldRather : ByteArray := prog_8_method_62_code
def yX6_wouldRather : MethodName := ⟨RX6, "wouldRather", "(II)Z"⟩
abbrev cX6_firstRather : ByteArray := prog_8_method_63_code
def yX6_firstRather : MethodName := ⟨RX6, "firstRather", "()I"⟩
abbrev cX6_layWay : ByteArray := prog_8_method_64_code
def yX6_layWay : MethodName := ⟨RX6, "layWay", "(I)Z"⟩
abbrev cX6_firm : ByteArray := prog_8_method_65_code
def yX6_firm : MethodName := ⟨RX6, "firm", "()I"⟩
abbrev cX6_row : ByteArray := prog_8_method_66_code
def yX6_row : MethodName := ⟨RX6, "row", "(I)I"⟩
abbrev cX6_isWay : ByteArray := prog_8_method_67_code
def yX6_isWay : MethodName := ⟨RX6, "isWay", "()Z"⟩
abbrev cX6_rather : ByteArray := prog_8_method_68_code
def yX6_rather : MethodName := ⟨RX6, "rather", "()I"⟩
abbrev cX6_truly : ByteArray := prog_8_method_69_code
def yX6_truly : MethodName := ⟨RX6, "truly", "(II)I"⟩
abbrev cX6_nth : ByteArray := prog_8_method_70_code
def yX6_nth : MethodName := ⟨RX6, "nth", "(I)I"⟩
abbrev cX6_judged : ByteArray := prog_8_method_71_code
def yX6_judged : MethodName := ⟨RX6, "judged", "()I"⟩
abbrev cX6_judge : ByteArray := prog_8_method_72_code
def yX6_judge : MethodName := ⟨RX6, "judge", "()I"⟩
abbrev cX6_clear : ByteArray := prog_8_method_73_code
def yX6_clear : MethodName := ⟨RX6, "clear", "()I"⟩
abbrev cX6_draw : ByteArray := prog_8_method_74_code
def yX6_draw : MethodName := ⟨RX6, "draw", "(I)I"⟩
abbrev cX6_lots : ByteArray := prog_8_method_75_code
def yX6_lots : MethodName := ⟨RX6, "lots", "(II)I"⟩
abbrev cX6_image : ByteArray := prog_8_method_76_code
def yX6_image : MethodName := ⟨RX6, "image", "()I"⟩
abbrev cX6_on : ByteArray := prog_8_method_77_code
def yX6_on : MethodName := ⟨RX6, "on", "()I"⟩
abbrev cX6_allGaps : ByteArray := prog_8_method_78_code
def yX6_allGaps : MethodName := ⟨RX6, "allGaps", "()I"⟩
abbrev cX6_count : ByteArray := prog_8_method_79_code
def yX6_count : MethodName := ⟨RX6, "count", "(I)I"⟩
def RJ11 : String := "java/lang/Character"
abbrev cJ11_isValidCodePoint_9a6ad : ByteArray := prog_9_method_11_code
def yJ11_isValidCodePoint_9a6ad : MethodName := ⟨RJ11, "isValidCodePoint", "(I)Z"⟩
abbrev cJ11_highSurrogate_5068e : ByteArray := prog_9_method_28_code
def yJ11_highSurrogate_5068e : MethodName := ⟨RJ11, "highSurrogate", "(I)C"⟩
abbrev cJ11_lowSurrogate_5068e : ByteArray := prog_9_method_29_code
def yJ11_lowSurrogate_5068e : MethodName := ⟨RJ11, "lowSurrogate", "(I)C"⟩
def RJ6 : String := "java/lang/Integer"
abbrev cJ6_bitCount_0f7a4 : ByteArray := prog_10_method_49_code
def yJ6_bitCount_0f7a4 : MethodName := ⟨RJ6, "bitCount", "(I)I"⟩
def RJ9 : String := "java/lang/Math"
abbrev cJ9_floorMod_7cf53 : ByteArray := prog_11_method_50_code
def yJ9_floorMod_7cf53 : MethodName := ⟨RJ9, "floorMod", "(II)I"⟩
abbrev cJ9_max_7cf53 : ByteArray := prog_11_method_65_code
def yJ9_max_7cf53 : MethodName := ⟨RJ9, "max", "(II)I"⟩
abbrev cJ9_min_7cf53 : ByteArray := prog_11_method_69_code
def yJ9_min_7cf53 : MethodName := ⟨RJ9, "min", "(II)I"⟩
def RJ0 : String := "java/lang/String"
abbrev cJ0_length_8abf5 : ByteArray := prog_12_method_54_code
def yJ0_length_8abf5 : MethodName := ⟨RJ0, "length", "()I"⟩
abbrev cJ0_isEmpty_aae02 : ByteArray := prog_12_method_55_code
def yJ0_isEmpty_aae02 : MethodName := ⟨RJ0, "isEmpty", "()Z"⟩
abbrev cJ0_charAt_5068e : ByteArray := prog_12_method_56_code
def yJ0_charAt_5068e : MethodName := ⟨RJ0, "charAt", "(I)C"⟩
abbrev cJ0_indexOf_0f7a4 : ByteArray := prog_12_method_79_code
def yJ0_indexOf_0f7a4 : MethodName := ⟨RJ0, "indexOf", "(I)I"⟩
abbrev cJ0_indexOf_7cf53 : ByteArray := prog_12_method_80_code
def yJ0_indexOf_7cf53 : MethodName := ⟨RJ0, "indexOf", "(II)I"⟩
abbrev cJ0_coder_7d493 : ByteArray := prog_12_method_152_code
def yJ0_coder_7d493 : MethodName := ⟨RJ0, "coder", "()B"⟩
abbrev cJ0_isLatin1_aae02 : ByteArray := prog_12_method_154_code
def yJ0_isLatin1_aae02 : MethodName := ⟨RJ0, "isLatin1", "()Z"⟩
abbrev cJ0_checkIndex_df160 : ByteArray := prog_12_method_155_code
def yJ0_checkIndex_df160 : MethodName := ⟨RJ0, "checkIndex", "(II)V"⟩
abbrev cJ0_checkBoundsBeginEnd_23922 : ByteArray := prog_12_method_158_code
def yJ0_checkBoundsBeginEnd_23922 : MethodName := ⟨RJ0, "checkBoundsBeginEnd", "(III)V"⟩
def RJ1 : String := "java/lang/StringLatin1"
abbrev cJ1_charAt_3b067 : ByteArray := prog_13_method_2_code
def yJ1_charAt_3b067 : MethodName := ⟨RJ1, "charAt", "([BI)C"⟩
abbrev cJ1_canEncode_9a6ad : ByteArray := prog_13_method_4_code
def yJ1_canEncode_9a6ad : MethodName := ⟨RJ1, "canEncode", "(I)Z"⟩
abbrev cJ1_indexOf_4cfef : ByteArray := prog_13_method_22_code
def yJ1_indexOf_4cfef : MethodName := ⟨RJ1, "indexOf", "([BIII)I"⟩
abbrev cJ1_indexOfChar_4cfef : ByteArray := prog_13_method_23_code
def yJ1_indexOfChar_4cfef : MethodName := ⟨RJ1, "indexOfChar", "([BIII)I"⟩
def RJ2 : String := "java/lang/StringUTF16"
abbrev cJ2_getChar_3b067 : ByteArray := prog_14_method_5_code
def yJ2_getChar_3b067 : MethodName := ⟨RJ2, "getChar", "([BI)C"⟩
abbrev cJ2_length_9d52b : ByteArray := prog_14_method_6_code
def yJ2_length_9d52b : MethodName := ⟨RJ2, "length", "([B)I"⟩
abbrev cJ2_indexOf_4cfef : ByteArray := prog_14_method_40_code
def yJ2_indexOf_4cfef : MethodName := ⟨RJ2, "indexOf", "([BIII)I"⟩
abbrev cJ2_indexOfChar_4cfef : ByteArray := prog_14_method_47_code
def yJ2_indexOfChar_4cfef : MethodName := ⟨RJ2, "indexOfChar", "([BIII)I"⟩
abbrev cJ2_indexOfCharUnsafe_4cfef : ByteArray := prog_14_method_48_code
def yJ2_indexOfCharUnsafe_4cfef : MethodName := ⟨RJ2, "indexOfCharUnsafe", "([BIII)I"⟩
abbrev cJ2_indexOfSupplementary_4cfef : ByteArray := prog_14_method_49_code
def yJ2_indexOfSupplementary_4cfef : MethodName := ⟨RJ2, "indexOfSupplementary", "([BIII)I"⟩
abbrev cJ2_charAt_3b067 : ByteArray := prog_14_method_83_code
def yJ2_charAt_3b067 : MethodName := ⟨RJ2, "charAt", "([BI)C"⟩
abbrev cJ2_checkIndex_2214a : ByteArray := prog_14_method_91_code
def yJ2_checkIndex_2214a : MethodName := ⟨RJ2, "checkIndex", "(I[B)V"⟩
abbrev cJ2_checkBoundsBeginEnd_d044e : ByteArray := prog_14_method_93_code
def yJ2_checkBoundsBeginEnd_d044e : MethodName := ⟨RJ2, "checkBoundsBeginEnd", "(II[B)V"⟩
def RJ10 : String := "java/lang/System"
def RJ3 : String := "jdk/internal/util/Preconditions"
abbrev cJ3_checkIndex_8e157 : ByteArray := prog_16_method_11_code
def yJ3_checkIndex_8e157 : MethodName := ⟨RJ3, "checkIndex", "(IILjava/util/function/BiFunction;)I"⟩
abbrev cJ3_checkFromToIndex_8c36e : ByteArray := prog_16_method_12_code
def yJ3_checkFromToIndex_8c36e : MethodName := ⟨RJ3, "checkFromToIndex", "(IIILjava/util/function/BiFunction;)I"⟩
def RL : String := "EightMinutesLaw"
abbrev cL_law : ByteArray := code
def yL_law : MethodName := ⟨RL, "law", "([I)Z"⟩
abbrev vwCl : List vw_C := [(RX0, TX0, 1), (RX1, TX1, 4), (RX2, TX2, 5), (RX3, TX3, 2), (RX4, TX4, 7), (RX5, TX5, 11), (RX6, TX6, 35)]
end
section
/-! Z: ONE memory of whole numbers over fixed cells. Every cell of the class and of the reference has a number i < 68; what it holds of ints is 'μ i' (place to Int); its references never change. -/
abbrev zM : Type := Nat → Int → Int
abbrev zV : Type := Int ⊕ Nat
abbrev zD : Type := (Nat × List (Option Nat)) ⊕ (Nat ⊕ (Nat × Nat))
def iI (z : Int) : Int32 := Int32.ofInt z
abbrev zR (z : Int) : Prop := -2147483648 ≤ z ∧ z < 2147483648
/-- the int that the machine holds for z -/
def zw (z : Int) : Int := (iI z).toInt
theorem iI_toInt {z : Int} (h : zR z) : (iI z).toInt = z := by
  have h1 : z.bmod (2 ^ 32) = z := Int.bmod_eq_of_le (by have := h.1; omega) (by have := h.2; omega)
  have h2 := (Int32.ofInt_eq_iff_bmod_eq_toInt z (iI z)).mp rfl
  omega
theorem iI_of (x : Int32) : iI x.toInt = x := Int32.ofInt_toInt x
theorem zw_iI (z : Int) : iI (zw z) = iI z := iI_of _
theorem zw_eq {z : Int} (h : zR z) : zw z = z := iI_toInt h
theorem zR_toInt (x : Int32) : zR x.toInt := ⟨by have := Int32.le_toInt x; omega, by have := Int32.toInt_lt x; omega⟩
theorem zw_R (z : Int) : zR (zw z) := zR_toInt _
theorem iI_inj {a b : Int} (ha : zR a) (hb : zR b) (h : iI a = iI b) : a = b := by
  have := congrArg Int32.toInt h
  rwa [iI_toInt ha, iI_toInt hb] at this
theorem iI_eq {a b : Int} (ha : zR a) (hb : zR b) : iI a = iI b ↔ a = b := ⟨iI_inj ha hb, fun h => by rw [h]⟩
theorem iI_lt {a b : Int} (ha : zR a) (hb : zR b) : iI a < iI b ↔ a < b := by
  rw [Int32.lt_iff_toInt_lt, iI_toInt ha, iI_toInt hb]
theorem iI_le {a b : Int} (ha : zR a) (hb : zR b) : iI a ≤ iI b ↔ a ≤ b := by
  rw [Int32.le_iff_toInt_le, iI_toInt ha, iI_toInt hb]
theorem iI_add (a b : Int) : iI a + iI b = iI (a + b) := (Int32.ofInt_add a b).symm
theorem iI_sub (a b : Int) : iI a - iI b = iI (a - b) := (Int32.ofInt_sub a b).symm
theorem iI_mul (a b : Int) : iI a * iI b = iI (a * b) := (Int32.ofInt_mul a b).symm
theorem iI_neg (a : Int) : -iI a = iI (-a) := (Int32.ofInt_neg a).symm
theorem iI_0 : iI 0 = 0 := by decide
theorem iI_div {a b : Int} (ha : zR a) (hb : zR b) (h0 : 0 ≤ a) (h1 : 0 < b) : iI a / iI b = iI (a / b) := by
  have h := Int32.ofInt_tdiv (a := a) (b := b) (by have := ha.1; have : Int32.minValue.toInt = -2147483648 := by decide
                                                   omega) (by have := ha.2; have : Int32.maxValue.toInt = 2147483647 := by decide
                                                              omega) (by have := hb.1; have : Int32.minValue.toInt = -2147483648 := by decide
                                                                         omega) (by have := hb.2; have : Int32.maxValue.toInt = 2147483647 := by decide
                                                                                    omega)
  unfold iI
  rw [← h, Int.tdiv_eq_ediv_of_nonneg h0]
theorem iI_rem {a b : Int} (ha : zR a) (hb : zR b) (h0 : 0 ≤ a) (h1 : 0 < b) : iI a - iI a / iI b * iI b = iI (a % b) := by
  rw [iI_div ha hb h0 h1, iI_mul, iI_sub, Int.emod_def, Int.mul_comm (a / b) b]
theorem iI_clamp {x : Int} {n : Nat} (h0 : 0 ≤ x) (h1 : x < n) (hn : n < 2147483648) : (iI x).toNatClampNeg = x.toNat := by
  show (iI x).toInt.toNat = x.toNat
  rw [iI_toInt ⟨by omega, by omega⟩]
theorem iI_in {x : Int} {n : Nat} (h0 : 0 ≤ x) (h1 : x < n) (hn : n < 2147483648) : vp_in (iI x) n := by
  rw [vp_in_iff, iI_toInt ⟨by omega, by omega⟩]
  exact ⟨h0, h1⟩
/-- bits -/
def zand (a b : Int) : Int := (iI a &&& iI b).toInt
def zor (a b : Int) : Int := (iI a ||| iI b).toInt
def zxor (a b : Int) : Int := (iI a ^^^ iI b).toInt
def zshl (a b : Int) : Int := (iI a <<< (iI b &&& 31)).toInt
def zshr (a b : Int) : Int := (iI a >>> (iI b &&& 31)).toInt
def zushr (a b : Int) : Int := ((iI a).toUInt32 >>> ((iI b).toUInt32 &&& Int32.toUInt32 31)).toInt32.toInt
/-- the memory, a place written -/
def zs (μ : zM) (i : Nat) (j v : Int) : zM := fun a => if a = i then fun b => if b = j then v else μ i b else μ a
theorem zs_self (μ : zM) (i : Nat) (j v : Int) : zs μ i j v i j = v := by simp [zs]
theorem zs_ne (μ : zM) {i a : Nat} (j v : Int) (h : a ≠ i) : zs μ i j v a = μ a := by simp [zs, h]
theorem zs_at (μ : zM) (i : Nat) (j v b : Int) : zs μ i j v i b = if b = j then v else μ i b := by simp [zs]
theorem zs_ne2 (μ : zM) (i : Nat) {j b : Int} (v : Int) (h : b ≠ j) : zs μ i j v i b = μ i b := by simp [zs, h]
abbrev zRM (μ : zM) : Prop := ∀ i j, zR (μ i j)
theorem zs_R {μ : zM} (h : zRM μ) (i : Nat) (j : Int) {v : Int} (hv : zR v) : zRM (zs μ i j v) := by
  intro a b
  unfold zs
  by_cases e : a = i
  · rw [if_pos e]
    by_cases e2 : b = j
    · rw [if_pos e2]; exact hv
    · rw [if_neg e2]; exact h i b
  · rw [if_neg e]; exact h a b
/-- the cells: an object (its class in vwCl; of each field: a reference to that cell, or an int), a row of ints, a row of references to cells that lie one behind another -/
def zd : Nat → zD
  | 0 => .inl (5, [some 1, some 6, some 11, none, some 16, some 18, some 22, some 27, some 29, none, some 30])
  | 1 => .inl (4, [some 2, some 3, some 4, some 5, none, none, none])
  | 2 => .inr (.inl 2)
  | 3 => .inr (.inl 10)
  | 4 => .inr (.inl 10)
  | 5 => .inr (.inl 100)
  | 6 => .inl (4, [some 7, some 8, some 9, some 10, none, none, none])
  | 7 => .inr (.inl 2)
  | 8 => .inr (.inl 10)
  | 9 => .inr (.inl 10)
  | 10 => .inr (.inl 100)
  | 11 => .inl (4, [some 12, some 13, some 14, some 15, none, none, none])
  | 12 => .inr (.inl 2)
  | 13 => .inr (.inl 10)
  | 14 => .inr (.inl 10)
  | 15 => .inr (.inl 100)
  | 16 => .inl (3, [some 17, none])
  | 17 => .inr (.inl 96)
  | 18 => .inl (2, [some 19, some 20, some 21, none, none])
  | 19 => .inr (.inr (10, 48))
  | 20 => .inr (.inr (10, 58))
  | 21 => .inr (.inl 10)
  | 22 => .inl (1, [some 23, some 24, some 25, some 26])
  | 23 => .inr (.inl 10)
  | 24 => .inr (.inl 10)
  | 25 => .inr (.inl 10)
  | 26 => .inr (.inl 10)
  | 27 => .inl (0, [some 28])
  | 28 => .inr (.inl 10)
  | 29 => .inr (.inl 10)
  | 30 => .inr (.inl 7)
  | 31 => .inl (6, [none, none, none, none, none, none, none, some 32, some 33, some 34, some 35, some 36, some 37, none, none, none, none, none, some 38, some 39, some 40, some 41, some 42, some 43, none, some 44, none, none, none, none, none, none, some 45, some 46, some 47])
  | 32 => .inr (.inl 10)
  | 33 => .inr (.inl 10)
  | 34 => .inr (.inl 50)
  | 35 => .inr (.inl 96)
  | 36 => .inr (.inl 10)
  | 37 => .inr (.inl 7)
  | 38 => .inr (.inl 5)
  | 39 => .inr (.inl 5)
  | 40 => .inr (.inl 10)
  | 41 => .inr (.inl 10)
  | 42 => .inr (.inl 5)
  | 43 => .inr (.inl 5)
  | 44 => .inr (.inl 50)
  | 45 => .inr (.inl 10)
  | 46 => .inr (.inl 10)
  | 47 => .inr (.inl 50)
  | _ => .inr (.inl 5)
theorem zd_row {k : Nat} (h : 48 ≤ k) : zd k = .inr (.inl 5) := by
  obtain ⟨j, rfl⟩ : ∃ j, k = j + 48 := ⟨k - 48, by omega⟩
  rfl
/-- one of the three sets of what is told: its object's cell -/
abbrev zTo (t : Nat) : Prop := t = 1 ∨ t = 6 ∨ t = 11
theorem zd_to0 {t : Nat} (h : zTo t) : zd t = .inl (4, [some (t + 1), some (t + 2), some (t + 3), some (t + 4), none, none, none]) := by rcases h with rfl | rfl | rfl <;> rfl
theorem zd_to1 {t : Nat} (h : zTo t) : zd (t + 1) = .inr (.inl 2) := by rcases h with rfl | rfl | rfl <;> rfl
theorem zd_to2 {t : Nat} (h : zTo t) : zd (t + 2) = .inr (.inl 10) := by rcases h with rfl | rfl | rfl <;> rfl
theorem zd_to3 {t : Nat} (h : zTo t) : zd (t + 3) = .inr (.inl 10) := by rcases h with rfl | rfl | rfl <;> rfl
theorem zd_to4 {t : Nat} (h : zTo t) : zd (t + 4) = .inr (.inl 100) := by rcases h with rfl | rfl | rfl <;> rfl
/-- what is fixed of a run: where classes, cells and texts lie -/
abbrev zG : Type := va_G × ClassId × ClassId × (Nat → Nat)
def zv (G : zG) (v : zV) : Value := match v with
  | .inl z => .int (iI z)
  | .inr i => .ref (G.2.2.2 i)
theorem zv_cat (G : zG) (v : zV) : (zv G v).category = 1 := by cases v <;> rfl
def zf1 (G : zG) (r : Int → Int) (o : Option Nat) (i : Nat) : Value := match o with
  | some t => .ref (G.2.2.2 t)
  | none => .int (iI (r (i : Int)))
def zfs (G : zG) (r : Int → Int) : List (Option Nat) → Nat → List Value
  | [], _ => []
  | o :: ks, i => zf1 G r o i :: zfs G r ks (i + 1)
theorem zfs_c (G : zG) (r : Int → Int) (o : Option Nat) (ks : List (Option Nat)) (i : Nat) : zfs G r (o :: ks) i = zf1 G r o i :: zfs G r ks (i + 1) := rfl
theorem zfs_len (G : zG) (r : Int → Int) : ∀ (ks : List (Option Nat)) (i : Nat), (zfs G r ks i).length = ks.length
  | [], _ => rfl
  | _ :: ks, i => by rw [zfs_c, List.length_cons, List.length_cons, zfs_len G r ks (i + 1)]
theorem zfs_int (G : zG) (r : Int → Int) : ∀ (ks : List (Option Nat)) (i k : Nat), ks[k]? = some none → (zfs G r ks i)[k]? = some (.int (iI (r ((i + k : Nat) : Int))))
  | [], _, k, h => by simp at h
  | o :: ks, i, 0, h => by
    have ho : o = none := by simpa using h
    subst ho
    rfl
  | o :: ks, i, k + 1, h => by
    rw [zfs_c, List.getElem?_cons_succ, zfs_int G r ks (i + 1) k (by simpa using h), show i + 1 + k = i + (k + 1) by omega]
theorem zfs_ref (G : zG) (r : Int → Int) {t : Nat} : ∀ (ks : List (Option Nat)) (i k : Nat), ks[k]? = some (some t) → (zfs G r ks i)[k]? = some (.ref (G.2.2.2 t))
  | [], _, k, h => by simp at h
  | o :: ks, i, 0, h => by
    have ho : o = some t := by simpa using h
    subst ho
    rfl
  | o :: ks, i, k + 1, h => by
    rw [zfs_c, List.getElem?_cons_succ, zfs_ref G r ks (i + 1) k (by simpa using h)]
theorem zf1_cong (G : zG) {r r' : Int → Int} (o : Option Nat) (i : Nat) (h : r (i : Int) = r' (i : Int)) : zf1 G r o i = zf1 G r' o i := by
  cases o with
  | none => show Value.int (iI (r (i : Int))) = Value.int (iI (r' (i : Int))); rw [h]
  | some t => rfl
theorem zfs_cong (G : zG) {r r' : Int → Int} : ∀ (ks : List (Option Nat)) (i : Nat), (∀ j : Nat, i ≤ j → r (j : Int) = r' (j : Int)) → zfs G r ks i = zfs G r' ks i
  | [], _, _ => rfl
  | o :: ks, i, h => by
    rw [zfs_c, zfs_c, zfs_cong G ks (i + 1) (fun j hj => h j (by omega)), zf1_cong G o i (h i (Nat.le_refl i))]
theorem zfs_set (G : zG) (r : Int → Int) (v : Int) : ∀ (ks : List (Option Nat)) (i k : Nat), ks[k]? = some none → (zfs G r ks i).set k (.int (iI v)) = zfs G (fun b => if b = ((i + k : Nat) : Int) then v else r b) ks i
  | [], _, k, h => by simp at h
  | o :: ks, i, 0, h => by
    have ho : o = none := by simpa using h
    subst ho
    rw [zfs_c, zfs_c, List.set_cons_zero, zfs_cong G (r := r) (r' := fun b => if b = ((i + 0 : Nat) : Int) then v else r b) ks (i + 1) (fun j hj => by rw [if_neg (by omega)])]
    show _ = Value.int (iI (if (i : Int) = ((i + 0 : Nat) : Int) then v else r (i : Int))) :: _
    rw [if_pos (by omega)]
  | o :: ks, i, k + 1, h => by
    rw [zfs_c, zfs_c, List.set_cons_succ, zfs_set G r v ks (i + 1) k (by simpa using h), show i + 1 + k = i + (k + 1) by omega, zf1_cong G (r := r) (r' := fun b => if b = ((i + (k + 1) : Nat) : Int) then v else r b) o i (by rw [if_neg (by omega)])]
def zc (G : zG) (d : zD) (r : Int → Int) : va_E := match d with
  | .inl (ci, ks) => .inr (ci, zfs G r ks 0)
  | .inr (.inl n) => .inl (G.2.1, n, .inl (fun j => iI (r (j : Int))))
  | .inr (.inr (n, b)) => .inl (G.2.2.1, n, .inr (.inr (.inr (.inr (fun j => some (G.2.2.2 (b + j)))))))
/-- the world -/
def zW (G : zG) (μ : zM) : va_W := (List.range 68).map (fun i => (G.2.2.2 i, zc G (zd i) (μ i)))
theorem zW_get (G : zG) (μ : zM) {i : Nat} (h : i < 68) : (zW G μ)[i]? = some (G.2.2.2 i, zc G (zd i) (μ i)) := by
  rw [zW, List.getElem?_map, List.getElem?_range h]
  rfl
theorem zW_mem {G : zG} {μ : zM} {k : Nat} {q : Nat × va_E} (h : (zW G μ)[k]? = some q) : k < 68 ∧ q = (G.2.2.2 k, zc G (zd k) (μ k)) := by
  have hk : k < 68 := by
    have := (List.getElem?_eq_some_iff.mp h).1
    simpa [zW] using this
  rw [zW_get G μ hk] at h
  exact ⟨hk, (Option.some.inj h).symm⟩
theorem zW_set (G : zG) (μ : zM) {i : Nat} (h : i < 68) (j v : Int) : (zW G μ).set i (G.2.2.2 i, zc G (zd i) (fun b => if b = j then v else μ i b)) = zW G (zs μ i j v) := by
  apply List.ext_getElem?
  intro k
  by_cases hk : k = i
  · subst hk
    rw [List.getElem?_set_self (by simpa [zW] using h), zW_get G _ h]
    congr 3
    funext b
    rw [zs_at]
  · rw [List.getElem?_set_ne (Ne.symm hk)]
    by_cases h2 : k < 68
    · rw [zW_get G _ h2, zW_get G _ h2, zs_ne _ _ _ hk]
    · rw [List.getElem?_eq_none (by simp [zW]; omega), List.getElem?_eq_none (by simp [zW]; omega)]
/-- the cells that a method may change: the world's, and new ones -/
def zA (G : zG) (sz : Nat) : Nat → Prop := fun q => (∃ i, i < 68 ∧ q = G.2.2.2 i) ∨ sz ≤ q
theorem zA_va {G : zG} {μ : zM} {sz : Nat} {q : Nat} : va_A (zW G μ) sz q ↔ zA G sz q := by
  constructor
  · rintro (⟨k, e, h⟩ | h)
    · obtain ⟨h1, h2⟩ := zW_mem h
      exact Or.inl ⟨k, h1, congrArg Prod.fst h2⟩
    · exact Or.inr h
  · rintro (⟨i, h1, rfl⟩ | h)
    · exact Or.inl ⟨i, _, zW_get G μ h1⟩
    · exact Or.inr h
theorem zD_any {A : Nat → Prop} {G : zG} {μ : zM} (μ' : zM) (h : va_D A (zW G μ)) : va_D A (zW G μ') := by
  refine ⟨fun i j p q hp hq e => ?_, fun k q hq => ?_⟩
  · obtain ⟨h1, rfl⟩ := zW_mem hp
    obtain ⟨h2, rfl⟩ := zW_mem hq
    exact h.1 i j _ _ (zW_get G μ h1) (zW_get G μ h2) e
  · obtain ⟨h1, rfl⟩ := zW_mem hq
    exact h.2 k (G.2.2.2 k, zc G (zd k) (μ k)) (zW_get G μ h1)
theorem zD_A {A : Nat → Prop} {G : zG} {μ : zM} (h : va_D A (zW G μ)) {i : Nat} (hi : i < 68) : A (G.2.2.2 i) := h.2 i (G.2.2.2 i, zc G (zd i) (μ i)) (zW_get G μ hi)
theorem zD_weak {A B : Nat → Prop} {G : zG} {μ : zM} (h : va_D A (zW G μ)) (hB : ∀ i, i < 68 → B (G.2.2.2 i)) : va_D B (zW G μ) := ⟨h.1, fun k q hq => by
  obtain ⟨h1, rfl⟩ := zW_mem hq
  exact hB k h1⟩
/-- the six texts -/
def zLen : List Nat := [6, 3, 4, 3, 2, 0]
def zByt : List (List Int32) := [[109, 101, 116, 115, 104, 119], [75, 68, 59], [68, 68, 68, 59], [68, 68, 59], [68, 59], []]
/-- what is known of the tables, the texts and the statics at a start -/
def zNW : List (String × Nat × MethodName × String) := [(RX0, 31, yX5_otherStart, RX5), (RX1, 37, yX5_bitOf, RX5), (RX1, 59, yX5_otherStart, RX5), (RX1, 66, yX5_sideOf, RX5), (RX2, 54, yX5_sideOf, RX5), (RX2, 58, yX5_otherStart, RX5), (RX2, 74, yX5_bitOf, RX5), (RX3, 97, yX5_isLaw, RX5), (RX4, 40, yX5_sideOf, RX5), (RX4, 67, yX5_otherStart, RX5)]
def zSL : List (Nat × String × Nat) := [(53, "metshw", 0), (43, "KD;", 1), (45, "DDD;", 2), (47, "DD;", 3), (49, "D;", 4), (51, "", 5)]
end
section
/-! the environment, contracts, the judgement zJ, and its rows -/
def zE (G : zG) (A : Nat → Prop) (U : State) (H : Heap) : Prop :=
  va_K G.1 vwCl [(G.2.1, .int), (G.2.2.1, .array .int)] U ∧ (∀ q ∈ zNW, va_Nw (.methodLinkNest q.1 q.2.1 q.2.2.1 q.2.2.2) U) ∧ (∀ q ∈ zSL, vk_R RX3 q.1 q.2.1 (G.2.2.2 (70 + q.2.2)) U) ∧ vk_S 6 zLen zByt (fun i => G.2.2.2 (70 + i)) (fun i => G.2.2.2 (80 + i)) A U H ∧ va_Z "java/lang/String" "COMPACT_STRINGS" "Z" (.int 1) A U H ∧ va_Zq "jdk/internal/util/Preconditions" "SIOOBE_FORMATTER" "Ljava/util/function/BiFunction;" A U H
theorem zE_calling {G : zG} {A : Nat → Prop} {U : State} {g : JFrame} {mk : MethodId} {a : Array Value} (h : zE G A U U.heap) : zE G A (U.calling g mk a) (U.calling g mk a).heap :=
  ⟨va_K.moved (u := U) (U := U.calling g mk a) (Vm.Alike.refl U.vm) h.1, fun q hq => va_Nw.same rfl (u := U) (U := U.calling g mk a) rfl (h.2.1 q hq), fun q hq => vk_R.same (u := U) (U := U.calling g mk a) rfl (h.2.2.1 q hq), vk_S.moved (u := U) (U := U.calling g mk a) (Vm.Alike.refl U.vm) h.2.2.2.1, va_Z.moved (u := U) (U := U.calling g mk a) (Vm.Alike.refl U.vm) h.2.2.2.2.1, va_Zq.moved (u := U) (U := U.calling g mk a) (Vm.Alike.refl U.vm) h.2.2.2.2.2⟩
theorem zE_call {G : zG} {A A1 : Nat → Prop} {s U : State} {H : Heap} {locs : List Loc} (h : zE G A s s.heap) (hS : va_S A s.heap H locs) (hle : ∀ q, A1 q → A q) (hU : U.heap = H) (hW : s.WarmedH U.vm) : zE G A1 U U.heap := by
  rw [hU]
  exact ⟨va_K.moved hW.alike h.1, fun q hq => va_Nw.warmM hW (h.2.1 q hq), fun q hq => vk_R.warm hW (h.2.2.1 q hq), ((vk_S.kept h.2.2.2.1 hS.2.1).narrow hle).moved hW.alike, ((va_Z.kept h.2.2.2.2.1 hS.2.1).narrow hle).moved hW.alike, ((va_Zq.kept h.2.2.2.2.2 hS.2.1).narrow hle).moved hW.alike⟩
/-- the words of every contract: the tables' good ones -/
noncomputable def zBIG : List Cond := lw_tbl.filter goodWord
theorem zB_of {w : Cond} (h : w ∈ lw_tbl) (g : goodWord w = true) : w ∈ zBIG := List.mem_filter.mpr ⟨h, g⟩
theorem zB_t {w : Cond} (i : Nat) (h : tables_1[i]? = some w) (g : goodWord w = true) : w ∈ zBIG := zB_of (List.mem_append_right _ (List.mem_of_getElem? h)) g
theorem zB_s {w : Cond} (i : Nat) (h : (k2_sels lw_privs)[i]? = some w) (g : goodWord w = true) : w ∈ zBIG := zB_of (List.mem_append_left _ (List.mem_of_getElem? h)) g
theorem zB_r {ws : List Cond} (ps : List Nat) (hp : ws = ps.filterMap (fun i => tables_1[i]?)) (h : ws.all goodWord = true) : ∀ w ∈ ws, w ∈ zBIG := by
  intro w hw
  have h1 := List.all_eq_true.mp h w hw
  rw [hp] at hw
  obtain ⟨i, -, hi⟩ := List.mem_filterMap.mp hw
  exact zB_t i hi h1
theorem zB_good {w : Cond} (h : w ∈ zBIG) : goodWord w = true := (List.mem_filter.mp h).2
theorem zB_G {c0 : Cond} {ws : List Cond} (h : ∀ w ∈ ws, w ∈ zBIG) : GoodIn (c0 :: zBIG) ws := fun w hw => ⟨List.mem_cons_of_mem _ (h w hw), good_of_word (zB_good (h w hw))⟩
noncomputable def zws (y : MethodName) (cc : ByteArray) (n : Nat) (ret : Option FieldType) : List Cond := .code y cc n ret :: zBIG
/-- the start of a contract -/
def zPc (G : zG) (sz : Nat) (as : List zV) (μ : zM) : Array Value → State → Prop := va_Pc (as.map (zv G)) (fun U => U.heap.size = sz ∧ va_P G.1 vwCl (zW G μ) U.heap ∧ va_D (fun _ => True) (zW G μ) ∧ zE G (zA G sz) U U.heap)
abbrev zrm (f n : Nat) : Room := { frames := f, cells := 0, slots := 0, locals := n }
/-- a contract with an int for an answer; nothing; a reference to a fixed cell -/
def zMi (l : Launch) (y : MethodName) (cc : ByteArray) (nL : Nat) (ty : FieldType) (f nw : Nat) (as : List zV) (μ : zM) (post : Int → zM → Prop) : Prop :=
  ∀ (G : zG) (sz : Nat), zRM μ → Met l y (zws y cc nL (some ty)) (zrm f nw) (zPc G sz as μ) (va_Qi (fun (r : Int32) (u : Int × zM) => r = iI u.1 ∧ zR u.1 ∧ zRM u.2 ∧ post u.1 u.2) (fun u t => va_P G.1 vwCl (zW G u.2) t.heap) (zA G sz)) 0 0 (zA G sz)
def zMv (l : Launch) (y : MethodName) (cc : ByteArray) (nL : Nat) (f nw : Nat) (as : List zV) (μ : zM) (post : zM → Prop) : Prop :=
  ∀ (G : zG) (sz : Nat), zRM μ → Met l y (zws y cc nL none) (zrm f nw) (zPc G sz as μ) (va_Qv (fun (u : zM) => zRM u ∧ post u) (fun u t => va_P G.1 vwCl (zW G u) t.heap) (zA G sz)) 0 0 (zA G sz)
def zMr (l : Launch) (y : MethodName) (cc : ByteArray) (nL : Nat) (ty : FieldType) (f nw : Nat) (as : List zV) (μ : zM) (post : Nat → zM → Prop) : Prop :=
  ∀ (G : zG) (sz : Nat), zRM μ → Met l y (zws y cc nL (some ty)) (zrm f nw) (zPc G sz as μ) (va_Qr (fun (u : Nat × zM) => zRM u.2 ∧ post u.1 u.2) (fun u a t => a = G.2.2.2 u.1 ∧ va_P G.1 vwCl (zW G u.2) t.heap) (zA G sz)) 0 0 (zA G sz)
/-- a walk: all that stays the same in it -/
abbrev zX : Type := Program × Launch × Env × Room × State × MethodId × Array Value × List Frame × Method × Code × (State → Prop) × (Nat → Prop) × zG × Nat × Nat
def zl (X : zX) : Launch := X.2.1
def zlv (G : zG) (q : Nat × zV) : Nat × Value := (q.1, zv G q.2)
def zJ (X : zX) (nL : Nat) (μ : zM) (pc : Nat) (L : List (Nat × zV)) (st : List zV) : Prop := match X with
  | (p, l, e, R, s, m, args, below, meth, c, Q, A, G, cells, slots) => zRM μ → ∀ (H : Heap) (locs : List Loc) (ls : Array Slot), va_P G.1 vwCl (zW G μ) H → va_S A s.heap H locs → lv_has ls nL (L.map (zlv G)) → W p l e R s m args below meth c H locs cells slots Q (F0 m pc ls (st.map (zv G)))
def zC (X : zX) (nL : Nat) (cc : ByteArray) (own : String) (Ts : List Cond) (f nw : Nat) : Prop := match X with
  | (p, _, _, R, s, m, args, _, _, c, _, A, G, cells, slots) => p.tables.exec = Jvm.exec ∧ c.code = cc ∧ c.maxLocals = nL ∧ s.vm.findClass own = some m.cls ∧ (∀ w ∈ Ts, w.before args s = true) ∧ (∀ w ∈ zBIG, w ∈ Ts) ∧ (∀ q, s.heap.size ≤ q → A q) ∧ va_D A (zW G (fun _ _ => 0)) ∧ zE G A s s.heap ∧ (f ≤ R.frames ∧ nw ≤ R.locals ∧ cells ≤ R.cells ∧ slots ≤ R.slots)
/-- a local, set -/
def zput (i : Nat) (v : zV) : List (Nat × zV) → List (Nat × zV)
  | [] => [(i, v)]
  | q :: t => match Nat.beq q.1 i with
    | true => (i, v) :: t.filter (fun q => !(Nat.beq q.1 i))
    | false => q :: zput i v t
theorem zput_mem {i : Nat} {v : zV} {q : Nat × zV} : ∀ {l : List (Nat × zV)}, q ∈ zput i v l → q = (i, v) ∨ (q ∈ l ∧ ¬ q.1 = i)
  | [], h => by
    left
    simpa [zput] using h
  | p :: t, h => by
    unfold zput at h
    cases hb : Nat.beq p.1 i with
    | true =>
      rw [hb] at h
      rcases List.mem_cons.mp h with h | h
      · exact Or.inl h
      · obtain ⟨h1, h2⟩ := List.mem_filter.mp h
        refine Or.inr ⟨List.mem_cons_of_mem _ h1, fun e => ?_⟩
        rw [e] at h2
        simp at h2
    | false =>
      rw [hb] at h
      rcases List.mem_cons.mp h with h | h
      · subst h
        exact Or.inr ⟨List.mem_cons_self, fun e => by rw [e] at hb; simp at hb⟩
      · rcases zput_mem h with h | ⟨h1, h2⟩
        · exact Or.inl h
        · exact Or.inr ⟨List.mem_cons_of_mem _ h1, h2⟩
theorem zput_has {G : zG} {ls : Array Slot} {nL i : Nat} {v : zV} {L : List (Nat × zV)} (h : lv_has ls nL ((i, zv G v) :: (L.map (zlv G)).filter (fun q => !(q.1 == i) && !(q.1 + 1 == i && q.2.category == 2)))) : lv_has ls nL ((zput i v L).map (zlv G)) := by
  refine ⟨h.1, h.2.1, fun q hq => ?_⟩
  obtain ⟨q0, h0, rfl⟩ := List.mem_map.mp hq
  refine h.2.2 _ ?_
  rcases zput_mem h0 with rfl | ⟨h1, h2⟩
  · exact List.mem_cons_self
  · refine List.mem_cons_of_mem _ (List.mem_filter.mpr ⟨List.mem_map.mpr ⟨q0, h1, rfl⟩, ?_⟩)
    have hc : (zv G q0.2).category = 1 := zv_cat G q0.2
    simp [zlv, h2, hc]
section ZR1
variable {X : zX} {nL : Nat} {cc : ByteArray} {own : String} {Ts : List Cond} {f nw : Nat} {μ : zM} {pc : Nat} {L L' : List (Nat × zV)} {st : List zV}
theorem z_iconst (C : zC X nL cc own Ts f nw) {n : Int} (d : decode cc pc = .ok (.iconst n, 1)) (K : zJ X nL μ (pc + 1) L (.inl n :: st)) : zJ X nL μ pc L st := by
  obtain ⟨p, l, e, R, s, m, args, below, meth, c, Q, A, G, cells, slots⟩ := X
  obtain ⟨hx, hb, -⟩ := C
  intro hr H locs ls hP hS hl
  exact lv_iconst hx hb d rfl (K hr H locs ls hP hS hl)
theorem z_bipush (C : zC X nL cc own Ts f nw) {n : Int} (d : decode cc pc = .ok (.bipush n, 2)) (hn : (Int8.ofInt n).toInt32 = iI n) (K : zJ X nL μ (pc + 2) L (.inl n :: st)) : zJ X nL μ pc L st := by
  obtain ⟨p, l, e, R, s, m, args, below, meth, c, Q, A, G, cells, slots⟩ := X
  obtain ⟨hx, hb, -⟩ := C
  intro hr H locs ls hP hS hl
  exact lv_bipush hx hb d hn (K hr H locs ls hP hS hl)
theorem z_sipush (C : zC X nL cc own Ts f nw) {n : Int} (d : decode cc pc = .ok (.sipush n, 3)) (hn : (Int16.ofInt n).toInt32 = iI n) (K : zJ X nL μ (pc + 3) L (.inl n :: st)) : zJ X nL μ pc L st := by
  obtain ⟨p, l, e, R, s, m, args, below, meth, c, Q, A, G, cells, slots⟩ := X
  obtain ⟨hx, hb, -⟩ := C
  intro hr H locs ls hP hS hl
  exact lv_sipush hx hb d hn (K hr H locs ls hP hS hl)
theorem z_ldc (C : zC X nL cc own Ts f nw) {k : Nat} {n : Int} (d : decode cc pc = .ok (.ldc k, 2)) (hw : Cond.constant own k (iI n) ∈ zBIG) (K : zJ X nL μ (pc + 2) L (.inl n :: st)) : zJ X nL μ pc L st := by
  obtain ⟨p, l, e, R, s, m, args, below, meth, c, Q, A, G, cells, slots⟩ := X
  obtain ⟨hx, hb, -, hown, hts, hbig, -⟩ := C
  intro hr H locs ls hP hS hl
  exact lv_ldc hx hb hown (hts _ (hbig _ hw)) d (K hr H locs ls hP hS hl)
theorem z_ldcw (C : zC X nL cc own Ts f nw) {k : Nat} {n : Int} (d : decode cc pc = .ok (.ldc_w k, 3)) (hw : Cond.constant own k (iI n) ∈ zBIG) (K : zJ X nL μ (pc + 3) L (.inl n :: st)) : zJ X nL μ pc L st := by
  obtain ⟨p, l, e, R, s, m, args, below, meth, c, Q, A, G, cells, slots⟩ := X
  obtain ⟨hx, hb, -, hown, hts, hbig, -⟩ := C
  intro hr H locs ls hP hS hl
  exact lv_ldcw hx hb hown (hts _ (hbig _ hw)) d (K hr H locs ls hP hS hl)
theorem z_at {G : zG} {ls : Array Slot} (hl : lv_has ls nL (L.map (zlv G))) (k : Nat) {i : Nat} {v : zV} (h : L[k]? = some (i, v)) : ls[i]? = some (.val (zv G v)) := lv_at hl k (by rw [List.getElem?_map, h]; rfl)
theorem z_iload_n (C : zC X nL cc own Ts f nw) {k : Fin 4} {z : Int} (d : decode cc pc = .ok (.iload_n k, 1)) (j : Nat) (h : L[j]? = some ((k : Nat), .inl z)) (K : zJ X nL μ (pc + 1) L (.inl z :: st)) : zJ X nL μ pc L st := by
  obtain ⟨p, l, e, R, s, m, args, below, meth, c, Q, A, G, cells, slots⟩ := X
  obtain ⟨hx, hb, -⟩ := C
  intro hr H locs ls hP hS hl
  exact lv_iload_n hx hb d rfl (z_at hl j h) (K hr H locs ls hP hS hl)
theorem z_iload (C : zC X nL cc own Ts f nw) {k : Nat} {z : Int} (d : decode cc pc = .ok (.iload k, 2)) (j : Nat) (h : L[j]? = some (k, .inl z)) (K : zJ X nL μ (pc + 2) L (.inl z :: st)) : zJ X nL μ pc L st := by
  obtain ⟨p, l, e, R, s, m, args, below, meth, c, Q, A, G, cells, slots⟩ := X
  obtain ⟨hx, hb, -⟩ := C
  intro hr H locs ls hP hS hl
  exact lv_iload hx hb d (z_at hl j h) (K hr H locs ls hP hS hl)
theorem z_aload_n (C : zC X nL cc own Ts f nw) {k : Fin 4} {i : Nat} (d : decode cc pc = .ok (.aload_n k, 1)) (j : Nat) (h : L[j]? = some ((k : Nat), .inr i)) (K : zJ X nL μ (pc + 1) L (.inr i :: st)) : zJ X nL μ pc L st := by
  obtain ⟨p, l, e, R, s, m, args, below, meth, c, Q, A, G, cells, slots⟩ := X
  obtain ⟨hx, hb, -⟩ := C
  intro hr H locs ls hP hS hl
  exact lv_aload_n hx hb d rfl (z_at hl j h) (K hr H locs ls hP hS hl)
theorem z_istore_n (C : zC X nL cc own Ts f nw) {k : Fin 4} {z : Int} (d : decode cc pc = .ok (.istore_n k, 1)) (hn : (k : Nat) < nL) (hL : zput (k : Nat) (.inl z) L = L') (K : zJ X nL μ (pc + 1) L' st) : zJ X nL μ pc L (.inl z :: st) := by
  obtain ⟨p, l, e, R, s, m, args, below, meth, c, Q, A, G, cells, slots⟩ := X
  obtain ⟨hx, hb, -⟩ := C
  intro hr H locs ls hP hS hl
  subst hL
  exact lv_istore_n hx hb d rfl hl hn rfl (fun ls' hl' => K hr H locs ls' hP hS (zput_has (v := .inl z) hl'))
theorem z_istore (C : zC X nL cc own Ts f nw) {k : Nat} {z : Int} (d : decode cc pc = .ok (.istore k, 2)) (hn : k < nL) (hL : zput k (.inl z) L = L') (K : zJ X nL μ (pc + 2) L' st) : zJ X nL μ pc L (.inl z :: st) := by
  obtain ⟨p, l, e, R, s, m, args, below, meth, c, Q, A, G, cells, slots⟩ := X
  obtain ⟨hx, hb, -⟩ := C
  intro hr H locs ls hP hS hl
  subst hL
  exact lv_istore hx hb d hl hn rfl (fun ls' hl' => K hr H locs ls' hP hS (zput_has (v := .inl z) hl'))
theorem z_astore_n (C : zC X nL cc own Ts f nw) {k : Fin 4} {i : Nat} (d : decode cc pc = .ok (.astore_n k, 1)) (hn : (k : Nat) < nL) (hL : zput (k : Nat) (.inr i) L = L') (K : zJ X nL μ (pc + 1) L' st) : zJ X nL μ pc L (.inr i :: st) := by
  obtain ⟨p, l, e, R, s, m, args, below, meth, c, Q, A, G, cells, slots⟩ := X
  obtain ⟨hx, hb, -⟩ := C
  intro hr H locs ls hP hS hl
  subst hL
  exact lv_astore_n hx hb d rfl hl hn rfl (fun ls' hl' => K hr H locs ls' hP hS (zput_has (v := .inr i) hl'))
theorem z_iinc (C : zC X nL cc own Ts f nw) {k : Nat} {n z : Int} (d : decode cc pc = .ok (.iinc k n, 3)) (j : Nat) (h : L[j]? = some (k, .inl z)) (hn : k < nL) (hL : zput k (.inl (z + n)) L = L') (K : zJ X nL μ (pc + 3) L' st) : zJ X nL μ pc L st := by
  obtain ⟨p, l, e, R, s, m, args, below, meth, c, Q, A, G, cells, slots⟩ := X
  obtain ⟨hx, hb, -⟩ := C
  intro hr H locs ls hP hS hl
  subst hL
  exact lv_iinc hx hb d hl (k := j) (x := iI z) (v := iI (z + n)) (by rw [List.getElem?_map, h]; rfl) (iI_add z n) hn rfl (fun ls' hl' => K hr H locs ls' hP hS (zput_has (v := .inl (z + n)) hl'))
theorem z_iadd (C : zC X nL cc own Ts f nw) {a b : Int} (d : decode cc pc = .ok (.iadd, 1)) (K : zJ X nL μ (pc + 1) L (.inl (a + b) :: st)) : zJ X nL μ pc L (.inl b :: .inl a :: st) := by
  obtain ⟨p, l, e, R, s, m, args, below, meth, c, Q, A, G, cells, slots⟩ := X
  obtain ⟨hx, hb, -⟩ := C
  intro hr H locs ls hP hS hl
  refine lv_iadd (x := iI a) (y := iI b) hx hb d ?_
  rw [iI_add]
  exact K hr H locs ls hP hS hl
theorem z_isub (C : zC X nL cc own Ts f nw) {a b : Int} (d : decode cc pc = .ok (.isub, 1)) (K : zJ X nL μ (pc + 1) L (.inl (a - b) :: st)) : zJ X nL μ pc L (.inl b :: .inl a :: st) := by
  obtain ⟨p, l, e, R, s, m, args, below, meth, c, Q, A, G, cells, slots⟩ := X
  obtain ⟨hx, hb, -⟩ := C
  intro hr H locs ls hP hS hl
  refine lv_isub (x := iI a) (y := iI b) hx hb d ?_
  rw [iI_sub]
  exact K hr H locs ls hP hS hl
theorem z_imul (C : zC X nL cc own Ts f nw) {a b : Int} (d : decode cc pc = .ok (.imul, 1)) (K : zJ X nL μ (pc + 1) L (.inl (a * b) :: st)) : zJ X nL μ pc L (.inl b :: .inl a :: st) := by
  obtain ⟨p, l, e, R, s, m, args, below, meth, c, Q, A, G, cells, slots⟩ := X
  obtain ⟨hx, hb, -⟩ := C
  intro hr H locs ls hP hS hl
  refine lv_imul (x := iI a) (y := iI b) hx hb d ?_
  rw [iI_mul]
  exact K hr H locs ls hP hS hl
theorem z_ineg (C : zC X nL cc own Ts f nw) {a : Int} (d : decode cc pc = .ok (.ineg, 1)) (K : zJ X nL μ (pc + 1) L (.inl (-a) :: st)) : zJ X nL μ pc L (.inl a :: st) := by
  obtain ⟨p, l, e, R, s, m, args, below, meth, c, Q, A, G, cells, slots⟩ := X
  obtain ⟨hx, hb, -⟩ := C
  intro hr H locs ls hP hS hl
  refine lv_ineg (x := iI a) hx hb d ?_
  rw [iI_neg]
  exact K hr H locs ls hP hS hl
theorem z_idiv (C : zC X nL cc own Ts f nw) {a b : Int} (d : decode cc pc = .ok (.idiv, 1)) (h : (0 ≤ a ∧ a < 2147483648) ∧ 0 < b ∧ b < 2147483648) (K : zJ X nL μ (pc + 1) L (.inl (a / b) :: st)) : zJ X nL μ pc L (.inl b :: .inl a :: st) := by
  obtain ⟨p, l, e, R, s, m, args, below, meth, c, Q, A, G, cells, slots⟩ := X
  obtain ⟨hx, hb, -⟩ := C
  intro hr H locs ls hP hS hl
  have ha : zR a := ⟨by omega, by omega⟩
  have hb' : zR b := ⟨by omega, by omega⟩
  refine lv_idiv (x := iI a) (y := iI b) hx hb d (fun z => by rw [← iI_0, iI_eq hb' ⟨by omega, by omega⟩] at z; omega) ?_
  rw [iI_div ha hb' h.1.1 h.2.1]
  exact K hr H locs ls hP hS hl
theorem z_irem (C : zC X nL cc own Ts f nw) {a b : Int} (d : decode cc pc = .ok (.irem, 1)) (h : (0 ≤ a ∧ a < 2147483648) ∧ 0 < b ∧ b < 2147483648) (K : zJ X nL μ (pc + 1) L (.inl (a % b) :: st)) : zJ X nL μ pc L (.inl b :: .inl a :: st) := by
  obtain ⟨p, l, e, R, s, m, args, below, meth, c, Q, A, G, cells, slots⟩ := X
  obtain ⟨hx, hb, -⟩ := C
  intro hr H locs ls hP hS hl
  have ha : zR a := ⟨by omega, by omega⟩
  have hb' : zR b := ⟨by omega, by omega⟩
  refine lv_irem (x := iI a) (y := iI b) hx hb d (fun z => by rw [← iI_0, iI_eq hb' ⟨by omega, by omega⟩] at z; omega) ?_
  rw [iI_rem ha hb' h.1.1 h.2.1]
  exact K hr H locs ls hP hS hl
theorem z_iand (C : zC X nL cc own Ts f nw) {a b : Int} (d : decode cc pc = .ok (.iand, 1)) (K : zJ X nL μ (pc + 1) L (.inl (zand a b) :: st)) : zJ X nL μ pc L (.inl b :: .inl a :: st) := by
  obtain ⟨p, l, e, R, s, m, args, below, meth, c, Q, A, G, cells, slots⟩ := X
  obtain ⟨hx, hb, -⟩ := C
  intro hr H locs ls hP hS hl
  refine lv_iand (x := iI a) (y := iI b) hx hb d ?_
  rw [← iI_of (iI a &&& iI b)]
  exact K hr H locs ls hP hS hl
theorem z_ior (C : zC X nL cc own Ts f nw) {a b : Int} (d : decode cc pc = .ok (.ior, 1)) (K : zJ X nL μ (pc + 1) L (.inl (zor a b) :: st)) : zJ X nL μ pc L (.inl b :: .inl a :: st) := by
  obtain ⟨p, l, e, R, s, m, args, below, meth, c, Q, A, G, cells, slots⟩ := X
  obtain ⟨hx, hb, -⟩ := C
  intro hr H locs ls hP hS hl
  refine lv_ior (x := iI a) (y := iI b) hx hb d ?_
  rw [← iI_of (iI a ||| iI b)]
  exact K hr H locs ls hP hS hl
theorem z_ixor (C : zC X nL cc own Ts f nw) {a b : Int} (d : decode cc pc = .ok (.ixor, 1)) (K : zJ X nL μ (pc + 1) L (.inl (zxor a b) :: st)) : zJ X nL μ pc L (.inl b :: .inl a :: st) := by
  obtain ⟨p, l, e, R, s, m, args, below, meth, c, Q, A, G, cells, slots⟩ := X
  obtain ⟨hx, hb, -⟩ := C
  intro hr H locs ls hP hS hl
  refine lv_ixor (x := iI a) (y := iI b) hx hb d ?_
  rw [← iI_of (iI a ^^^ iI b)]
  exact K hr H locs ls hP hS hl
theorem z_ishl (C : zC X nL cc own Ts f nw) {a b : Int} (d : decode cc pc = .ok (.ishl, 1)) (K : zJ X nL μ (pc + 1) L (.inl (zshl a b) :: st)) : zJ X nL μ pc L (.inl b :: .inl a :: st) := by
  obtain ⟨p, l, e, R, s, m, args, below, meth, c, Q, A, G, cells, slots⟩ := X
  obtain ⟨hx, hb, -⟩ := C
  intro hr H locs ls hP hS hl
  refine lv_ishl (x := iI a) (y := iI b) hx hb d ?_
  rw [← iI_of (iI a <<< (iI b &&& 31))]
  exact K hr H locs ls hP hS hl
theorem z_ishr (C : zC X nL cc own Ts f nw) {a b : Int} (d : decode cc pc = .ok (.ishr, 1)) (K : zJ X nL μ (pc + 1) L (.inl (zshr a b) :: st)) : zJ X nL μ pc L (.inl b :: .inl a :: st) := by
  obtain ⟨p, l, e, R, s, m, args, below, meth, c, Q, A, G, cells, slots⟩ := X
  obtain ⟨hx, hb, -⟩ := C
  intro hr H locs ls hP hS hl
  refine lv_ishr (x := iI a) (y := iI b) hx hb d ?_
  rw [← iI_of (iI a >>> (iI b &&& 31))]
  exact K hr H locs ls hP hS hl
theorem z_i2c (C : zC X nL cc own Ts f nw) {a : Int} (d : decode cc pc = .ok (.i2c, 1)) (h : 0 ≤ a ∧ a < 65536) (K : zJ X nL μ (pc + 1) L (.inl a :: st)) : zJ X nL μ pc L (.inl a :: st) := by
  obtain ⟨p, l, e, R, s, m, args, below, meth, c, Q, A, G, cells, slots⟩ := X
  obtain ⟨hx, hb, -⟩ := C
  intro hr H locs ls hP hS hl
  refine lv_i2c (x := iI a) (v := iI a) hx hb d ?_ (K hr H locs ls hP hS hl)
  obtain ⟨n, rfl⟩ : ∃ n : Nat, a = (n : Int) := ⟨a.toNat, by omega⟩
  have e1 : iI (n : Int) = nI n := Int32.ofInt_eq_ofNat
  rw [e1, pk_char, pk_tn (by omega), Nat.mod_eq_of_lt (by omega)]
theorem z_dup (C : zC X nL cc own Ts f nw) {v : zV} (d : decode cc pc = .ok (.dup, 1)) (K : zJ X nL μ (pc + 1) L (v :: v :: st)) : zJ X nL μ pc L (v :: st) := by
  obtain ⟨p, l, e, R, s, m, args, below, meth, c, Q, A, G, cells, slots⟩ := X
  obtain ⟨hx, hb, -⟩ := C
  intro hr H locs ls hP hS hl
  exact lv_dup hx hb d (zv_cat G v) (K hr H locs ls hP hS hl)
theorem z_dup2 (C : zC X nL cc own Ts f nw) {u v : zV} (d : decode cc pc = .ok (.dup2, 1)) (K : zJ X nL μ (pc + 1) L (v :: u :: v :: u :: st)) : zJ X nL μ pc L (v :: u :: st) := by
  obtain ⟨p, l, e, R, s, m, args, below, meth, c, Q, A, G, cells, slots⟩ := X
  obtain ⟨hx, hb, -⟩ := C
  intro hr H locs ls hP hS hl
  exact lv_dup2_11 hx hb d (zv_cat G v) (zv_cat G u) (K hr H locs ls hP hS hl)
theorem z_pop (C : zC X nL cc own Ts f nw) {v : zV} (d : decode cc pc = .ok (.pop, 1)) (K : zJ X nL μ (pc + 1) L st) : zJ X nL μ pc L (v :: st) := by
  obtain ⟨p, l, e, R, s, m, args, below, meth, c, Q, A, G, cells, slots⟩ := X
  obtain ⟨hx, hb, -⟩ := C
  intro hr H locs ls hP hS hl
  exact lv_pop hx hb d (zv_cat G v) (K hr H locs ls hP hS hl)
theorem z_goto (C : zC X nL cc own Ts f nw) {off : Int} {tgt : Nat} (d : decode cc pc = .ok (.goto off, 3)) (ht : (pc : Int) + off = (tgt : Int)) (K : zJ X nL μ tgt L st) : zJ X nL μ pc L st := by
  obtain ⟨p, l, e, R, s, m, args, below, meth, c, Q, A, G, cells, slots⟩ := X
  obtain ⟨hx, hb, -⟩ := C
  intro hr H locs ls hP hS hl
  exact lv_goto hx hb d ht (K hr H locs ls hP hS hl)
/-- the top named anew; the memory named; the top as the machine holds it -/
theorem z_top {a : Int} (K : ∀ b : Int, b = a → zJ X nL μ pc L (.inl b :: st)) : zJ X nL μ pc L (.inl a :: st) := K a rfl
theorem z_mem (K : ∀ μ' : zM, μ' = μ → zJ X nL μ' pc L st) : zJ X nL μ pc L st := K μ rfl
theorem z_wrap {a : Int} (K : zJ X nL μ pc L (.inl (zw a) :: st)) : zJ X nL μ pc L (.inl a :: st) := by
  obtain ⟨p, l, e, R, s, m, args, below, meth, c, Q, A, G, cells, slots⟩ := X
  intro hr H locs ls hP hS hl
  have h := K hr H locs ls hP hS hl
  have e1 : zv G (.inl (zw a)) = zv G (.inl a) := by
    show Value.int (iI (zw a)) = Value.int (iI a)
    rw [zw_iI]
  rw [List.map_cons, e1] at h
  exact h
theorem z_R (K : zRM μ → zJ X nL μ pc L st) : zJ X nL μ pc L st := by
  obtain ⟨p, l, e, R, s, m, args, below, meth, c, Q, A, G, cells, slots⟩ := X
  intro hr
  exact K hr hr
end ZR1
end
section
/-! rows of zJ: branches, fields, rows of ints -/
section ZR2
variable {X : zX} {nL : Nat} {cc : ByteArray} {own : String} {Ts : List Cond} {f nw : Nat} {μ : zM} {pc : Nat} {L L' : List (Nat × zV)} {st : List zV}
theorem z_icmp_eq (C : zC X nL cc own Ts f nw) {a b : Int} {off : Int} {tgt : Nat} (d : decode cc pc = .ok (.if_icmp .eq off, 3)) (ht : (pc : Int) + off = (tgt : Int)) (hA : zR a) (hB : zR b) (kt : a = b → zJ X nL μ tgt L st) (kf : ¬ a = b → zJ X nL μ (pc + 3) L st) : zJ X nL μ pc L (.inl b :: .inl a :: st) := by
  obtain ⟨p, l, e, R, s, m, args, below, meth, c, Q, A, G, cells, slots⟩ := X
  obtain ⟨hx, hb, -⟩ := C
  intro hr H locs ls hP hS hl
  exact lv_icmp_eq (x := iI a) (y := iI b) hx hb d ht (fun h => kt (by first | exact (iI_eq hA hB).mp h | (have := (iI_eq hA hB).mp h; omega)) hr H locs ls hP hS hl) (fun h => kf (by have := mt (iI_eq hA hB).mpr h; first | exact this | omega) hr H locs ls hP hS hl)
theorem z_if_eq (C : zC X nL cc own Ts f nw) {a : Int} {off : Int} {tgt : Nat} (d : decode cc pc = .ok (.ifCond .eq off, 3)) (ht : (pc : Int) + off = (tgt : Int)) (hA : zR a) (kt : a = 0 → zJ X nL μ tgt L st) (kf : ¬ a = 0 → zJ X nL μ (pc + 3) L st) : zJ X nL μ pc L (.inl a :: st) := by
  obtain ⟨p, l, e, R, s, m, args, below, meth, c, Q, A, G, cells, slots⟩ := X
  obtain ⟨hx, hb, -⟩ := C
  intro hr H locs ls hP hS hl
  have hB : zR 0 := ⟨by omega, by omega⟩
  refine lv_if_eq (x := iI a) hx hb d ht ?_ ?_ <;> rw [← iI_0]
  · exact (fun h => kt (by first | exact (iI_eq hA hB).mp h | (have := (iI_eq hA hB).mp h; omega)) hr H locs ls hP hS hl)
  · exact (fun h => kf (by have := mt (iI_eq hA hB).mpr h; first | exact this | omega) hr H locs ls hP hS hl)
theorem z_icmp_ne (C : zC X nL cc own Ts f nw) {a b : Int} {off : Int} {tgt : Nat} (d : decode cc pc = .ok (.if_icmp .ne off, 3)) (ht : (pc : Int) + off = (tgt : Int)) (hA : zR a) (hB : zR b) (kt : ¬ a = b → zJ X nL μ tgt L st) (kf : a = b → zJ X nL μ (pc + 3) L st) : zJ X nL μ pc L (.inl b :: .inl a :: st) := by
  obtain ⟨p, l, e, R, s, m, args, below, meth, c, Q, A, G, cells, slots⟩ := X
  obtain ⟨hx, hb, -⟩ := C
  intro hr H locs ls hP hS hl
  exact lv_icmp_ne (x := iI a) (y := iI b) hx hb d ht (fun h => kt (by first | exact ((not_congr (iI_eq hA hB))).mp h | (have := ((not_congr (iI_eq hA hB))).mp h; omega)) hr H locs ls hP hS hl) (fun h => kf ((iI_eq hA hB).mp h) hr H locs ls hP hS hl)
theorem z_if_ne (C : zC X nL cc own Ts f nw) {a : Int} {off : Int} {tgt : Nat} (d : decode cc pc = .ok (.ifCond .ne off, 3)) (ht : (pc : Int) + off = (tgt : Int)) (hA : zR a) (kt : ¬ a = 0 → zJ X nL μ tgt L st) (kf : a = 0 → zJ X nL μ (pc + 3) L st) : zJ X nL μ pc L (.inl a :: st) := by
  obtain ⟨p, l, e, R, s, m, args, below, meth, c, Q, A, G, cells, slots⟩ := X
  obtain ⟨hx, hb, -⟩ := C
  intro hr H locs ls hP hS hl
  have hB : zR 0 := ⟨by omega, by omega⟩
  refine lv_if_ne (x := iI a) hx hb d ht ?_ ?_ <;> rw [← iI_0]
  · exact (fun h => kt (by first | exact ((not_congr (iI_eq hA hB))).mp h | (have := ((not_congr (iI_eq hA hB))).mp h; omega)) hr H locs ls hP hS hl)
  · exact (fun h => kf ((iI_eq hA hB).mp h) hr H locs ls hP hS hl)
theorem z_icmp_lt (C : zC X nL cc own Ts f nw) {a b : Int} {off : Int} {tgt : Nat} (d : decode cc pc = .ok (.if_icmp .lt off, 3)) (ht : (pc : Int) + off = (tgt : Int)) (hA : zR a) (hB : zR b) (kt : a < b → zJ X nL μ tgt L st) (kf : b ≤ a → zJ X nL μ (pc + 3) L st) : zJ X nL μ pc L (.inl b :: .inl a :: st) := by
  obtain ⟨p, l, e, R, s, m, args, below, meth, c, Q, A, G, cells, slots⟩ := X
  obtain ⟨hx, hb, -⟩ := C
  intro hr H locs ls hP hS hl
  exact lv_icmp_lt (x := iI a) (y := iI b) hx hb d ht (fun h => kt (by first | exact (iI_lt hA hB).mp h | (have := (iI_lt hA hB).mp h; omega)) hr H locs ls hP hS hl) (fun h => kf (by have := mt (iI_lt hA hB).mpr h; first | exact this | omega) hr H locs ls hP hS hl)
theorem z_if_lt (C : zC X nL cc own Ts f nw) {a : Int} {off : Int} {tgt : Nat} (d : decode cc pc = .ok (.ifCond .lt off, 3)) (ht : (pc : Int) + off = (tgt : Int)) (hA : zR a) (kt : a < 0 → zJ X nL μ tgt L st) (kf : 0 ≤ a → zJ X nL μ (pc + 3) L st) : zJ X nL μ pc L (.inl a :: st) := by
  obtain ⟨p, l, e, R, s, m, args, below, meth, c, Q, A, G, cells, slots⟩ := X
  obtain ⟨hx, hb, -⟩ := C
  intro hr H locs ls hP hS hl
  have hB : zR 0 := ⟨by omega, by omega⟩
  refine lv_if_lt (x := iI a) hx hb d ht ?_ ?_ <;> rw [← iI_0]
  · exact (fun h => kt (by first | exact (iI_lt hA hB).mp h | (have := (iI_lt hA hB).mp h; omega)) hr H locs ls hP hS hl)
  · exact (fun h => kf (by have := mt (iI_lt hA hB).mpr h; first | exact this | omega) hr H locs ls hP hS hl)
theorem z_icmp_ge (C : zC X nL cc own Ts f nw) {a b : Int} {off : Int} {tgt : Nat} (d : decode cc pc = .ok (.if_icmp .ge off, 3)) (ht : (pc : Int) + off = (tgt : Int)) (hA : zR a) (hB : zR b) (kt : b ≤ a → zJ X nL μ tgt L st) (kf : a < b → zJ X nL μ (pc + 3) L st) : zJ X nL μ pc L (.inl b :: .inl a :: st) := by
  obtain ⟨p, l, e, R, s, m, args, below, meth, c, Q, A, G, cells, slots⟩ := X
  obtain ⟨hx, hb, -⟩ := C
  intro hr H locs ls hP hS hl
  exact lv_icmp_ge (x := iI a) (y := iI b) hx hb d ht (fun h => kt (by first | exact (iI_le hB hA).mp h | (have := (iI_le hB hA).mp h; omega)) hr H locs ls hP hS hl) (fun h => kf (by have := mt (iI_le hB hA).mpr h; first | exact this | omega) hr H locs ls hP hS hl)
theorem z_if_ge (C : zC X nL cc own Ts f nw) {a : Int} {off : Int} {tgt : Nat} (d : decode cc pc = .ok (.ifCond .ge off, 3)) (ht : (pc : Int) + off = (tgt : Int)) (hA : zR a) (kt : 0 ≤ a → zJ X nL μ tgt L st) (kf : a < 0 → zJ X nL μ (pc + 3) L st) : zJ X nL μ pc L (.inl a :: st) := by
  obtain ⟨p, l, e, R, s, m, args, below, meth, c, Q, A, G, cells, slots⟩ := X
  obtain ⟨hx, hb, -⟩ := C
  intro hr H locs ls hP hS hl
  have hB : zR 0 := ⟨by omega, by omega⟩
  refine lv_if_ge (x := iI a) hx hb d ht ?_ ?_ <;> rw [← iI_0]
  · exact (fun h => kt (by first | exact (iI_le hB hA).mp h | (have := (iI_le hB hA).mp h; omega)) hr H locs ls hP hS hl)
  · exact (fun h => kf (by have := mt (iI_le hB hA).mpr h; first | exact this | omega) hr H locs ls hP hS hl)
theorem z_icmp_gt (C : zC X nL cc own Ts f nw) {a b : Int} {off : Int} {tgt : Nat} (d : decode cc pc = .ok (.if_icmp .gt off, 3)) (ht : (pc : Int) + off = (tgt : Int)) (hA : zR a) (hB : zR b) (kt : b < a → zJ X nL μ tgt L st) (kf : a ≤ b → zJ X nL μ (pc + 3) L st) : zJ X nL μ pc L (.inl b :: .inl a :: st) := by
  obtain ⟨p, l, e, R, s, m, args, below, meth, c, Q, A, G, cells, slots⟩ := X
  obtain ⟨hx, hb, -⟩ := C
  intro hr H locs ls hP hS hl
  exact lv_icmp_gt (x := iI a) (y := iI b) hx hb d ht (fun h => kt (by first | exact (iI_lt hB hA).mp h | (have := (iI_lt hB hA).mp h; omega)) hr H locs ls hP hS hl) (fun h => kf (by have := mt (iI_lt hB hA).mpr h; first | exact this | omega) hr H locs ls hP hS hl)
theorem z_if_gt (C : zC X nL cc own Ts f nw) {a : Int} {off : Int} {tgt : Nat} (d : decode cc pc = .ok (.ifCond .gt off, 3)) (ht : (pc : Int) + off = (tgt : Int)) (hA : zR a) (kt : 0 < a → zJ X nL μ tgt L st) (kf : a ≤ 0 → zJ X nL μ (pc + 3) L st) : zJ X nL μ pc L (.inl a :: st) := by
  obtain ⟨p, l, e, R, s, m, args, below, meth, c, Q, A, G, cells, slots⟩ := X
  obtain ⟨hx, hb, -⟩ := C
  intro hr H locs ls hP hS hl
  have hB : zR 0 := ⟨by omega, by omega⟩
  refine lv_if_gt (x := iI a) hx hb d ht ?_ ?_ <;> rw [← iI_0]
  · exact (fun h => kt (by first | exact (iI_lt hB hA).mp h | (have := (iI_lt hB hA).mp h; omega)) hr H locs ls hP hS hl)
  · exact (fun h => kf (by have := mt (iI_lt hB hA).mpr h; first | exact this | omega) hr H locs ls hP hS hl)
theorem z_icmp_le (C : zC X nL cc own Ts f nw) {a b : Int} {off : Int} {tgt : Nat} (d : decode cc pc = .ok (.if_icmp .le off, 3)) (ht : (pc : Int) + off = (tgt : Int)) (hA : zR a) (hB : zR b) (kt : a ≤ b → zJ X nL μ tgt L st) (kf : b < a → zJ X nL μ (pc + 3) L st) : zJ X nL μ pc L (.inl b :: .inl a :: st) := by
  obtain ⟨p, l, e, R, s, m, args, below, meth, c, Q, A, G, cells, slots⟩ := X
  obtain ⟨hx, hb, -⟩ := C
  intro hr H locs ls hP hS hl
  exact lv_icmp_le (x := iI a) (y := iI b) hx hb d ht (fun h => kt (by first | exact (iI_le hA hB).mp h | (have := (iI_le hA hB).mp h; omega)) hr H locs ls hP hS hl) (fun h => kf (by have := mt (iI_le hA hB).mpr h; first | exact this | omega) hr H locs ls hP hS hl)
theorem z_if_le (C : zC X nL cc own Ts f nw) {a : Int} {off : Int} {tgt : Nat} (d : decode cc pc = .ok (.ifCond .le off, 3)) (ht : (pc : Int) + off = (tgt : Int)) (hA : zR a) (kt : a ≤ 0 → zJ X nL μ tgt L st) (kf : 0 < a → zJ X nL μ (pc + 3) L st) : zJ X nL μ pc L (.inl a :: st) := by
  obtain ⟨p, l, e, R, s, m, args, below, meth, c, Q, A, G, cells, slots⟩ := X
  obtain ⟨hx, hb, -⟩ := C
  intro hr H locs ls hP hS hl
  have hB : zR 0 := ⟨by omega, by omega⟩
  refine lv_if_le (x := iI a) hx hb d ht ?_ ?_ <;> rw [← iI_0]
  · exact (fun h => kt (by first | exact (iI_le hA hB).mp h | (have := (iI_le hA hB).mp h; omega)) hr H locs ls hP hS hl)
  · exact (fun h => kf (by have := mt (iI_le hA hB).mpr h; first | exact this | omega) hr H locs ls hP hS hl)
theorem z_tabIn (C : zC X nL cc own Ts f nw) {x dflt lo hi : Int} {offs : Array Int} {len : Nat} {off : Int} {tgt : Nat} (d : decode cc pc = .ok (.tableswitch dflt lo hi offs, len)) (hx : zR x) (k : Nat) (h : x = lo + (k : Int)) (h2 : x ≤ hi) (ho : offs[k]? = some off) (ht : (pc : Int) + off = (tgt : Int)) (K : zJ X nL μ tgt L st) : zJ X nL μ pc L (.inl x :: st) := by
  have hA := hx
  obtain ⟨p, l, e, R, s, m, args, below, meth, c, Q, A, G, cells, slots⟩ := X
  obtain ⟨hx, hb, -⟩ := C
  intro hr H locs ls hP hS hl
  have e1 : (iI x).toInt = x := iI_toInt hA
  exact lv_tableIn (x := iI x) hx hb d (by rw [e1]; omega) (by rw [e1]; omega) (by rw [e1, show (x - lo).toNat = k by omega]; exact ho) ht (K hr H locs ls hP hS hl)
theorem z_tabOut (C : zC X nL cc own Ts f nw) {x dflt lo hi : Int} {offs : Array Int} {len : Nat} {tgt : Nat} (d : decode cc pc = .ok (.tableswitch dflt lo hi offs, len)) (hx : zR x) (h : x < lo ∨ hi < x) (ht : (pc : Int) + dflt = (tgt : Int)) (K : zJ X nL μ tgt L st) : zJ X nL μ pc L (.inl x :: st) := by
  have hA := hx
  obtain ⟨p, l, e, R, s, m, args, below, meth, c, Q, A, G, cells, slots⟩ := X
  obtain ⟨hx, hb, -⟩ := C
  intro hr H locs ls hP hS hl
  have e1 : (iI x).toInt = x := iI_toInt hA
  exact lv_tableOut (x := iI x) hx hb d (by rw [e1]; exact h) ht (K hr H locs ls hP hS hl)
theorem z_look (C : zC X nL cc own Ts f nw) {x dflt : Int} {ps : Array (Int × Int)} {len : Nat} {off : Int} {tgt : Nat} (d : decode cc pc = .ok (.lookupswitch dflt ps, len)) (hx : zR x) (hp : (ps.toList.zip (ps.toList.drop 1)).all (fun (a, next) => a.1 < next.1) = true) (ho : Op.lookupswitch.offset ps.toList dflt x = off) (ht : (pc : Int) + off = (tgt : Int)) (K : zJ X nL μ tgt L st) : zJ X nL μ pc L (.inl x :: st) := by
  have hA := hx
  obtain ⟨p, l, e, R, s, m, args, below, meth, c, Q, A, G, cells, slots⟩ := X
  obtain ⟨hx, hb, -⟩ := C
  intro hr H locs ls hP hS hl
  exact lv_lookup (x := iI x) hx hb d hp (by rw [iI_toInt hA]; exact ho) ht (K hr H locs ls hP hS hl)
/-- a field as an instruction names it: the class's number, the field's place -/
def zF (own : String) (idx ci k : Nat) : Prop := ∃ (q : vw_C), vwCl[ci]? = some q ∧ k < q.2.2 ∧ (∀ w ∈ u_ws q.1 q.2.1 q.2.2, w ∈ zBIG) ∧ Cond.fieldLink own idx (q.2.1 k).1 (q.2.1 k).2.1 (q.2.1 k).2.2.1 ∈ zBIG
/-- a field of ints that may be written -/
def zFp (ci k : Nat) (ty : FieldType) : Prop := ∃ (q : vw_C) (ty0 : Nat → FieldType), vwCl[ci]? = some q ∧ (∀ k, k < q.2.2 → parseFieldDescriptor (q.2.1 k).2.2.1 = some (ty0 k)) ∧ (∀ a, a < q.2.2 → ∀ b, b < q.2.2 → a ≠ b → (q.2.1 a).2.1 ≠ (q.2.1 b).2.1) ∧ (q.2.1 k).2.2.2 = false ∧ ty0 k = ty
theorem z_getI (C : zC X nL cc own Ts f nw) {idx ci k i : Nat} {ks : List (Option Nat)} (F : zF own idx ci k) (d : decode cc pc = .ok (.getfield idx, 3)) (hi : i < 68) (hd : zd i = .inl (ci, ks)) (hk : ks[k]? = some none) (kz : Int) (hkz : kz = (k : Int)) (K : zR (μ i kz) → zJ X nL μ (pc + 3) L (.inl (μ i kz) :: st)) : zJ X nL μ pc L (.inr i :: st) := by
  obtain ⟨p, l, e, R, s, m, args, below, meth, c, Q, A, G, cells, slots⟩ := X
  obtain ⟨hx, hb, -, hown, hts, hbig, -, -, hE, -⟩ := C
  obtain ⟨⟨Cn, T, N⟩, h1, h2, h3, h4⟩ := F
  intro hr H locs ls hP hS hl
  have hg := zW_get G μ hi
  rw [hd] at hg
  refine va_get (C := Cn) (T := T) (N := N) hx hb hts (fun w hw => hbig w (h3 w hw)) hown hE.1 hP i hg h1 k h2 (hts _ (hbig _ h4)) (fun _ h => h) (v := .int (iI (μ i kz))) ?_ d (K (hr i kz) hr H locs ls hP hS hl)
  rw [zfs_int G _ ks 0 k hk, hkz, Nat.zero_add]
theorem z_getR (C : zC X nL cc own Ts f nw) {idx ci k i t : Nat} {ks : List (Option Nat)} (F : zF own idx ci k) (d : decode cc pc = .ok (.getfield idx, 3)) (hi : i < 68) (hd : zd i = .inl (ci, ks)) (hk : ks[k]? = some (some t)) (K : zJ X nL μ (pc + 3) L (.inr t :: st)) : zJ X nL μ pc L (.inr i :: st) := by
  obtain ⟨p, l, e, R, s, m, args, below, meth, c, Q, A, G, cells, slots⟩ := X
  obtain ⟨hx, hb, -, hown, hts, hbig, -, -, hE, -⟩ := C
  obtain ⟨⟨Cn, T, N⟩, h1, h2, h3, h4⟩ := F
  intro hr H locs ls hP hS hl
  have hg := zW_get G μ hi
  rw [hd] at hg
  exact va_get (C := Cn) (T := T) (N := N) hx hb hts (fun w hw => hbig w (h3 w hw)) hown hE.1 hP i hg h1 k h2 (hts _ (hbig _ h4)) (fun _ h => h) (v := .ref (G.2.2.2 t)) (zfs_ref G _ ks 0 k hk) d (K hr H locs ls hP hS hl)
theorem z_putW (C : zC X nL cc own Ts f nw) {idx ci k i : Nat} {v v' : Int} {ty : FieldType} {ks : List (Option Nat)} (F : zF own idx ci k) (Fp : zFp ci k ty) (d : decode cc pc = .ok (.putfield idx, 3)) (hi : i < 68) (hd : zd i = .inl (ci, ks)) (hk : ks[k]? = some none) (kz : Int) (hkz : kz = (k : Int)) (hn : narrow ty (.int (iI v)) = .int (iI v)) (hfit : fits ty (.int (iI v)) = true) (hv : zR v') (hvv : iI v = iI v') (K : zJ X nL (zs μ i kz v') (pc + 3) L st) : zJ X nL μ pc L (.inl v :: .inr i :: st) := by
  obtain ⟨p, l, e, R, s, m, args, below, meth, c, Q, A, G, cells, slots⟩ := X
  obtain ⟨hx, hb, -, hown, hts, hbig, -, hD, hE, -⟩ := C
  obtain ⟨⟨Cn, T, N⟩, h1, h2, h3, h4⟩ := F
  obtain ⟨q, ty0, g1, g2, g3, g4, g5⟩ := Fp
  have hq : q = (Cn, T, N) := Option.some.inj (g1.symm.trans h1)
  subst hq
  intro hr H locs ls hP hS hl
  have hg := zW_get G μ hi
  rw [hd] at hg
  refine va_put (C := Cn) (T := T) (N := N) (A := A) hx hb hts (fun w hw => hbig w (h3 w hw)) ty0 g2 g3 hown hE.1 hP (zD_any μ hD) hS i hg h1 k h2 (hts _ (hbig _ h4)) (fun _ h => h) g4 (v := .int (iI v)) (ty := ty) (by rw [g2 k h2, g5]) hn hfit (by rw [zfs_len]; exact (List.getElem?_eq_some_iff.mp hk).1) d (fun H1 locs1 hP1 hD1 hS1 => ?_)
  refine K (zs_R hr i kz hv) H1 locs1 ls ?_ hS1 hl
  have e1 : (zW G μ).set i (G.2.2.2 i, .inr (ci, (zfs G (μ i) ks 0).set k (.int (iI v)))) = zW G (zs μ i kz v') := by
    rw [← zW_set G μ hi kz v', hd, hvv, zfs_set G (μ i) v' ks 0 k hk, hkz]
    simp only [Nat.zero_add]
    rfl
  rw [← e1]
  exact hP1
theorem z_putI (C : zC X nL cc own Ts f nw) {idx ci k i : Nat} {v : Int} {ks : List (Option Nat)} (F : zF own idx ci k) (Fp : zFp ci k .int) (d : decode cc pc = .ok (.putfield idx, 3)) (hi : i < 68) (hd : zd i = .inl (ci, ks)) (hk : ks[k]? = some none) (kz : Int) (hkz : kz = (k : Int)) (hv : zR v) (K : zJ X nL (zs μ i kz v) (pc + 3) L st) : zJ X nL μ pc L (.inl v :: .inr i :: st) :=
  z_putW C F Fp d hi hd hk kz hkz rfl (by rfl) hv rfl K
theorem z_putIw (C : zC X nL cc own Ts f nw) {idx ci k i : Nat} {v : Int} {ks : List (Option Nat)} (F : zF own idx ci k) (Fp : zFp ci k .int) (d : decode cc pc = .ok (.putfield idx, 3)) (hi : i < 68) (hd : zd i = .inl (ci, ks)) (hk : ks[k]? = some none) (kz : Int) (hkz : kz = (k : Int)) (K : zJ X nL (zs μ i kz (zw v)) (pc + 3) L st) : zJ X nL μ pc L (.inl v :: .inr i :: st) :=
  z_putW C F Fp d hi hd hk kz hkz rfl (by rfl) (zw_R v) (zw_iI v).symm K
theorem z_iald (C : zC X nL cc own Ts f nw) {i n : Nat} {x : Int} (d : decode cc pc = .ok (.iaload, 1)) (hi : i < 68) (hd : zd i = .inr (.inl n)) (h : 0 ≤ x ∧ x < (n : Int)) (hn : n ≤ 100) (K : zR (μ i x) → zJ X nL μ (pc + 1) L (.inl (μ i x) :: st)) : zJ X nL μ pc L (.inl x :: .inr i :: st) := by
  obtain ⟨p, l, e, R, s, m, args, below, meth, c, Q, A, G, cells, slots⟩ := X
  obtain ⟨hx, hb, -, hown, hts, hbig, -, -, hE, -⟩ := C
  intro hr H locs ls hP hS hl
  have hg := zW_get G μ hi
  rw [hd] at hg
  refine va_iald (n := n) (f := fun j => iI (μ i (j : Int))) (i := iI x) hx hb hE.1 hP i 0 hg rfl (iI_in h.1 h.2 (by omega)) d ?_
  rw [iI_clamp h.1 h.2 (by omega), show ((x.toNat : Nat) : Int) = x by omega]
  exact K (hr i x) hr H locs ls hP hS hl
theorem z_iastW (C : zC X nL cc own Ts f nw) {i n : Nat} {x v v' : Int} (d : decode cc pc = .ok (.iastore, 1)) (hi : i < 68) (hd : zd i = .inr (.inl n)) (h : 0 ≤ x ∧ x < (n : Int)) (hn : n ≤ 100) (hv : zR v') (hvv : iI v = iI v') (K : zJ X nL (zs μ i x v') (pc + 1) L st) : zJ X nL μ pc L (.inl v :: .inl x :: .inr i :: st) := by
  obtain ⟨p, l, e, R, s, m, args, below, meth, c, Q, A, G, cells, slots⟩ := X
  obtain ⟨hx, hb, -, hown, hts, hbig, -, hD, hE, -⟩ := C
  intro hr H locs ls hP hS hl
  have hg := zW_get G μ hi
  rw [hd] at hg
  refine va_iast (n := n) (f := fun j => iI (μ i (j : Int))) (i := iI x) (x := iI v) hx hb hE.1 hP (zD_any μ hD) hS i 0 hg rfl (iI_in h.1 h.2 (by omega)) d (fun H1 locs1 hP1 hD1 hS1 => ?_)
  refine K (zs_R hr i x hv) H1 locs1 ls ?_ hS1 hl
  have e1 : (zW G μ).set i (G.2.2.2 i, .inl (G.2.1, n, .inl (upd (fun j => iI (μ i (j : Int))) (iI x).toNatClampNeg (iI v)))) = zW G (zs μ i x v') := by
    rw [← zW_set G μ hi x v', hd, hvv, iI_clamp h.1 h.2 (by omega)]
    have e2 : upd (fun j : Nat => iI (μ i (j : Int))) x.toNat (iI v') = fun j : Nat => iI (if (j : Int) = x then v' else μ i (j : Int)) := by
      funext j
      by_cases hj : j = x.toNat
      · subst hj
        rw [pk_us, if_pos (by omega)]
      · rw [pk_un hj, if_neg (by omega)]
    rw [e2]
    rfl
  rw [← e1]
  exact hP1
theorem z_iast (C : zC X nL cc own Ts f nw) {i n : Nat} {x v : Int} (d : decode cc pc = .ok (.iastore, 1)) (hi : i < 68) (hd : zd i = .inr (.inl n)) (h : 0 ≤ x ∧ x < (n : Int)) (hn : n ≤ 100) (hv : zR v) (K : zJ X nL (zs μ i x v) (pc + 1) L st) : zJ X nL μ pc L (.inl v :: .inl x :: .inr i :: st) :=
  z_iastW C d hi hd h hn hv rfl K
theorem z_iastw (C : zC X nL cc own Ts f nw) {i n : Nat} {x v : Int} (d : decode cc pc = .ok (.iastore, 1)) (hi : i < 68) (hd : zd i = .inr (.inl n)) (h : 0 ≤ x ∧ x < (n : Int)) (hn : n ≤ 100) (K : zJ X nL (zs μ i x (zw v)) (pc + 1) L st) : zJ X nL μ pc L (.inl v :: .inl x :: .inr i :: st) :=
  z_iastW C d hi hd h hn (zw_R v) (zw_iI v).symm K
theorem z_aald (C : zC X nL cc own Ts f nw) {i n b : Nat} {x : Int} (d : decode cc pc = .ok (.aaload, 1)) (hi : i < 68) (hd : zd i = .inr (.inr (n, b))) (h : 0 ≤ x ∧ x < (n : Int)) (hn : n ≤ 100) (K : zJ X nL μ (pc + 1) L (.inr (b + x.toNat) :: st)) : zJ X nL μ pc L (.inl x :: .inr i :: st) := by
  obtain ⟨p, l, e, R, s, m, args, below, meth, c, Q, A, G, cells, slots⟩ := X
  obtain ⟨hx, hb, -, hown, hts, hbig, -, -, hE, -⟩ := C
  intro hr H locs ls hP hS hl
  have hg := zW_get G μ hi
  rw [hd] at hg
  have hcl : (iI x).toNatClampNeg = x.toNat := iI_clamp h.1 h.2 (by omega)
  refine W.aald (v := .ref (G.2.2.2 (b + x.toNat))) (ty := .array .int) (j := iI x) hx hb (hP i _ hg) ((hE.1.2 1 _ rfl).1 n (fun j => va_rf (some (G.2.2.2 (b + j))))) rfl (fun q => by cases q) ?_ ?_ rfl rfl d (K hr H locs ls hP hS hl)
  · show ¬ (iI x < 0 ∨ (arrV _ _ _).slots.size ≤ _)
    rw [arrV_size]
    exact iI_in (n := n) h.1 h.2 (by omega)
  · show (arrV _ n _).slots[_]? = _
    have hlt : (iI x).toNatClampNeg < n := by rw [hcl]; omega
    rw [arrV_read _ _ hlt, hcl]
    rfl
theorem z_alen (C : zC X nL cc own Ts f nw) {i n : Nat} (d : decode cc pc = .ok (.arraylength, 1)) (hi : i < 68) (hd : zd i = .inr (.inl n)) (nz : Int) (hn : nz = (n : Int)) (K : zJ X nL μ (pc + 1) L (.inl nz :: st)) : zJ X nL μ pc L (.inr i :: st) := by
  obtain ⟨p, l, e, R, s, m, args, below, meth, c, Q, A, G, cells, slots⟩ := X
  obtain ⟨hx, hb, -, hown, hts, hbig, -, -, hE, -⟩ := C
  intro hr H locs ls hP hS hl
  have hg := zW_get G μ hi
  rw [hd] at hg
  exact va_alen hx hb hE.1 hP i 0 hg rfl (v := iI nz) (by rw [hn]; exact Int32.ofInt_eq_ofNat.symm) d (K hr H locs ls hP hS hl)
end ZR2
end
section
/-! calls, entries and ends -/
def zent : Nat → List zV → List (Nat × zV)
  | _, [] => []
  | i, v :: vs => (i, v) :: zent (i + 1) vs
theorem zent_args (G : zG) : ∀ (as : List zV) (i : Nat), lv_args i (as.map (zv G)) = (zent i as).map (zlv G)
  | [], _ => rfl
  | v :: vs, i => by
    show (i, zv G v) :: lv_args (if (zv G v).category = 2 then i + 2 else i + 1) (vs.map (zv G)) = (i, zv G v) :: (zent (i + 1) vs).map (zlv G)
    rw [zv_cat, if_neg (by decide), zent_args G vs (i + 1)]
theorem zsl_len (G : zG) : ∀ (as : List zV), (lg_sl (as.map (zv G))).length = as.length
  | [] => rfl
  | v :: vs => by
    have h := zsl_len G vs
    simp only [lg_sl, List.map_cons, List.flatMap_cons, List.length_append, List.length_cons, zv_cat] at h ⊢
    rw [h]
    simp
    omega
theorem zsum (G : zG) : ∀ (st : List zV), ((st.map (zv G)).map fun v => v.category).sum = st.length
  | [] => rfl
  | v :: vs => by rw [List.map_cons, List.map_cons, List.sum_cons, zv_cat, zsum G vs, List.length_cons, Nat.add_comm]
theorem zGood {y : MethodName} {cc : ByteArray} {n : Nat} {ret : Option FieldType} {Ts : List Cond} (hbig : ∀ w ∈ zBIG, w ∈ Ts) (hc : Cond.code y cc n ret ∈ zBIG) : GoodIn Ts (zws y cc n ret) := fun w hw => by
  have h : w ∈ zBIG := by
    rcases List.mem_cons.mp hw with rfl | h
    · exact hc
    · exact h
  exact ⟨hbig w h, good_of_word (zB_good h)⟩
theorem zPc_blind (G : zG) (sz : Nat) (as : List zV) (μ : zM) : FrameBlind (zPc G sz as μ) := fun a U g mk q => by
  obtain ⟨q0, q1, qP, qD, qE⟩ := q
  exact ⟨q0, q1, qP, qD, zE_calling qE⟩
/-- what a call's tables say: the method, its class; how it is linked -/
def zY (y : MethodName) (cc : ByteArray) (n : Nat) (ret : Option FieldType) (k : Nat) : Prop := Cond.code y cc n ret ∈ zBIG ∧ Cond.initialized y.cls ∈ zBIG ∧ y.cls ≠ "java/lang/invoke/MethodHandle" ∧ y.cls ≠ "java/lang/invoke/VarHandle" ∧ (parseMethodDescriptor y.desc).map (fun d => d.parameters.length) = some k
def zYv (y : MethodName) (cc : ByteArray) (n : Nat) (ret : Option FieldType) (k : Nat) : Prop := zY y cc n ret k ∧ Cond.instanceMethod y ∈ zBIG ∧ Cond.selects y.cls y y ∈ zBIG
def zYs (y : MethodName) (cc : ByteArray) (n : Nat) (ret : Option FieldType) (k : Nat) : Prop := zY y cc n ret k ∧ Cond.static y ∈ zBIG
section ZR3
variable {X : zX} {nL : Nat} {cc : ByteArray} {own : String} {Ts : List Cond} {f nw : Nat} {μ : zM} {pc : Nat} {L L' : List (Nat × zV)} {st st0 : List zV}
/-- a receiver -/
def zRc (X : zX) (μ : zM) (i : Nat) (Cn : String) : Prop := match X with
  | (_, _, _, _, s, _, _, _, _, _, _, A, G, _, _) => ∀ (H : Heap) (locs : List Loc), va_P G.1 vwCl (zW G μ) H → va_S A s.heap H locs → ∃ cell : Cell, H[G.2.2.2 i]? = some cell ∧ cell.vm.isStatics = false ∧ s.vm.findClass Cn = some cell.cls
theorem zRc_of (C : zC X nL cc own Ts f nw) {i ci : Nat} {ks : List (Option Nat)} {q : vw_C} (hi : i < 68) (hd : zd i = .inl (ci, ks)) (hc : vwCl[ci]? = some q) : zRc X μ i q.1 := by
  obtain ⟨p, l, e, R, s, m, args, below, meth, c, Q, A, G, cells, slots⟩ := X
  obtain ⟨hx, hb, -, hown, hts, hbig, -, -, hE, -⟩ := C
  intro H locs hP hS
  have hg := zW_get G μ hi
  rw [hd] at hg
  exact va_recv hE.1 hP hc hg
theorem zRc_str (C : zC X nL cc own Ts f nw) {i : Nat} (hi : i < 6) : zRc X μ (70 + i) "java/lang/String" := by
  obtain ⟨p, l, e, R, s, m, args, below, meth, c, Q, A, G, cells, slots⟩ := X
  obtain ⟨hx, hb, -, hown, hts, hbig, -, -, hE, -⟩ := C
  intro H locs hP hS
  exact vk_recv (adK := fun i => G.2.2.2 (70 + i)) (i := i) hE.2.2.2.1 hi hS
theorem z_callVi (C : zC X nL cc own Ts f nw) {y : MethodName} {bytes : ByteArray} {n2 k f2 nw2 idx i : Nat} {ty : FieldType} {as : List zV} {post : Int → zM → Prop} (M : zMi (zl X) y bytes n2 ty f2 nw2 (.inr i :: as) μ post) (Y : zYv y bytes n2 (some ty) k) (hl0 : Cond.methodLink own idx y ∈ zBIG) (hrc : zRc X μ i y.cls) (d : decode cc pc = .ok (.invokevirtual idx, 3)) (hst : st0 = as.reverse ++ .inr i :: st) (hk : as.length = k) (hlen : st.length ≤ 8) (hR : f2 + 1 ≤ f ∧ 8 + (n2 + 11) + nw2 ≤ nw) (K : ∀ (r : Int) (μ' : zM), zR r → post r μ' → zJ X nL μ' (pc + 3) L (.inl r :: st)) : zJ X nL μ pc L st0 := by
  obtain ⟨p, l, e, R, s, m, args, below, meth, c, Q, A, G, cells, slots⟩ := X
  obtain ⟨hx, hb, hml, hown, hts, hbig, hA, hD, hE, hr1, hr2, hr3, hr4⟩ := C
  obtain ⟨⟨y1, y2, y3, y4, y5⟩, y6, y7⟩ := Y
  subst hst
  intro hr H locs ls hP hS hl
  have hle : ∀ q, zA G H.size q → A q := by
    rintro q (⟨j, hj, rfl⟩ | hq)
    · exact zD_A hD hj
    · exact hA q (Nat.le_trans hS.1 hq)
  have hcw : CallW R s args own y.cls idx y bytes n2 (some ty) (zws y bytes n2 (some ty)) (zrm f2 nw2) 0 0 k := ⟨callB_of k hts (zGood hbig y1) rfl rfl rfl (hts _ (hbig _ y2)) (hts _ (hbig _ hl0)) ⟨y3, y4, y5⟩ ⟨Nat.le_trans hR.1 hr1, Nat.le_trans hR.2 hr2⟩, hts _ (hbig _ y6), hts _ (hbig _ y7)⟩
  refine va_calli (va_runV (As := as.map (zv G)) (rest := st.map (zv G)) (g := F0 m pc ls _) ⟨hx, hb, hml, hown, hts⟩ (M G H.size hr) hcw ⟨zPc_blind G H.size _ μ, hrc H locs hP hS, fun U hU hW => ⟨rfl, by rw [hU], by rw [hU]; exact hP, zD_weak (zD_any μ hD) (fun _ _ => trivial), zE_call hE hS hle hU hW⟩⟩ rfl (by rw [List.length_map, hk]) hl.1 (by simp [zv]) (lv_room (by rw [zsum]; exact hlen)) d ⟨hr3, hr4⟩) hS (fun q _ h => hle q h) hle (fun r u t H1 locs1 ht hvm hw hB hz1 hk1 hS1 => ?_)
  obtain ⟨r', μ'⟩ := u
  obtain ⟨hre, hrR, hrm, hpost⟩ := hw
  subst hre
  have hP1 : va_P G.1 vwCl (zW G μ') H1 := by rw [← ht]; exact hB
  exact K r' μ' hrR hpost hrm H1 locs1 ls hP1 hS1 hl
theorem z_callVv (C : zC X nL cc own Ts f nw) {y : MethodName} {bytes : ByteArray} {n2 k f2 nw2 idx i : Nat} {as : List zV} {post : zM → Prop} (M : zMv (zl X) y bytes n2 f2 nw2 (.inr i :: as) μ post) (Y : zYv y bytes n2 none k) (hl0 : Cond.methodLink own idx y ∈ zBIG) (hrc : zRc X μ i y.cls) (d : decode cc pc = .ok (.invokevirtual idx, 3)) (hst : st0 = as.reverse ++ .inr i :: st) (hk : as.length = k) (hlen : st.length ≤ 8) (hR : f2 + 1 ≤ f ∧ 8 + (n2 + 11) + nw2 ≤ nw) (K : ∀ (μ' : zM), post μ' → zJ X nL μ' (pc + 3) L st) : zJ X nL μ pc L st0 := by
  obtain ⟨p, l, e, R, s, m, args, below, meth, c, Q, A, G, cells, slots⟩ := X
  obtain ⟨hx, hb, hml, hown, hts, hbig, hA, hD, hE, hr1, hr2, hr3, hr4⟩ := C
  obtain ⟨⟨y1, y2, y3, y4, y5⟩, y6, y7⟩ := Y
  subst hst
  intro hr H locs ls hP hS hl
  have hle : ∀ q, zA G H.size q → A q := by
    rintro q (⟨j, hj, rfl⟩ | hq)
    · exact zD_A hD hj
    · exact hA q (Nat.le_trans hS.1 hq)
  have hcw : CallW R s args own y.cls idx y bytes n2 none (zws y bytes n2 none) (zrm f2 nw2) 0 0 k := ⟨callB_of k hts (zGood hbig y1) rfl rfl rfl (hts _ (hbig _ y2)) (hts _ (hbig _ hl0)) ⟨y3, y4, y5⟩ ⟨Nat.le_trans hR.1 hr1, Nat.le_trans hR.2 hr2⟩, hts _ (hbig _ y6), hts _ (hbig _ y7)⟩
  refine va_callv (va_runV (As := as.map (zv G)) (rest := st.map (zv G)) (g := F0 m pc ls _) ⟨hx, hb, hml, hown, hts⟩ (M G H.size hr) hcw ⟨zPc_blind G H.size _ μ, hrc H locs hP hS, fun U hU hW => ⟨rfl, by rw [hU], by rw [hU]; exact hP, zD_weak (zD_any μ hD) (fun _ _ => trivial), zE_call hE hS hle hU hW⟩⟩ rfl (by rw [List.length_map, hk]) hl.1 (by simp [zv]) (lv_room (by rw [zsum]; exact hlen)) d ⟨hr3, hr4⟩) hS (fun q _ h => hle q h) hle (fun u t H1 locs1 ht hvm hw hB hz1 hk1 hS1 => ?_)
  obtain ⟨hrm, hpost⟩ := hw
  have hP1 : va_P G.1 vwCl (zW G u) H1 := by rw [← ht]; exact hB
  exact K u hpost hrm H1 locs1 ls hP1 hS1 hl
theorem z_callSi (C : zC X nL cc own Ts f nw) {y : MethodName} {bytes : ByteArray} {n2 k f2 nw2 idx : Nat} {ty : FieldType} {as : List zV} {post : Int → zM → Prop} (M : zMi (zl X) y bytes n2 ty f2 nw2 as μ post) (Y : zYs y bytes n2 (some ty) k) (hl0 : Cond.methodLink own idx y ∈ zBIG) (d : decode cc pc = .ok (.invokestatic idx, 3)) (hst : st0 = as.reverse ++ st) (hk : as.length = k) (hlen : st.length ≤ 8) (hR : f2 + 1 ≤ f ∧ 8 + (n2 + 11) + nw2 ≤ nw) (K : ∀ (r : Int) (μ' : zM), zR r → post r μ' → zJ X nL μ' (pc + 3) L (.inl r :: st)) : zJ X nL μ pc L st0 := by
  obtain ⟨p, l, e, R, s, m, args, below, meth, c, Q, A, G, cells, slots⟩ := X
  obtain ⟨hx, hb, hml, hown, hts, hbig, hA, hD, hE, hr1, hr2, hr3, hr4⟩ := C
  obtain ⟨⟨y1, y2, y3, y4, y5⟩, y6⟩ := Y
  subst hst
  intro hr H locs ls hP hS hl
  have hle : ∀ q, zA G H.size q → A q := by
    rintro q (⟨j, hj, rfl⟩ | hq)
    · exact zD_A hD hj
    · exact hA q (Nat.le_trans hS.1 hq)
  have hcw : CallB R s args own idx y bytes n2 (some ty) (zws y bytes n2 (some ty)) (zrm f2 nw2) 0 0 k ∧ (Cond.static y).before args s = true := ⟨callB_of k hts (zGood hbig y1) rfl rfl rfl (hts _ (hbig _ y2)) (hts _ (hbig _ hl0)) ⟨y3, y4, y5⟩ ⟨Nat.le_trans hR.1 hr1, Nat.le_trans hR.2 hr2⟩, hts _ (hbig _ y6)⟩
  refine va_calli (va_runS (As := as.map (zv G)) (rest := st.map (zv G)) (g := F0 m pc ls _) ⟨hx, hb, hml, hown, hts⟩ (M G H.size hr) hcw ⟨zPc_blind G H.size _ μ, fun U hU hW => ⟨rfl, by rw [hU], by rw [hU]; exact hP, zD_weak (zD_any μ hD) (fun _ _ => trivial), zE_call hE hS hle hU hW⟩⟩ rfl (by rw [List.length_map, hk]) hl.1 (by simp [zv]) (lv_room (by rw [zsum]; exact hlen)) d ⟨hr3, hr4⟩) hS (fun q _ h => hle q h) hle (fun r u t H1 locs1 ht hvm hw hB hz1 hk1 hS1 => ?_)
  obtain ⟨r', μ'⟩ := u
  obtain ⟨hre, hrR, hrm, hpost⟩ := hw
  subst hre
  have hP1 : va_P G.1 vwCl (zW G μ') H1 := by rw [← ht]; exact hB
  exact K r' μ' hrR hpost hrm H1 locs1 ls hP1 hS1 hl
theorem z_callSv (C : zC X nL cc own Ts f nw) {y : MethodName} {bytes : ByteArray} {n2 k f2 nw2 idx : Nat} {as : List zV} {post : zM → Prop} (M : zMv (zl X) y bytes n2 f2 nw2 as μ post) (Y : zYs y bytes n2 none k) (hl0 : Cond.methodLink own idx y ∈ zBIG) (d : decode cc pc = .ok (.invokestatic idx, 3)) (hst : st0 = as.reverse ++ st) (hk : as.length = k) (hlen : st.length ≤ 8) (hR : f2 + 1 ≤ f ∧ 8 + (n2 + 11) + nw2 ≤ nw) (K : ∀ (μ' : zM), post μ' → zJ X nL μ' (pc + 3) L st) : zJ X nL μ pc L st0 := by
  obtain ⟨p, l, e, R, s, m, args, below, meth, c, Q, A, G, cells, slots⟩ := X
  obtain ⟨hx, hb, hml, hown, hts, hbig, hA, hD, hE, hr1, hr2, hr3, hr4⟩ := C
  obtain ⟨⟨y1, y2, y3, y4, y5⟩, y6⟩ := Y
  subst hst
  intro hr H locs ls hP hS hl
  have hle : ∀ q, zA G H.size q → A q := by
    rintro q (⟨j, hj, rfl⟩ | hq)
    · exact zD_A hD hj
    · exact hA q (Nat.le_trans hS.1 hq)
  have hcw : CallB R s args own idx y bytes n2 none (zws y bytes n2 none) (zrm f2 nw2) 0 0 k ∧ (Cond.static y).before args s = true := ⟨callB_of k hts (zGood hbig y1) rfl rfl rfl (hts _ (hbig _ y2)) (hts _ (hbig _ hl0)) ⟨y3, y4, y5⟩ ⟨Nat.le_trans hR.1 hr1, Nat.le_trans hR.2 hr2⟩, hts _ (hbig _ y6)⟩
  refine va_callv (va_runS (As := as.map (zv G)) (rest := st.map (zv G)) (g := F0 m pc ls _) ⟨hx, hb, hml, hown, hts⟩ (M G H.size hr) hcw ⟨zPc_blind G H.size _ μ, fun U hU hW => ⟨rfl, by rw [hU], by rw [hU]; exact hP, zD_weak (zD_any μ hD) (fun _ _ => trivial), zE_call hE hS hle hU hW⟩⟩ rfl (by rw [List.length_map, hk]) hl.1 (by simp [zv]) (lv_room (by rw [zsum]; exact hlen)) d ⟨hr3, hr4⟩) hS (fun q _ h => hle q h) hle (fun u t H1 locs1 ht hvm hw hB hz1 hk1 hS1 => ?_)
  obtain ⟨hrm, hpost⟩ := hw
  have hP1 : va_P G.1 vwCl (zW G u) H1 := by rw [← ht]; exact hB
  exact K u hpost hrm H1 locs1 ls hP1 hS1 hl
theorem z_callSr (C : zC X nL cc own Ts f nw) {y : MethodName} {bytes : ByteArray} {n2 k f2 nw2 idx : Nat} {ty : FieldType} {as : List zV} {post : Nat → zM → Prop} (M : zMr (zl X) y bytes n2 ty f2 nw2 as μ post) (Y : zYs y bytes n2 (some ty) k) (hl0 : Cond.methodLink own idx y ∈ zBIG) (d : decode cc pc = .ok (.invokestatic idx, 3)) (hst : st0 = as.reverse ++ st) (hk : as.length = k) (hlen : st.length ≤ 8) (hR : f2 + 1 ≤ f ∧ 8 + (n2 + 11) + nw2 ≤ nw) (K : ∀ (r : Nat) (μ' : zM), post r μ' → zJ X nL μ' (pc + 3) L (.inr r :: st)) : zJ X nL μ pc L st0 := by
  obtain ⟨p, l, e, R, s, m, args, below, meth, c, Q, A, G, cells, slots⟩ := X
  obtain ⟨hx, hb, hml, hown, hts, hbig, hA, hD, hE, hr1, hr2, hr3, hr4⟩ := C
  obtain ⟨⟨y1, y2, y3, y4, y5⟩, y6⟩ := Y
  subst hst
  intro hr H locs ls hP hS hl
  have hle : ∀ q, zA G H.size q → A q := by
    rintro q (⟨j, hj, rfl⟩ | hq)
    · exact zD_A hD hj
    · exact hA q (Nat.le_trans hS.1 hq)
  have hcw : CallB R s args own idx y bytes n2 (some ty) (zws y bytes n2 (some ty)) (zrm f2 nw2) 0 0 k ∧ (Cond.static y).before args s = true := ⟨callB_of k hts (zGood hbig y1) rfl rfl rfl (hts _ (hbig _ y2)) (hts _ (hbig _ hl0)) ⟨y3, y4, y5⟩ ⟨Nat.le_trans hR.1 hr1, Nat.le_trans hR.2 hr2⟩, hts _ (hbig _ y6)⟩
  refine va_callr (va_runS (As := as.map (zv G)) (rest := st.map (zv G)) (g := F0 m pc ls _) ⟨hx, hb, hml, hown, hts⟩ (M G H.size hr) hcw ⟨zPc_blind G H.size _ μ, fun U hU hW => ⟨rfl, by rw [hU], by rw [hU]; exact hP, zD_weak (zD_any μ hD) (fun _ _ => trivial), zE_call hE hS hle hU hW⟩⟩ rfl (by rw [List.length_map, hk]) hl.1 (by simp [zv]) (lv_room (by rw [zsum]; exact hlen)) d ⟨hr3, hr4⟩) hS (fun q _ h => hle q h) hle (fun u ra t H1 locs1 ht hvm hw hB hz1 hk1 hS1 => ?_)
  obtain ⟨r', μ'⟩ := u
  obtain ⟨hrm, hpost⟩ := hw
  obtain ⟨rfl, hB⟩ := hB
  have hP1 : va_P G.1 vwCl (zW G μ') H1 := by rw [← ht]; exact hB
  exact K r' μ' hpost hrm H1 locs1 ls hP1 hS1 hl
/-- a static method of a nest mate -/
theorem z_callNi (C : zC X nL cc own Ts f nw) {y : MethodName} {bytes : ByteArray} {n2 k f2 nw2 idx : Nat} {ty : FieldType} {as : List zV} {post : Int → zM → Prop} (M : zMi (zl X) y bytes n2 ty f2 nw2 as μ post) (Y : zYs y bytes n2 (some ty) k) (hl0 : (own, idx, y, RX5) ∈ zNW) (d : decode cc pc = .ok (.invokestatic idx, 3)) (hst : st0 = as.reverse ++ st) (hk : as.length = k) (hlen : st.length ≤ 8) (hR : f2 + 1 ≤ f ∧ 8 + (n2 + 11) + nw2 ≤ nw) (K : ∀ (r : Int) (μ' : zM), zR r → post r μ' → zJ X nL μ' (pc + 3) L (.inl r :: st)) : zJ X nL μ pc L st0 := by
  obtain ⟨p, l, e, R, s, m, args, below, meth, c, Q, A, G, cells, slots⟩ := X
  obtain ⟨hx, hb, hml, hown, hts, hbig, hA, hD, hE, hr1, hr2, hr3, hr4⟩ := C
  obtain ⟨⟨y1, y2, y3, y4, y5⟩, y6⟩ := Y
  subst hst
  intro hr H locs ls hP hS hl
  have hle : ∀ q, zA G H.size q → A q := by
    rintro q (⟨j, hj, rfl⟩ | hq)
    · exact zD_A hD hj
    · exact hA q (Nat.le_trans hS.1 hq)
  have hcw : va_CN R s args own idx y RX5 bytes n2 (some ty) (zws y bytes n2 (some ty)) (zrm f2 nw2) 0 0 k ∧ (Cond.static y).before args s = true ∧ True := ⟨va_cnB k hts (zGood hbig y1) rfl rfl rfl (hE.2.1 _ hl0) (hts _ (hbig _ y2)) ⟨y3, y4, y5⟩ ⟨Nat.le_trans hR.1 hr1, Nat.le_trans hR.2 hr2⟩, hts _ (hbig _ y6), trivial⟩
  refine va_calli (va_runSN (As := as.map (zv G)) (rest := st.map (zv G)) (g := F0 m pc ls _) ⟨hx, hb, hml, hown, hts⟩ (M G H.size hr) hcw ⟨zPc_blind G H.size _ μ, fun U hU hW => ⟨rfl, by rw [hU], by rw [hU]; exact hP, zD_weak (zD_any μ hD) (fun _ _ => trivial), zE_call hE hS hle hU hW⟩⟩ rfl (by rw [List.length_map, hk]) hl.1 (by simp [zv]) (lv_room (by rw [zsum]; exact hlen)) d ⟨hr3, hr4⟩) hS (fun q _ h => hle q h) hle (fun r u t H1 locs1 ht hvm hw hB hz1 hk1 hS1 => ?_)
  obtain ⟨r', μ'⟩ := u
  obtain ⟨hre, hrR, hrm, hpost⟩ := hw
  subst hre
  have hP1 : va_P G.1 vwCl (zW G μ') H1 := by rw [← ht]; exact hB
  exact K r' μ' hrR hpost hrm H1 locs1 ls hP1 hS1 hl
end ZR3
/-- a method whose answer is an int, a boolean or a char -/
theorem zMi_of {l : Launch} {y : MethodName} {cc : ByteArray} {nL f nw : Nat} {ty : FieldType} {as : List zV} {μ : zM} {post : Int → zM → Prop} {own : String} (hy : plainName y.cls = true) (hown : y.cls = own) (hn : as.length ≤ nL)
    (body : ∀ X : zX, zl X = l → zC X nL cc own (zws y cc nL (some ty)) f nw → zRM μ → (∀ {pc : Nat} {μ' : zM} {L : List (Nat × zV)} {r : Int}, decode cc pc = .ok (.ireturn, 1) → zR r → narrow ty (.int (iI r)) = .int (iI r) → post r μ' → zJ X nL μ' pc L [.inl r]) → zJ X nL μ 0 (zent 0 as) []) : zMi l y cc nL ty f nw as μ post := by
  intro G sz hr
  refine Met.ofW (cc := cc) (maxL := nL) (ret := some ty) hy rfl ?_
  intro p e s m args below meth c s₁ B hml hv
  obtain ⟨rfl, hsz, hP, hD0, hE⟩ := hv
  subst hsz
  have hx := B.exec
  have hb := B.bytes
  have hrt := B.returns
  have hlocks := B.notSynchronized
  have hts := atoms_spec (ws := zws y cc nL (some ty)) B.pre
  have hcls : s.vm.findClass own = some m.cls := hown ▸ findClass_of_methodNamed B.named
  have hl := lv_entry (as.map (zv G)) (n := nL) (by rw [zsl_len]; exact hn)
  rw [lg_entry_eq]
  rw [zent_args] at hl
  have hA : ∀ q : Nat, s.heap.size ≤ q → zA G s.heap.size q := fun q h => Or.inr h
  have hD : va_D (zA G s.heap.size) (zW G (fun _ _ => 0)) := zD_weak (zD_any _ hD0) (fun i hi => Or.inl ⟨i, hi, rfl⟩)
  have J := body (p, l, e, (headSpec (zws y cc nL (some ty)) (zrm f nw)).room, s, m, (as.map (zv G)).toArray, below, meth, c, MQ below (va_Qi (fun (r : Int32) (u : Int × zM) => r = iI u.1 ∧ zR u.1 ∧ zRM u.2 ∧ post u.1 u.2) (fun u t => va_P G.1 vwCl (zW G u.2) t.heap) (zA G s.heap.size)) (as.map (zv G)).toArray s 0 0 (zA G s.heap.size), zA G s.heap.size, G, 0, 0) rfl ⟨hx, hb, hml, hcls, hts, fun w hw => List.mem_cons_of_mem _ hw, hA, hD, hE, Nat.le_refl _, Nat.le_refl _, Nat.zero_le _, Nat.zero_le _⟩ hr (by
    intro pc μ' L r d hR hn hp hrm H locs ls hP hS hl
    exact W.zret (v := iI r) hx hb hrt hn (fun t ht hW => ⟨⟨iI r, (r, μ'), rfl, ⟨rfl, hR, hrm, hp⟩, by show va_P G.1 vwCl (zW G μ') t.heap; rw [ht]; exact hP⟩, hS.F ht⟩) hS.2.2 d)
  exact J hr s.heap [] _ hP va_S.rf hl
theorem zMv_of {l : Launch} {y : MethodName} {cc : ByteArray} {nL f nw : Nat} {as : List zV} {μ : zM} {post : zM → Prop} {own : String} (hy : plainName y.cls = true) (hown : y.cls = own) (hn : as.length ≤ nL)
    (body : ∀ X : zX, zl X = l → zC X nL cc own (zws y cc nL none) f nw → zRM μ → (∀ {pc : Nat} {μ' : zM} {L : List (Nat × zV)}, decode cc pc = .ok (.return_, 1) → post μ' → zJ X nL μ' pc L []) → zJ X nL μ 0 (zent 0 as) []) : zMv l y cc nL f nw as μ post := by
  intro G sz hr
  refine Met.ofW (cc := cc) (maxL := nL) (ret := none) hy rfl ?_
  intro p e s m args below meth c s₁ B hml hv
  obtain ⟨rfl, hsz, hP, hD0, hE⟩ := hv
  subst hsz
  have hx := B.exec
  have hb := B.bytes
  have hrt := B.returns
  have hlocks := B.notSynchronized
  have hts := atoms_spec (ws := zws y cc nL none) B.pre
  have hcls : s.vm.findClass own = some m.cls := hown ▸ findClass_of_methodNamed B.named
  have hl := lv_entry (as.map (zv G)) (n := nL) (by rw [zsl_len]; exact hn)
  rw [lg_entry_eq]
  rw [zent_args] at hl
  have hA : ∀ q : Nat, s.heap.size ≤ q → zA G s.heap.size q := fun q h => Or.inr h
  have hD : va_D (zA G s.heap.size) (zW G (fun _ _ => 0)) := zD_weak (zD_any _ hD0) (fun i hi => Or.inl ⟨i, hi, rfl⟩)
  have J := body (p, l, e, (headSpec (zws y cc nL none) (zrm f nw)).room, s, m, (as.map (zv G)).toArray, below, meth, c, MQ below (va_Qv (fun (u : zM) => zRM u ∧ post u) (fun u t => va_P G.1 vwCl (zW G u) t.heap) (zA G s.heap.size)) (as.map (zv G)).toArray s 0 0 (zA G s.heap.size), zA G s.heap.size, G, 0, 0) rfl ⟨hx, hb, hml, hcls, hts, fun w hw => List.mem_cons_of_mem _ hw, hA, hD, hE, Nat.le_refl _, Nat.le_refl _, Nat.zero_le _, Nat.zero_le _⟩ hr (by
    intro pc μ' L d hp hrm H locs ls hP hS hl
    exact W.vret hx hb hrt (fun t ht hW => ⟨⟨μ', rfl, ⟨hrm, hp⟩, by show va_P G.1 vwCl (zW G μ') t.heap; rw [ht]; exact hP⟩, hS.F ht⟩) hS.2.2 d)
  exact J hr s.heap [] _ hP va_S.rf hl
theorem zMr_of {l : Launch} {y : MethodName} {cc : ByteArray} {nL f nw : Nat} {nm : String} {as : List zV} {μ : zM} {post : Nat → zM → Prop} {own : String} (hy : plainName y.cls = true) (hown : y.cls = own) (hn : as.length ≤ nL)
    (body : ∀ X : zX, zl X = l → zC X nL cc own (zws y cc nL (some (.object nm))) f nw → zRM μ → (∀ {pc : Nat} {μ' : zM} {L : List (Nat × zV)} {r : Nat}, decode cc pc = .ok (.areturn, 1) → post r μ' → zJ X nL μ' pc L [.inr r]) → zJ X nL μ 0 (zent 0 as) []) : zMr l y cc nL (.object nm) f nw as μ post := by
  intro G sz hr
  refine Met.ofW (cc := cc) (maxL := nL) (ret := some (.object nm)) hy rfl ?_
  intro p e s m args below meth c s₁ B hml hv
  obtain ⟨rfl, hsz, hP, hD0, hE⟩ := hv
  subst hsz
  have hx := B.exec
  have hb := B.bytes
  have hrt := B.returns
  have hlocks := B.notSynchronized
  have hts := atoms_spec (ws := zws y cc nL (some (.object nm))) B.pre
  have hcls : s.vm.findClass own = some m.cls := hown ▸ findClass_of_methodNamed B.named
  have hl := lv_entry (as.map (zv G)) (n := nL) (by rw [zsl_len]; exact hn)
  rw [lg_entry_eq]
  rw [zent_args] at hl
  have hA : ∀ q : Nat, s.heap.size ≤ q → zA G s.heap.size q := fun q h => Or.inr h
  have hD : va_D (zA G s.heap.size) (zW G (fun _ _ => 0)) := zD_weak (zD_any _ hD0) (fun i hi => Or.inl ⟨i, hi, rfl⟩)
  have J := body (p, l, e, (headSpec (zws y cc nL (some (.object nm))) (zrm f nw)).room, s, m, (as.map (zv G)).toArray, below, meth, c, MQ below (va_Qr (fun (u : Nat × zM) => zRM u.2 ∧ post u.1 u.2) (fun u a t => a = G.2.2.2 u.1 ∧ va_P G.1 vwCl (zW G u.2) t.heap) (zA G s.heap.size)) (as.map (zv G)).toArray s 0 0 (zA G s.heap.size), zA G s.heap.size, G, 0, 0) rfl ⟨hx, hb, hml, hcls, hts, fun w hw => List.mem_cons_of_mem _ hw, hA, hD, hE, Nat.le_refl _, Nat.le_refl _, Nat.zero_le _, Nat.zero_le _⟩ hr (by
    intro pc μ' L r d hp hrm H locs ls hP hS hl
    exact W.aret (v := .ref (G.2.2.2 r)) hx hb hrt (Or.inl ⟨nm, rfl⟩) (Or.inr ⟨_, rfl⟩) (fun t ht hW => ⟨⟨(r, μ'), G.2.2.2 r, rfl, ⟨hrm, hp⟩, rfl, by show va_P G.1 vwCl (zW G μ') t.heap; rw [ht]; exact hP⟩, hS.F ht⟩) hS.2.2 d)
  exact J hr s.heap [] _ hP va_S.rf hl
theorem z_nb {r : Int} (h : r = 0 ∨ r = 1) : narrow .boolean (.int (iI r)) = .int (iI r) := by
  rcases h with rfl | rfl <;> decide
end
section
theorem zz_end : (1 : Nat) = 1 := rfl
end
