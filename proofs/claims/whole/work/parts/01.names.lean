-- ===== PART A: goes FIRST, ahead of the names: the tables' words, and 'selects' of the private methods out of them =====
/-- a private method of a class that the tables say can be made, by its rows of tables_1 -/
def lw_okq (q : MethodName × Nat) : Prop := (q.1.cls ≠ "java/lang/invoke/MethodHandle" ∧ q.1.cls ≠ "java/lang/invoke/VarHandle") ∧ Cond.instantiable q.1.cls q.2 ∈ tables_1 ∧ Cond.privateMethod q.1 ∈ tables_1 ∧ Cond.instanceMethod q.1 ∈ tables_1
theorem lw_p0 : lw_okq (⟨"TongueSight$Script", "takeToken", "()V"⟩, 15) := ⟨⟨by decide +kernel, by decide +kernel⟩, List.mem_of_getElem? (i := 59) (by decide +kernel), List.mem_of_getElem? (i := 295) (by decide +kernel), List.mem_of_getElem? (i := 296) (by decide +kernel)⟩
theorem lw_p1 : lw_okq (⟨"TongueSight$Script", "takeName", "()V"⟩, 15) := ⟨⟨by decide +kernel, by decide +kernel⟩, List.mem_of_getElem? (i := 59) (by decide +kernel), List.mem_of_getElem? (i := 302) (by decide +kernel), List.mem_of_getElem? (i := 303) (by decide +kernel)⟩
theorem lw_p2 : lw_okq (⟨"TongueSight$Script", "wordRead", "()I"⟩, 15) := ⟨⟨by decide +kernel, by decide +kernel⟩, List.mem_of_getElem? (i := 59) (by decide +kernel), List.mem_of_getElem? (i := 306) (by decide +kernel), List.mem_of_getElem? (i := 307) (by decide +kernel)⟩
theorem lw_p3 : lw_okq (⟨"TongueSight$Script", "standsThere", "(Ljava/lang/String;)Z"⟩, 15) := ⟨⟨by decide +kernel, by decide +kernel⟩, List.mem_of_getElem? (i := 59) (by decide +kernel), List.mem_of_getElem? (i := 329) (by decide +kernel), List.mem_of_getElem? (i := 330) (by decide +kernel)⟩
theorem lw_p4 : lw_okq (⟨"TongueSight$Script", "refuse", "(I)V"⟩, 15) := ⟨⟨by decide +kernel, by decide +kernel⟩, List.mem_of_getElem? (i := 59) (by decide +kernel), List.mem_of_getElem? (i := 381) (by decide +kernel), List.mem_of_getElem? (i := 382) (by decide +kernel)⟩
theorem lw_p5 : lw_okq (⟨"TongueSight$Script", "takeNumber", "()V"⟩, 15) := ⟨⟨by decide +kernel, by decide +kernel⟩, List.mem_of_getElem? (i := 59) (by decide +kernel), List.mem_of_getElem? (i := 388) (by decide +kernel), List.mem_of_getElem? (i := 389) (by decide +kernel)⟩
theorem lw_p6 : lw_okq (⟨"TongueSight$Script", "useToken", "()V"⟩, 15) := ⟨⟨by decide +kernel, by decide +kernel⟩, List.mem_of_getElem? (i := 59) (by decide +kernel), List.mem_of_getElem? (i := 392) (by decide +kernel), List.mem_of_getElem? (i := 393) (by decide +kernel)⟩
theorem lw_p7 : lw_okq (⟨"TongueSight$Script", "beginLine", "()V"⟩, 15) := ⟨⟨by decide +kernel, by decide +kernel⟩, List.mem_of_getElem? (i := 59) (by decide +kernel), List.mem_of_getElem? (i := 396) (by decide +kernel), List.mem_of_getElem? (i := 397) (by decide +kernel)⟩
theorem lw_p8 : lw_okq (⟨"TongueSight$Script", "tellWay", "()V"⟩, 15) := ⟨⟨by decide +kernel, by decide +kernel⟩, List.mem_of_getElem? (i := 59) (by decide +kernel), List.mem_of_getElem? (i := 403) (by decide +kernel), List.mem_of_getElem? (i := 404) (by decide +kernel)⟩
theorem lw_p9 : lw_okq (⟨"TongueSight$Script", "tellPoint", "()V"⟩, 15) := ⟨⟨by decide +kernel, by decide +kernel⟩, List.mem_of_getElem? (i := 59) (by decide +kernel), List.mem_of_getElem? (i := 407) (by decide +kernel), List.mem_of_getElem? (i := 408) (by decide +kernel)⟩
theorem lw_p10 : lw_okq (⟨"TongueSight$Script", "isNumber", "(II)Z"⟩, 15) := ⟨⟨by decide +kernel, by decide +kernel⟩, List.mem_of_getElem? (i := 59) (by decide +kernel), List.mem_of_getElem? (i := 411) (by decide +kernel), List.mem_of_getElem? (i := 412) (by decide +kernel)⟩
theorem lw_p11 : lw_okq (⟨"TongueSight$Script", "tellNumber", "()V"⟩, 15) := ⟨⟨by decide +kernel, by decide +kernel⟩, List.mem_of_getElem? (i := 59) (by decide +kernel), List.mem_of_getElem? (i := 415) (by decide +kernel), List.mem_of_getElem? (i := 416) (by decide +kernel)⟩
theorem lw_p12 : lw_okq (⟨"TongueSight$Script", "endLine", "()V"⟩, 15) := ⟨⟨by decide +kernel, by decide +kernel⟩, List.mem_of_getElem? (i := 59) (by decide +kernel), List.mem_of_getElem? (i := 423) (by decide +kernel), List.mem_of_getElem? (i := 424) (by decide +kernel)⟩
theorem lw_p13 : lw_okq (⟨"TongueSight", "seen", "(II)LTongueSight$Frame;"⟩, 15) := ⟨⟨by decide +kernel, by decide +kernel⟩, List.mem_of_getElem? (i := 19) (by decide +kernel), List.mem_of_getElem? (i := 470) (by decide +kernel), List.mem_of_getElem? (i := 471) (by decide +kernel)⟩
theorem lw_p14 : lw_okq (⟨"TongueSight$Frame", "byWay", "(II)I"⟩, 5) := ⟨⟨by decide +kernel, by decide +kernel⟩, List.mem_of_getElem? (i := 118) (by decide +kernel), List.mem_of_getElem? (i := 481) (by decide +kernel), List.mem_of_getElem? (i := 482) (by decide +kernel)⟩
theorem lw_p15 : lw_okq (⟨"TongueSight$Frame", "edge", "(II)I"⟩, 5) := ⟨⟨by decide +kernel, by decide +kernel⟩, List.mem_of_getElem? (i := 118) (by decide +kernel), List.mem_of_getElem? (i := 485) (by decide +kernel), List.mem_of_getElem? (i := 486) (by decide +kernel)⟩
def lw_privs_1 : List (MethodName × Nat) := [(⟨"TongueSight$Script", "takeToken", "()V"⟩, 15), (⟨"TongueSight$Script", "takeName", "()V"⟩, 15), (⟨"TongueSight$Script", "wordRead", "()I"⟩, 15), (⟨"TongueSight$Script", "standsThere", "(Ljava/lang/String;)Z"⟩, 15), (⟨"TongueSight$Script", "refuse", "(I)V"⟩, 15), (⟨"TongueSight$Script", "takeNumber", "()V"⟩, 15), (⟨"TongueSight$Script", "useToken", "()V"⟩, 15), (⟨"TongueSight$Script", "beginLine", "()V"⟩, 15), (⟨"TongueSight$Script", "tellWay", "()V"⟩, 15), (⟨"TongueSight$Script", "tellPoint", "()V"⟩, 15), (⟨"TongueSight$Script", "isNumber", "(II)Z"⟩, 15), (⟨"TongueSight$Script", "tellNumber", "()V"⟩, 15), (⟨"TongueSight$Script", "endLine", "()V"⟩, 15), (⟨"TongueSight", "seen", "(II)LTongueSight$Frame;"⟩, 15), (⟨"TongueSight$Frame", "byWay", "(II)I"⟩, 5), (⟨"TongueSight$Frame", "edge", "(II)I"⟩, 5)]
theorem lw_r1 : ∀ q ∈ lw_privs_1, lw_okq q := List.forall_mem_cons.mpr ⟨lw_p0, List.forall_mem_cons.mpr ⟨lw_p1, List.forall_mem_cons.mpr ⟨lw_p2, List.forall_mem_cons.mpr ⟨lw_p3, List.forall_mem_cons.mpr ⟨lw_p4, List.forall_mem_cons.mpr ⟨lw_p5, List.forall_mem_cons.mpr ⟨lw_p6, List.forall_mem_cons.mpr ⟨lw_p7, List.forall_mem_cons.mpr ⟨lw_p8, List.forall_mem_cons.mpr ⟨lw_p9, List.forall_mem_cons.mpr ⟨lw_p10, List.forall_mem_cons.mpr ⟨lw_p11, List.forall_mem_cons.mpr ⟨lw_p12, List.forall_mem_cons.mpr ⟨lw_p13, List.forall_mem_cons.mpr ⟨lw_p14, List.forall_mem_cons.mpr ⟨lw_p15, fun _ h => absurd h List.not_mem_nil⟩⟩⟩⟩⟩⟩⟩⟩⟩⟩⟩⟩⟩⟩⟩⟩
theorem lw_p16 : lw_okq (⟨"TongueSight$Frame", "goRound", "(I)V"⟩, 5) := ⟨⟨by decide +kernel, by decide +kernel⟩, List.mem_of_getElem? (i := 118) (by decide +kernel), List.mem_of_getElem? (i := 498) (by decide +kernel), List.mem_of_getElem? (i := 499) (by decide +kernel)⟩
theorem lw_p17 : lw_okq (⟨"TongueSight$Frame", "feel", "(ILTongueSight$Laws;I)V"⟩, 5) := ⟨⟨by decide +kernel, by decide +kernel⟩, List.mem_of_getElem? (i := 118) (by decide +kernel), List.mem_of_getElem? (i := 505) (by decide +kernel), List.mem_of_getElem? (i := 506) (by decide +kernel)⟩
theorem lw_p18 : lw_okq (⟨"TongueSight$Frame", "shownBeside", "(I)I"⟩, 5) := ⟨⟨by decide +kernel, by decide +kernel⟩, List.mem_of_getElem? (i := 118) (by decide +kernel), List.mem_of_getElem? (i := 509) (by decide +kernel), List.mem_of_getElem? (i := 510) (by decide +kernel)⟩
theorem lw_p19 : lw_okq (⟨"TongueSight", "tireBy", "(LTongueSight$Frame;)V"⟩, 15) := ⟨⟨by decide +kernel, by decide +kernel⟩, List.mem_of_getElem? (i := 19) (by decide +kernel), List.mem_of_getElem? (i := 531) (by decide +kernel), List.mem_of_getElem? (i := 532) (by decide +kernel)⟩
theorem lw_p20 : lw_okq (⟨"TongueSight", "learn", "(I)V"⟩, 15) := ⟨⟨by decide +kernel, by decide +kernel⟩, List.mem_of_getElem? (i := 19) (by decide +kernel), List.mem_of_getElem? (i := 537) (by decide +kernel), List.mem_of_getElem? (i := 538) (by decide +kernel)⟩
theorem lw_p21 : lw_okq (⟨"TongueSight", "feelSame", "(III)Z"⟩, 15) := ⟨⟨by decide +kernel, by decide +kernel⟩, List.mem_of_getElem? (i := 19) (by decide +kernel), List.mem_of_getElem? (i := 554) (by decide +kernel), List.mem_of_getElem? (i := 555) (by decide +kernel)⟩
theorem lw_p22 : lw_okq (⟨"TongueSight", "placesAlike", "(II)I"⟩, 15) := ⟨⟨by decide +kernel, by decide +kernel⟩, List.mem_of_getElem? (i := 19) (by decide +kernel), List.mem_of_getElem? (i := 566) (by decide +kernel), List.mem_of_getElem? (i := 567) (by decide +kernel)⟩
theorem lw_p23 : lw_okq (⟨"TongueSight", "wayApart", "(III)I"⟩, 15) := ⟨⟨by decide +kernel, by decide +kernel⟩, List.mem_of_getElem? (i := 19) (by decide +kernel), List.mem_of_getElem? (i := 570) (by decide +kernel), List.mem_of_getElem? (i := 571) (by decide +kernel)⟩
theorem lw_p24 : lw_okq (⟨"TongueSight", "toldFrom", "(III)I"⟩, 15) := ⟨⟨by decide +kernel, by decide +kernel⟩, List.mem_of_getElem? (i := 19) (by decide +kernel), List.mem_of_getElem? (i := 595) (by decide +kernel), List.mem_of_getElem? (i := 596) (by decide +kernel)⟩
theorem lw_p25 : lw_okq (⟨"TongueSight", "likeHere", "(II)I"⟩, 15) := ⟨⟨by decide +kernel, by decide +kernel⟩, List.mem_of_getElem? (i := 19) (by decide +kernel), List.mem_of_getElem? (i := 599) (by decide +kernel), List.mem_of_getElem? (i := 600) (by decide +kernel)⟩
theorem lw_p26 : lw_okq (⟨"TongueSight", "firstMove", "(II)I"⟩, 15) := ⟨⟨by decide +kernel, by decide +kernel⟩, List.mem_of_getElem? (i := 19) (by decide +kernel), List.mem_of_getElem? (i := 622) (by decide +kernel), List.mem_of_getElem? (i := 623) (by decide +kernel)⟩
theorem lw_p27 : lw_okq (⟨"TongueSight", "seenAfter", "(II)LTongueSight$Frame;"⟩, 15) := ⟨⟨by decide +kernel, by decide +kernel⟩, List.mem_of_getElem? (i := 19) (by decide +kernel), List.mem_of_getElem? (i := 634) (by decide +kernel), List.mem_of_getElem? (i := 635) (by decide +kernel)⟩
theorem lw_p28 : lw_okq (⟨"TongueSight", "mostLearnt", "(II)I"⟩, 15) := ⟨⟨by decide +kernel, by decide +kernel⟩, List.mem_of_getElem? (i := 19) (by decide +kernel), List.mem_of_getElem? (i := 654) (by decide +kernel), List.mem_of_getElem? (i := 655) (by decide +kernel)⟩
theorem lw_p29 : lw_okq (⟨"TongueSight", "lit", "()I"⟩, 15) := ⟨⟨by decide +kernel, by decide +kernel⟩, List.mem_of_getElem? (i := 19) (by decide +kernel), List.mem_of_getElem? (i := 740) (by decide +kernel), List.mem_of_getElem? (i := 741) (by decide +kernel)⟩
theorem lw_p30 : lw_okq (⟨"TongueSightModel", "next", "()V"⟩, 46) := ⟨⟨by decide +kernel, by decide +kernel⟩, List.mem_of_getElem? (i := 744) (by decide +kernel), List.mem_of_getElem? (i := 904) (by decide +kernel), List.mem_of_getElem? (i := 905) (by decide +kernel)⟩
theorem lw_p31 : lw_okq (⟨"TongueSightModel", "byteAt", "(I)I"⟩, 46) := ⟨⟨by decide +kernel, by decide +kernel⟩, List.mem_of_getElem? (i := 744) (by decide +kernel), List.mem_of_getElem? (i := 908) (by decide +kernel), List.mem_of_getElem? (i := 909) (by decide +kernel)⟩
def lw_privs_2 : List (MethodName × Nat) := [(⟨"TongueSight$Frame", "goRound", "(I)V"⟩, 5), (⟨"TongueSight$Frame", "feel", "(ILTongueSight$Laws;I)V"⟩, 5), (⟨"TongueSight$Frame", "shownBeside", "(I)I"⟩, 5), (⟨"TongueSight", "tireBy", "(LTongueSight$Frame;)V"⟩, 15), (⟨"TongueSight", "learn", "(I)V"⟩, 15), (⟨"TongueSight", "feelSame", "(III)Z"⟩, 15), (⟨"TongueSight", "placesAlike", "(II)I"⟩, 15), (⟨"TongueSight", "wayApart", "(III)I"⟩, 15), (⟨"TongueSight", "toldFrom", "(III)I"⟩, 15), (⟨"TongueSight", "likeHere", "(II)I"⟩, 15), (⟨"TongueSight", "firstMove", "(II)I"⟩, 15), (⟨"TongueSight", "seenAfter", "(II)LTongueSight$Frame;"⟩, 15), (⟨"TongueSight", "mostLearnt", "(II)I"⟩, 15), (⟨"TongueSight", "lit", "()I"⟩, 15), (⟨"TongueSightModel", "next", "()V"⟩, 46), (⟨"TongueSightModel", "byteAt", "(I)I"⟩, 46)]
theorem lw_r2 : ∀ q ∈ lw_privs_2, lw_okq q := List.forall_mem_cons.mpr ⟨lw_p16, List.forall_mem_cons.mpr ⟨lw_p17, List.forall_mem_cons.mpr ⟨lw_p18, List.forall_mem_cons.mpr ⟨lw_p19, List.forall_mem_cons.mpr ⟨lw_p20, List.forall_mem_cons.mpr ⟨lw_p21, List.forall_mem_cons.mpr ⟨lw_p22, List.forall_mem_cons.mpr ⟨lw_p23, List.forall_mem_cons.mpr ⟨lw_p24, List.forall_mem_cons.mpr ⟨lw_p25, List.forall_mem_cons.mpr ⟨lw_p26, List.forall_mem_cons.mpr ⟨lw_p27, List.forall_mem_cons.mpr ⟨lw_p28, List.forall_mem_cons.mpr ⟨lw_p29, List.forall_mem_cons.mpr ⟨lw_p30, List.forall_mem_cons.mpr ⟨lw_p31, fun _ h => absurd h List.not_mem_nil⟩⟩⟩⟩⟩⟩⟩⟩⟩⟩⟩⟩⟩⟩⟩⟩
theorem lw_p32 : lw_okq (⟨"TongueSightModel", "nameAt", "(II)I"⟩, 46) := ⟨⟨by decide +kernel, by decide +kernel⟩, List.mem_of_getElem? (i := 744) (by decide +kernel), List.mem_of_getElem? (i := 914) (by decide +kernel), List.mem_of_getElem? (i := 915) (by decide +kernel)⟩
theorem lw_p33 : lw_okq (⟨"TongueSightModel", "fails", "(I)V"⟩, 46) := ⟨⟨by decide +kernel, by decide +kernel⟩, List.mem_of_getElem? (i := 744) (by decide +kernel), List.mem_of_getElem? (i := 918) (by decide +kernel), List.mem_of_getElem? (i := 919) (by decide +kernel)⟩
theorem lw_p34 : lw_okq (⟨"TongueSightModel", "readLine", "()V"⟩, 46) := ⟨⟨by decide +kernel, by decide +kernel⟩, List.mem_of_getElem? (i := 744) (by decide +kernel), List.mem_of_getElem? (i := 924) (by decide +kernel), List.mem_of_getElem? (i := 925) (by decide +kernel)⟩
theorem lw_p35 : lw_okq (⟨"TongueSightModel", "readPoint", "(I)V"⟩, 46) := ⟨⟨by decide +kernel, by decide +kernel⟩, List.mem_of_getElem? (i := 744) (by decide +kernel), List.mem_of_getElem? (i := 928) (by decide +kernel), List.mem_of_getElem? (i := 929) (by decide +kernel)⟩
theorem lw_p36 : lw_okq (⟨"TongueSightModel", "number", "(II)I"⟩, 46) := ⟨⟨by decide +kernel, by decide +kernel⟩, List.mem_of_getElem? (i := 744) (by decide +kernel), List.mem_of_getElem? (i := 932) (by decide +kernel), List.mem_of_getElem? (i := 933) (by decide +kernel)⟩
theorem lw_p37 : lw_okq (⟨"TongueSightModel", "layFelt", "(II)V"⟩, 46) := ⟨⟨by decide +kernel, by decide +kernel⟩, List.mem_of_getElem? (i := 744) (by decide +kernel), List.mem_of_getElem? (i := 987) (by decide +kernel), List.mem_of_getElem? (i := 988) (by decide +kernel)⟩
theorem lw_p38 : lw_okq (⟨"TongueSightModel", "layShown", "(II)V"⟩, 46) := ⟨⟨by decide +kernel, by decide +kernel⟩, List.mem_of_getElem? (i := 744) (by decide +kernel), List.mem_of_getElem? (i := 991) (by decide +kernel), List.mem_of_getElem? (i := 992) (by decide +kernel)⟩
theorem lw_p39 : lw_okq (⟨"TongueSightModel", "layHas", "(II)V"⟩, 46) := ⟨⟨by decide +kernel, by decide +kernel⟩, List.mem_of_getElem? (i := 744) (by decide +kernel), List.mem_of_getElem? (i := 995) (by decide +kernel), List.mem_of_getElem? (i := 996) (by decide +kernel)⟩
theorem lw_p40 : lw_okq (⟨"TongueSightModel", "lightAt", "(III)I"⟩, 46) := ⟨⟨by decide +kernel, by decide +kernel⟩, List.mem_of_getElem? (i := 744) (by decide +kernel), List.mem_of_getElem? (i := 999) (by decide +kernel), List.mem_of_getElem? (i := 1000) (by decide +kernel)⟩
theorem lw_p41 : lw_okq (⟨"TongueSightModel", "edge", "(I)I"⟩, 46) := ⟨⟨by decide +kernel, by decide +kernel⟩, List.mem_of_getElem? (i := 744) (by decide +kernel), List.mem_of_getElem? (i := 1003) (by decide +kernel), List.mem_of_getElem? (i := 1004) (by decide +kernel)⟩
theorem lw_p42 : lw_okq (⟨"TongueSightModel", "isDead", "(I)Z"⟩, 46) := ⟨⟨by decide +kernel, by decide +kernel⟩, List.mem_of_getElem? (i := 744) (by decide +kernel), List.mem_of_getElem? (i := 1010) (by decide +kernel), List.mem_of_getElem? (i := 1011) (by decide +kernel)⟩
theorem lw_p43 : lw_okq (⟨"TongueSightModel", "feltSome", "()I"⟩, 46) := ⟨⟨by decide +kernel, by decide +kernel⟩, List.mem_of_getElem? (i := 744) (by decide +kernel), List.mem_of_getElem? (i := 1022) (by decide +kernel), List.mem_of_getElem? (i := 1023) (by decide +kernel)⟩
theorem lw_p44 : lw_okq (⟨"TongueSightModel", "learns", "(I)V"⟩, 46) := ⟨⟨by decide +kernel, by decide +kernel⟩, List.mem_of_getElem? (i := 744) (by decide +kernel), List.mem_of_getElem? (i := 1030) (by decide +kernel), List.mem_of_getElem? (i := 1031) (by decide +kernel)⟩
theorem lw_p45 : lw_okq (⟨"TongueSightModel", "tiredSome", "()I"⟩, 46) := ⟨⟨by decide +kernel, by decide +kernel⟩, List.mem_of_getElem? (i := 744) (by decide +kernel), List.mem_of_getElem? (i := 1034) (by decide +kernel), List.mem_of_getElem? (i := 1035) (by decide +kernel)⟩
theorem lw_p46 : lw_okq (⟨"TongueSightModel", "areAlike", "(III)Z"⟩, 46) := ⟨⟨by decide +kernel, by decide +kernel⟩, List.mem_of_getElem? (i := 744) (by decide +kernel), List.mem_of_getElem? (i := 1050) (by decide +kernel), List.mem_of_getElem? (i := 1051) (by decide +kernel)⟩
theorem lw_p47 : lw_okq (⟨"TongueSightModel", "layFar", "(I)V"⟩, 46) := ⟨⟨by decide +kernel, by decide +kernel⟩, List.mem_of_getElem? (i := 744) (by decide +kernel), List.mem_of_getElem? (i := 1058) (by decide +kernel), List.mem_of_getElem? (i := 1059) (by decide +kernel)⟩
def lw_privs_3 : List (MethodName × Nat) := [(⟨"TongueSightModel", "nameAt", "(II)I"⟩, 46), (⟨"TongueSightModel", "fails", "(I)V"⟩, 46), (⟨"TongueSightModel", "readLine", "()V"⟩, 46), (⟨"TongueSightModel", "readPoint", "(I)V"⟩, 46), (⟨"TongueSightModel", "number", "(II)I"⟩, 46), (⟨"TongueSightModel", "layFelt", "(II)V"⟩, 46), (⟨"TongueSightModel", "layShown", "(II)V"⟩, 46), (⟨"TongueSightModel", "layHas", "(II)V"⟩, 46), (⟨"TongueSightModel", "lightAt", "(III)I"⟩, 46), (⟨"TongueSightModel", "edge", "(I)I"⟩, 46), (⟨"TongueSightModel", "isDead", "(I)Z"⟩, 46), (⟨"TongueSightModel", "feltSome", "()I"⟩, 46), (⟨"TongueSightModel", "learns", "(I)V"⟩, 46), (⟨"TongueSightModel", "tiredSome", "()I"⟩, 46), (⟨"TongueSightModel", "areAlike", "(III)Z"⟩, 46), (⟨"TongueSightModel", "layFar", "(I)V"⟩, 46)]
theorem lw_r3 : ∀ q ∈ lw_privs_3, lw_okq q := List.forall_mem_cons.mpr ⟨lw_p32, List.forall_mem_cons.mpr ⟨lw_p33, List.forall_mem_cons.mpr ⟨lw_p34, List.forall_mem_cons.mpr ⟨lw_p35, List.forall_mem_cons.mpr ⟨lw_p36, List.forall_mem_cons.mpr ⟨lw_p37, List.forall_mem_cons.mpr ⟨lw_p38, List.forall_mem_cons.mpr ⟨lw_p39, List.forall_mem_cons.mpr ⟨lw_p40, List.forall_mem_cons.mpr ⟨lw_p41, List.forall_mem_cons.mpr ⟨lw_p42, List.forall_mem_cons.mpr ⟨lw_p43, List.forall_mem_cons.mpr ⟨lw_p44, List.forall_mem_cons.mpr ⟨lw_p45, List.forall_mem_cons.mpr ⟨lw_p46, List.forall_mem_cons.mpr ⟨lw_p47, fun _ h => absurd h List.not_mem_nil⟩⟩⟩⟩⟩⟩⟩⟩⟩⟩⟩⟩⟩⟩⟩⟩
theorem lw_p48 : lw_okq (⟨"TongueSightModel", "layRights", "(I)V"⟩, 46) := ⟨⟨by decide +kernel, by decide +kernel⟩, List.mem_of_getElem? (i := 744) (by decide +kernel), List.mem_of_getElem? (i := 1069) (by decide +kernel), List.mem_of_getElem? (i := 1070) (by decide +kernel)⟩
theorem lw_p49 : lw_okq (⟨"TongueSightModel", "layTwins", "()V"⟩, 46) := ⟨⟨by decide +kernel, by decide +kernel⟩, List.mem_of_getElem? (i := 744) (by decide +kernel), List.mem_of_getElem? (i := 1073) (by decide +kernel), List.mem_of_getElem? (i := 1074) (by decide +kernel)⟩
theorem lw_p50 : lw_okq (⟨"TongueSightModel", "rightOf", "(III)I"⟩, 46) := ⟨⟨by decide +kernel, by decide +kernel⟩, List.mem_of_getElem? (i := 744) (by decide +kernel), List.mem_of_getElem? (i := 1077) (by decide +kernel), List.mem_of_getElem? (i := 1078) (by decide +kernel)⟩
theorem lw_p51 : lw_okq (⟨"TongueSightModel", "layChange", "(II)V"⟩, 46) := ⟨⟨by decide +kernel, by decide +kernel⟩, List.mem_of_getElem? (i := 744) (by decide +kernel), List.mem_of_getElem? (i := 1092) (by decide +kernel), List.mem_of_getElem? (i := 1093) (by decide +kernel)⟩
theorem lw_p52 : lw_okq (⟨"TongueSightModel", "oneHour", "()V"⟩, 46) := ⟨⟨by decide +kernel, by decide +kernel⟩, List.mem_of_getElem? (i := 744) (by decide +kernel), List.mem_of_getElem? (i := 1112) (by decide +kernel), List.mem_of_getElem? (i := 1113) (by decide +kernel)⟩
theorem lw_p53 : lw_okq (⟨"TongueSightModel", "goesOn", "(III)V"⟩, 46) := ⟨⟨by decide +kernel, by decide +kernel⟩, List.mem_of_getElem? (i := 744) (by decide +kernel), List.mem_of_getElem? (i := 1116) (by decide +kernel), List.mem_of_getElem? (i := 1117) (by decide +kernel)⟩
theorem lw_p54 : lw_okq (⟨"TongueSightModel", "loud", "(I)I"⟩, 46) := ⟨⟨by decide +kernel, by decide +kernel⟩, List.mem_of_getElem? (i := 744) (by decide +kernel), List.mem_of_getElem? (i := 1128) (by decide +kernel), List.mem_of_getElem? (i := 1129) (by decide +kernel)⟩
theorem lw_p55 : lw_okq (⟨"TongueSightModel", "soundAlike", "(II)Z"⟩, 46) := ⟨⟨by decide +kernel, by decide +kernel⟩, List.mem_of_getElem? (i := 744) (by decide +kernel), List.mem_of_getElem? (i := 1136) (by decide +kernel), List.mem_of_getElem? (i := 1137) (by decide +kernel)⟩
def lw_privs_4 : List (MethodName × Nat) := [(⟨"TongueSightModel", "layRights", "(I)V"⟩, 46), (⟨"TongueSightModel", "layTwins", "()V"⟩, 46), (⟨"TongueSightModel", "rightOf", "(III)I"⟩, 46), (⟨"TongueSightModel", "layChange", "(II)V"⟩, 46), (⟨"TongueSightModel", "oneHour", "()V"⟩, 46), (⟨"TongueSightModel", "goesOn", "(III)V"⟩, 46), (⟨"TongueSightModel", "loud", "(I)I"⟩, 46), (⟨"TongueSightModel", "soundAlike", "(II)Z"⟩, 46)]
theorem lw_r4 : ∀ q ∈ lw_privs_4, lw_okq q := List.forall_mem_cons.mpr ⟨lw_p48, List.forall_mem_cons.mpr ⟨lw_p49, List.forall_mem_cons.mpr ⟨lw_p50, List.forall_mem_cons.mpr ⟨lw_p51, List.forall_mem_cons.mpr ⟨lw_p52, List.forall_mem_cons.mpr ⟨lw_p53, List.forall_mem_cons.mpr ⟨lw_p54, List.forall_mem_cons.mpr ⟨lw_p55, fun _ h => absurd h List.not_mem_nil⟩⟩⟩⟩⟩⟩⟩⟩
def lw_privs : List (MethodName × Nat) := lw_privs_1 ++ (lw_privs_2 ++ (lw_privs_3 ++ (lw_privs_4)))
def lw_tbl : List Cond := k2_sels lw_privs ++ tables_1
theorem lw_privs_ok : ∀ q ∈ lw_privs, lw_okq q := by
  show ∀ q ∈ lw_privs_1 ++ (lw_privs_2 ++ (lw_privs_3 ++ (lw_privs_4))), lw_okq q
  exact List.forall_mem_append.mpr ⟨lw_r1, List.forall_mem_append.mpr ⟨lw_r2, List.forall_mem_append.mpr ⟨lw_r3, lw_r4⟩⟩⟩
def RX0 : String := "TongueSight$Frame"
def TX0 : u_T := fun k => match k with
  | 0 => ("TongueSight$Frame", "has", "[I", true)
  | 1 => ("TongueSight$Frame", "shown", "[I", true)
  | 2 => ("TongueSight$Frame", "felt", "[I", true)
  | 3 => ("TongueSight$Frame", "hurting", "I", false)
  | _ => ("TongueSight$Frame", "would", "[I", true)
def tyX0 : Nat → FieldType := fun k => match k with
  | 0 => .array .int
  | 1 => .array .int
  | 2 => .array .int
  | 3 => .int
  | _ => .array .int
abbrev wsX00 : List Cond := u_ws RX0 TX0 5
theorem nmX0 : ∀ a, a < 5 → ∀ b, b < 5 → a ≠ b → (TX0 a).2.1 ≠ (TX0 b).2.1 := by decide +kernel
theorem tyX0_ok : ∀ k, k < 5 → parseFieldDescriptor (TX0 k).2.2.1 = some (tyX0 k) := by decide +kernel
abbrev cX0_init : ByteArray := prog_2_method_1_code
def yX0_init : MethodName := ⟨RX0, "<init>", "()V"⟩
abbrev cX0_see : ByteArray := prog_2_method_2_code
def yX0_see : MethodName := ⟨RX0, "see", "([IIILTongueSight$Laws;[I)V"⟩
abbrev cX0_feelsAs : ByteArray := prog_2_method_3_code
def yX0_feelsAs : MethodName := ⟨RX0, "feelsAs", "(LTongueSight$Frame;)Z"⟩
abbrev cX0_soundsAs : ByteArray := prog_2_method_4_code
def yX0_soundsAs : MethodName := ⟨RX0, "soundsAs", "(LTongueSight$Frame;I)Z"⟩
abbrev cX0_loudness : ByteArray := prog_2_method_5_code
def yX0_loudness : MethodName := ⟨RX0, "loudness", "(II)I"⟩
abbrev cX0_lightAt : ByteArray := prog_2_method_6_code
def yX0_lightAt : MethodName := ⟨RX0, "lightAt", "([IIII)I"⟩
abbrev cX0_byWay : ByteArray := prog_2_method_7_code
def yX0_byWay : MethodName := ⟨RX0, "byWay", "(II)I"⟩
abbrev cX0_edge : ByteArray := prog_2_method_8_code
def yX0_edge : MethodName := ⟨RX0, "edge", "(II)I"⟩
abbrev cX0_goRound : ByteArray := prog_2_method_9_code
def yX0_goRound : MethodName := ⟨RX0, "goRound", "(I)V"⟩
abbrev cX0_firstLiving : ByteArray := prog_2_method_10_code
def yX0_firstLiving : MethodName := ⟨RX0, "firstLiving", "(II)I"⟩
abbrev cX0_feel : ByteArray := prog_2_method_11_code
def yX0_feel : MethodName := ⟨RX0, "feel", "(ILTongueSight$Laws;I)V"⟩
abbrev cX0_shownBeside : ByteArray := prog_2_method_12_code
def yX0_shownBeside : MethodName := ⟨RX0, "shownBeside", "(I)I"⟩
def RX1 : String := "TongueSight$Laws"
def TX1 : u_T := fun k => match k with
  | 0 => ("TongueSight$Laws", "values", "[I", true)
  | _ => ("TongueSight$Laws", "least", "[I", true)
def tyX1 : Nat → FieldType := fun k => match k with
  | 0 => .array .int
  | _ => .array .int
abbrev wsX10 : List Cond := u_ws RX1 TX1 2
theorem nmX1 : ∀ a, a < 2 → ∀ b, b < 2 → a ≠ b → (TX1 a).2.1 ≠ (TX1 b).2.1 := by decide +kernel
theorem tyX1_ok : ∀ k, k < 2 → parseFieldDescriptor (TX1 k).2.2.1 = some (tyX1 k) := by decide +kernel
abbrev cX1_init : ByteArray := prog_3_method_1_code
def yX1_init : MethodName := ⟨RX1, "<init>", "()V"⟩
abbrev cX1_toFirst : ByteArray := prog_3_method_2_code
def yX1_toFirst : MethodName := ⟨RX1, "toFirst", "()V"⟩
abbrev cX1_takeFrom : ByteArray := prog_3_method_3_code
def yX1_takeFrom : MethodName := ⟨RX1, "takeFrom", "(LTongueSight$Laws;)V"⟩
def RX2 : String := "TongueSight$Likeness"
def TX2 : u_T := fun k => match k with
  | 0 => ("TongueSight$Likeness", "like", "[I", true)
  | _ => ("TongueSight$Likeness", "known", "I", false)
def tyX2 : Nat → FieldType := fun k => match k with
  | 0 => .array .int
  | _ => .int
abbrev wsX20 : List Cond := u_ws RX2 TX2 2
theorem nmX2 : ∀ a, a < 2 → ∀ b, b < 2 → a ≠ b → (TX2 a).2.1 ≠ (TX2 b).2.1 := by decide +kernel
theorem tyX2_ok : ∀ k, k < 2 → parseFieldDescriptor (TX2 k).2.2.1 = some (tyX2 k) := by decide +kernel
abbrev cX2_init : ByteArray := prog_4_method_1_code
def yX2_init : MethodName := ⟨RX2, "<init>", "()V"⟩
abbrev cX2_forgetAll : ByteArray := prog_4_method_2_code
def yX2_forgetAll : MethodName := ⟨RX2, "forgetAll", "()V"⟩
abbrev cX2_isKnown : ByteArray := prog_4_method_3_code
def yX2_isKnown : MethodName := ⟨RX2, "isKnown", "(I)Z"⟩
abbrev cX2_compare : ByteArray := prog_4_method_4_code
def yX2_compare : MethodName := ⟨RX2, "compare", "(I[LTongueSight$Frame;)V"⟩
def RX3 : String := "TongueSight$Replies"
def TX3 : u_T := fun k => match k with
  | 0 => ("TongueSight$Replies", "sceneOf", "[I", true)
  | 1 => ("TongueSight$Replies", "placeOf", "[I", true)
  | 2 => ("TongueSight$Replies", "pointOf", "[I", true)
  | 3 => ("TongueSight$Replies", "feltOf", "[Z", true)
  | _ => ("TongueSight$Replies", "size", "I", false)
def tyX3 : Nat → FieldType := fun k => match k with
  | 0 => .array .int
  | 1 => .array .int
  | 2 => .array .int
  | 3 => .array .boolean
  | _ => .int
abbrev wsX30 : List Cond := u_ws RX3 TX3 5
theorem nmX3 : ∀ a, a < 5 → ∀ b, b < 5 → a ≠ b → (TX3 a).2.1 ≠ (TX3 b).2.1 := by decide +kernel
theorem tyX3_ok : ∀ k, k < 5 → parseFieldDescriptor (TX3 k).2.2.1 = some (tyX3 k) := by decide +kernel
abbrev cX3_init : ByteArray := prog_5_method_1_code
def yX3_init : MethodName := ⟨RX3, "<init>", "()V"⟩
abbrev cX3_keep : ByteArray := prog_5_method_2_code
def yX3_keep : MethodName := ⟨RX3, "keep", "(IIIZ)Z"⟩
def RX4 : String := "TongueSight$Route"
def TX4 : u_T := fun k => match k with
  | 0 => ("TongueSight$Route", "places", "[I", true)
  | 1 => ("TongueSight$Route", "steps", "[I", true)
  | 2 => ("TongueSight$Route", "rows", "[I", true)
  | _ => ("TongueSight$Route", "reached", "I", false)
def tyX4 : Nat → FieldType := fun k => match k with
  | 0 => .array .int
  | 1 => .array .int
  | 2 => .array .int
  | _ => .int
abbrev wsX40 : List Cond := u_ws RX4 TX4 4
theorem nmX4 : ∀ a, a < 4 → ∀ b, b < 4 → a ≠ b → (TX4 a).2.1 ≠ (TX4 b).2.1 := by decide +kernel
theorem tyX4_ok : ∀ k, k < 4 → parseFieldDescriptor (TX4 k).2.2.1 = some (tyX4 k) := by decide +kernel
abbrev cX4_init : ByteArray := prog_6_method_1_code
def yX4_init : MethodName := ⟨RX4, "<init>", "()V"⟩
abbrev cX4_startAt : ByteArray := prog_6_method_2_code
def yX4_startAt : MethodName := ⟨RX4, "startAt", "(I)V"⟩
abbrev cX4_goOnFrom : ByteArray := prog_6_method_3_code
def yX4_goOnFrom : MethodName := ⟨RX4, "goOnFrom", "(I)V"⟩
def RX5 : String := "TongueSight$Script"
def TX5 : u_T := fun k => match k with
  | 0 => ("TongueSight$Script", "draft", "LTongueSight$Laws;", true)
  | 1 => ("TongueSight$Script", "length", "I", false)
  | 2 => ("TongueSight$Script", "wrong", "I", false)
  | 3 => ("TongueSight$Script", "wrongAt", "I", false)
  | 4 => ("TongueSight$Script", "bytes", "[I", true)
  | 5 => ("TongueSight$Script", "next", "I", false)
  | 6 => ("TongueSight$Script", "kind", "I", false)
  | 7 => ("TongueSight$Script", "value", "I", false)
  | 8 => ("TongueSight$Script", "start", "I", false)
  | 9 => ("TongueSight$Script", "wanted", "I", false)
  | 10 => ("TongueSight$Script", "name", "I", false)
  | 11 => ("TongueSight$Script", "point", "I", false)
  | 12 => ("TongueSight$Script", "lines", "I", false)
  | 13 => ("TongueSight$Script", "namesTold", "I", false)
  | _ => ("TongueSight$Script", "leastsTold", "I", false)
def tyX5 : Nat → FieldType := fun k => match k with
  | 0 => .object "TongueSight$Laws"
  | 1 => .int
  | 2 => .int
  | 3 => .int
  | 4 => .array .int
  | 5 => .int
  | 6 => .int
  | 7 => .int
  | 8 => .int
  | 9 => .int
  | 10 => .int
  | 11 => .int
  | 12 => .int
  | 13 => .int
  | _ => .int
abbrev wsX50 : List Cond := u_ws RX5 TX5 15
theorem nmX5 : ∀ a, a < 15 → ∀ b, b < 15 → a ≠ b → (TX5 a).2.1 ≠ (TX5 b).2.1 := by decide +kernel
theorem tyX5_ok : ∀ k, k < 15 → parseFieldDescriptor (TX5 k).2.2.1 = some (tyX5 k) := by decide +kernel
abbrev cX5_init : ByteArray := prog_7_method_1_code
def yX5_init : MethodName := ⟨RX5, "<init>", "()V"⟩
abbrev cX5_append : ByteArray := prog_7_method_2_code
def yX5_append : MethodName := ⟨RX5, "append", "(J)Z"⟩
abbrev cX5_readLines : ByteArray := prog_7_method_3_code
def yX5_readLines : MethodName := ⟨RX5, "readLines", "()I"⟩
abbrev cX5_useToken : ByteArray := prog_7_method_4_code
def yX5_useToken : MethodName := ⟨RX5, "useToken", "()V"⟩
abbrev cX5_beginLine : ByteArray := prog_7_method_5_code
def yX5_beginLine : MethodName := ⟨RX5, "beginLine", "()V"⟩
abbrev cX5_tellWay : ByteArray := prog_7_method_6_code
def yX5_tellWay : MethodName := ⟨RX5, "tellWay", "()V"⟩
abbrev cX5_tellPoint : ByteArray := prog_7_method_7_code
def yX5_tellPoint : MethodName := ⟨RX5, "tellPoint", "()V"⟩
abbrev cX5_tellNumber : ByteArray := prog_7_method_8_code
def yX5_tellNumber : MethodName := ⟨RX5, "tellNumber", "()V"⟩
abbrev cX5_endLine : ByteArray := prog_7_method_9_code
def yX5_endLine : MethodName := ⟨RX5, "endLine", "()V"⟩
abbrev cX5_isNumber : ByteArray := prog_7_method_10_code
def yX5_isNumber : MethodName := ⟨RX5, "isNumber", "(II)Z"⟩
abbrev cX5_refuse : ByteArray := prog_7_method_11_code
def yX5_refuse : MethodName := ⟨RX5, "refuse", "(I)V"⟩
abbrev cX5_takeToken : ByteArray := prog_7_method_12_code
def yX5_takeToken : MethodName := ⟨RX5, "takeToken", "()V"⟩
abbrev cX5_takeName : ByteArray := prog_7_method_13_code
def yX5_takeName : MethodName := ⟨RX5, "takeName", "()V"⟩
abbrev cX5_takeNumber : ByteArray := prog_7_method_14_code
def yX5_takeNumber : MethodName := ⟨RX5, "takeNumber", "()V"⟩
abbrev cX5_wordRead : ByteArray := prog_7_method_15_code
def yX5_wordRead : MethodName := ⟨RX5, "wordRead", "()I"⟩
abbrev cX5_standsThere : ByteArray := prog_7_method_16_code
def yX5_standsThere : MethodName := ⟨RX5, "standsThere", "(Ljava/lang/String;)Z"⟩
abbrev cX5_word : ByteArray := prog_7_method_17_code
def yX5_word : MethodName := ⟨RX5, "word", "(I)Ljava/lang/String;"⟩
abbrev cX5_isLetter : ByteArray := prog_7_method_18_code
def yX5_isLetter : MethodName := ⟨RX5, "isLetter", "(I)Z"⟩
abbrev cX5_isFigure : ByteArray := prog_7_method_19_code
def yX5_isFigure : MethodName := ⟨RX5, "isFigure", "(I)Z"⟩
def RX6 : String := "TongueSight$Sheet"
def TX6 : u_T := fun k => match k with
  | 0 => ("TongueSight$Sheet", "cells", "[I", true)
  | 1 => ("TongueSight$Sheet", "size", "I", false)
  | _ => ("TongueSight$Sheet", "laneOf", "I", false)
def tyX6 : Nat → FieldType := fun k => match k with
  | 0 => .array .int
  | 1 => .int
  | _ => .int
abbrev wsX60 : List Cond := u_ws RX6 TX6 3
theorem nmX6 : ∀ a, a < 3 → ∀ b, b < 3 → a ≠ b → (TX6 a).2.1 ≠ (TX6 b).2.1 := by decide +kernel
theorem tyX6_ok : ∀ k, k < 3 → parseFieldDescriptor (TX6 k).2.2.1 = some (tyX6 k) := by decide +kernel
abbrev cX6_init : ByteArray := prog_8_method_1_code
def yX6_init : MethodName := ⟨RX6, "<init>", "()V"⟩
abbrev cX6_renew : ByteArray := prog_8_method_2_code
def yX6_renew : MethodName := ⟨RX6, "renew", "(II)V"⟩
abbrev cX6_faultAt : ByteArray := prog_8_method_3_code
def yX6_faultAt : MethodName := ⟨RX6, "faultAt", "(I)I"⟩
abbrev cX6_faultAsOf : ByteArray := prog_8_method_4_code
def yX6_faultAsOf : MethodName := ⟨RX6, "faultAsOf", "(II)I"⟩
abbrev cX6_put : ByteArray := prog_8_method_5_code
def yX6_put : MethodName := ⟨RX6, "put", "(II)V"⟩
def RX7 : String := "TongueSight"
def TX7 : u_T := fun k => match k with
  | 0 => ("TongueSight", "laws", "LTongueSight$Laws;", true)
  | 1 => ("TongueSight", "unhurt", "LTongueSight$Laws;", true)
  | 2 => ("TongueSight", "script", "LTongueSight$Script;", true)
  | 3 => ("TongueSight", "lights", "[I", true)
  | 4 => ("TongueSight", "tiredOf", "[I", true)
  | 5 => ("TongueSight", "fresh", "[I", true)
  | 6 => ("TongueSight", "frames", "[LTongueSight$Frame;", true)
  | 7 => ("TongueSight", "moved", "LTongueSight$Frame;", true)
  | 8 => ("TongueSight", "likeness", "LTongueSight$Likeness;", true)
  | 9 => ("TongueSight", "route", "LTongueSight$Route;", true)
  | 10 => ("TongueSight", "replies", "LTongueSight$Replies;", true)
  | 11 => ("TongueSight", "sheets", "[LTongueSight$Sheet;", true)
  | 12 => ("TongueSight", "camera", "I", false)
  | 13 => ("TongueSight", "knows", "I", false)
  | _ => ("TongueSight", "tornBy", "I", false)
def tyX7 : Nat → FieldType := fun k => match k with
  | 0 => .object "TongueSight$Laws"
  | 1 => .object "TongueSight$Laws"
  | 2 => .object "TongueSight$Script"
  | 3 => .array .int
  | 4 => .array .int
  | 5 => .array .int
  | 6 => .array (.object "TongueSight$Frame")
  | 7 => .object "TongueSight$Frame"
  | 8 => .object "TongueSight$Likeness"
  | 9 => .object "TongueSight$Route"
  | 10 => .object "TongueSight$Replies"
  | 11 => .array (.object "TongueSight$Sheet")
  | 12 => .int
  | 13 => .int
  | _ => .int
abbrev wsX70 : List Cond := u_ws RX7 TX7 15
theorem nmX7 : ∀ a, a < 15 → ∀ b, b < 15 → a ≠ b → (TX7 a).2.1 ≠ (TX7 b).2.1 := by decide +kernel
theorem tyX7_ok : ∀ k, k < 15 → parseFieldDescriptor (TX7 k).2.2.1 = some (tyX7 k) := by decide +kernel
abbrev cX7_init : ByteArray := prog_1_method_1_code
def yX7_init : MethodName := ⟨RX7, "<init>", "()V"⟩
abbrev cX7_feed : ByteArray := prog_1_method_2_code
def yX7_feed : MethodName := ⟨RX7, "feed", "(J)I"⟩
abbrev cX7_end : ByteArray := prog_1_method_3_code
def yX7_end : MethodName := ⟨RX7, "end", "(I)I"⟩
abbrev cX7_text : ByteArray := prog_1_method_4_code
def yX7_text : MethodName := ⟨RX7, "text", "()I"⟩
abbrev cX7_fault : ByteArray := prog_1_method_5_code
def yX7_fault : MethodName := ⟨RX7, "fault", "()I"⟩
abbrev cX7_rule : ByteArray := prog_1_method_6_code
def yX7_rule : MethodName := ⟨RX7, "rule", "(I)I"⟩
abbrev cX7_light : ByteArray := prog_1_method_7_code
def yX7_light : MethodName := ⟨RX7, "light", "(III)I"⟩
abbrev cX7_lightOf : ByteArray := prog_1_method_8_code
def yX7_lightOf : MethodName := ⟨RX7, "lightOf", "(II)I"⟩
abbrev cX7_shift : ByteArray := prog_1_method_9_code
def yX7_shift : MethodName := ⟨RX7, "shift", "(III)I"⟩
abbrev cX7_place : ByteArray := prog_1_method_10_code
def yX7_place : MethodName := ⟨RX7, "place", "(I)I"⟩
abbrev cX7_leads : ByteArray := prog_1_method_11_code
def yX7_leads : MethodName := ⟨RX7, "leads", "(II)I"⟩
abbrev cX7_point : ByteArray := prog_1_method_12_code
def yX7_point : MethodName := ⟨RX7, "point", "(III)I"⟩
abbrev cX7_feels : ByteArray := prog_1_method_13_code
def yX7_feels : MethodName := ⟨RX7, "feels", "(II)I"⟩
abbrev cX7_tenths : ByteArray := prog_1_method_14_code
def yX7_tenths : MethodName := ⟨RX7, "tenths", "(II)I"⟩
abbrev cX7_tired : ByteArray := prog_1_method_15_code
def yX7_tired : MethodName := ⟨RX7, "tired", "(I)I"⟩
abbrev cX7_rest : ByteArray := prog_1_method_16_code
def yX7_rest : MethodName := ⟨RX7, "rest", "()I"⟩
abbrev cX7_alike : ByteArray := prog_1_method_17_code
def yX7_alike : MethodName := ⟨RX7, "alike", "(II)I"⟩
abbrev cX7_parted : ByteArray := prog_1_method_18_code
def yX7_parted : MethodName := ⟨RX7, "parted", "(III)I"⟩
abbrev cX7_right : ByteArray := prog_1_method_19_code
def yX7_right : MethodName := ⟨RX7, "right", "(III)I"⟩
abbrev cX7_needs : ByteArray := prog_1_method_20_code
def yX7_needs : MethodName := ⟨RX7, "needs", "(I)I"⟩
abbrev cX7_move : ByteArray := prog_1_method_21_code
def yX7_move : MethodName := ⟨RX7, "move", "(IIZ)I"⟩
abbrev cX7_foretell : ByteArray := prog_1_method_22_code
def yX7_foretell : MethodName := ⟨RX7, "foretell", "(III)I"⟩
abbrev cX7_head : ByteArray := prog_1_method_23_code
def yX7_head : MethodName := ⟨RX7, "head", "(I)I"⟩
abbrev cX7_forget : ByteArray := prog_1_method_24_code
def yX7_forget : MethodName := ⟨RX7, "forget", "()I"⟩
abbrev cX7_lessons : ByteArray := prog_1_method_25_code
def yX7_lessons : MethodName := ⟨RX7, "lessons", "(I)I"⟩
abbrev cX7_asks : ByteArray := prog_1_method_26_code
def yX7_asks : MethodName := ⟨RX7, "asks", "(II)I"⟩
abbrev cX7_heard : ByteArray := prog_1_method_27_code
def yX7_heard : MethodName := ⟨RX7, "heard", "(III)I"⟩
abbrev cX7_sounds : ByteArray := prog_1_method_28_code
def yX7_sounds : MethodName := ⟨RX7, "sounds", "(II)I"⟩
abbrev cX7_beside : ByteArray := prog_1_method_29_code
def yX7_beside : MethodName := ⟨RX7, "beside", "(I)I"⟩
abbrev cX7_answer : ByteArray := prog_1_method_30_code
def yX7_answer : MethodName := ⟨RX7, "answer", "(IIIZ)I"⟩
abbrev cX7_dead : ByteArray := prog_1_method_31_code
def yX7_dead : MethodName := ⟨RX7, "dead", "()I"⟩
abbrev cX7_kill : ByteArray := prog_1_method_32_code
def yX7_kill : MethodName := ⟨RX7, "kill", "(IZ)I"⟩
abbrev cX7_sheet : ByteArray := prog_1_method_33_code
def yX7_sheet : MethodName := ⟨RX7, "sheet", "(III)I"⟩
abbrev cX7_lay : ByteArray := prog_1_method_34_code
def yX7_lay : MethodName := ⟨RX7, "lay", "(III)I"⟩
abbrev cX7_read : ByteArray := prog_1_method_35_code
def yX7_read : MethodName := ⟨RX7, "read", "(IIIIII)I"⟩
abbrev cX7_torn : ByteArray := prog_1_method_36_code
def yX7_torn : MethodName := ⟨RX7, "torn", "()I"⟩
abbrev cX7_count : ByteArray := prog_1_method_37_code
def yX7_count : MethodName := ⟨RX7, "count", "(I)I"⟩
abbrev cX7_within : ByteArray := prog_1_method_38_code
def yX7_within : MethodName := ⟨RX7, "within", "(II)Z"⟩
abbrev cX7_isSet : ByteArray := prog_1_method_39_code
def yX7_isSet : MethodName := ⟨RX7, "isSet", "(I)Z"⟩
abbrev cX7_isPart : ByteArray := prog_1_method_40_code
def yX7_isPart : MethodName := ⟨RX7, "isPart", "(II)Z"⟩
abbrev cX7_bit : ByteArray := prog_1_method_41_code
def yX7_bit : MethodName := ⟨RX7, "bit", "(II)I"⟩
abbrev cX7_leastOf : ByteArray := prog_1_method_42_code
def yX7_leastOf : MethodName := ⟨RX7, "leastOf", "(I)I"⟩
abbrev cX7_above : ByteArray := prog_1_method_43_code
def yX7_above : MethodName := ⟨RX7, "above", "([I[I)I"⟩
abbrev cX7_sum : ByteArray := prog_1_method_44_code
def yX7_sum : MethodName := ⟨RX7, "sum", "([I)I"⟩
abbrev cX7_lit : ByteArray := prog_1_method_45_code
def yX7_lit : MethodName := ⟨RX7, "lit", "()I"⟩
abbrev cX7_placeAfter : ByteArray := prog_1_method_46_code
def yX7_placeAfter : MethodName := ⟨RX7, "placeAfter", "(II)I"⟩
abbrev cX7_seen : ByteArray := prog_1_method_47_code
def yX7_seen : MethodName := ⟨RX7, "seen", "(II)LTongueSight$Frame;"⟩
abbrev cX7_seenAfter : ByteArray := prog_1_method_48_code
def yX7_seenAfter : MethodName := ⟨RX7, "seenAfter", "(II)LTongueSight$Frame;"⟩
abbrev cX7_tireBy : ByteArray := prog_1_method_49_code
def yX7_tireBy : MethodName := ⟨RX7, "tireBy", "(LTongueSight$Frame;)V"⟩
abbrev cX7_learn : ByteArray := prog_1_method_50_code
def yX7_learn : MethodName := ⟨RX7, "learn", "(I)V"⟩
abbrev cX7_feelSame : ByteArray := prog_1_method_51_code
def yX7_feelSame : MethodName := ⟨RX7, "feelSame", "(III)Z"⟩
abbrev cX7_placesAlike : ByteArray := prog_1_method_52_code
def yX7_placesAlike : MethodName := ⟨RX7, "placesAlike", "(II)I"⟩
abbrev cX7_wayApart : ByteArray := prog_1_method_53_code
def yX7_wayApart : MethodName := ⟨RX7, "wayApart", "(III)I"⟩
abbrev cX7_likeHere : ByteArray := prog_1_method_54_code
def yX7_likeHere : MethodName := ⟨RX7, "likeHere", "(II)I"⟩
abbrev cX7_toldFrom : ByteArray := prog_1_method_55_code
def yX7_toldFrom : MethodName := ⟨RX7, "toldFrom", "(III)I"⟩
abbrev cX7_firstMove : ByteArray := prog_1_method_56_code
def yX7_firstMove : MethodName := ⟨RX7, "firstMove", "(II)I"⟩
abbrev cX7_mostLearnt : ByteArray := prog_1_method_57_code
def yX7_mostLearnt : MethodName := ⟨RX7, "mostLearnt", "(II)I"⟩
def RX8 : String := "TongueSightModel"
def TX8 : u_T := fun k => match k with
  | 0 => ("TongueSightModel", "tape", "[I", true)
  | 1 => ("TongueSightModel", "taped", "I", false)
  | 2 => ("TongueSightModel", "fault", "I", false)
  | 3 => ("TongueSightModel", "wrong", "I", false)
  | 4 => ("TongueSightModel", "wrongAt", "I", false)
  | 5 => ("TongueSightModel", "spot", "I", false)
  | 6 => ("TongueSightModel", "place", "I", false)
  | 7 => ("TongueSightModel", "token", "I", false)
  | 8 => ("TongueSightModel", "value", "I", false)
  | 9 => ("TongueSightModel", "cuts", "[I", true)
  | 10 => ("TongueSightModel", "letters", "[I", true)
  | 11 => ("TongueSightModel", "plain", "[I", true)
  | 12 => ("TongueSightModel", "leasts", "[I", true)
  | 13 => ("TongueSightModel", "mosts", "[I", true)
  | 14 => ("TongueSightModel", "holds", "[I", true)
  | 15 => ("TongueSightModel", "reads", "[I", true)
  | 16 => ("TongueSightModel", "toldOnes", "I", false)
  | 17 => ("TongueSightModel", "toldLeasts", "I", false)
  | 18 => ("TongueSightModel", "lights", "[I", true)
  | 19 => ("TongueSightModel", "camera", "I", false)
  | 20 => ("TongueSightModel", "has", "[I", true)
  | 21 => ("TongueSightModel", "would", "[I", true)
  | 22 => ("TongueSightModel", "shown", "[I", true)
  | 23 => ("TongueSightModel", "felt", "[I", true)
  | 24 => ("TongueSightModel", "hurting", "I", false)
  | 25 => ("TongueSightModel", "worn", "[I", true)
  | 26 => ("TongueSightModel", "areRested", "Z", false)
  | 27 => ("TongueSightModel", "areSound", "Z", false)
  | 28 => ("TongueSightModel", "knows", "I", false)
  | 29 => ("TongueSightModel", "twins", "[I", true)
  | 30 => ("TongueSightModel", "other", "[I", true)
  | 31 => ("TongueSightModel", "far", "[I", true)
  | 32 => ("TongueSightModel", "rights", "[I", true)
  | 33 => ("TongueSightModel", "more", "I", false)
  | 34 => ("TongueSightModel", "less", "I", false)
  | 35 => ("TongueSightModel", "known", "[I", true)
  | 36 => ("TongueSightModel", "knownThen", "[I", true)
  | 37 => ("TongueSightModel", "answers", "I", false)
  | 38 => ("TongueSightModel", "answerScene", "[I", true)
  | 39 => ("TongueSightModel", "answerPlace", "[I", true)
  | 40 => ("TongueSightModel", "answerPoint", "[I", true)
  | 41 => ("TongueSightModel", "answerFelt", "[Z", true)
  | 42 => ("TongueSightModel", "lanes", "[I", true)
  | 43 => ("TongueSightModel", "lengths", "[I", true)
  | 44 => ("TongueSightModel", "cells", "[I", true)
  | _ => ("TongueSightModel", "torn", "I", false)
def tyX8 : Nat → FieldType := fun k => match k with
  | 0 => .array .int
  | 1 => .int
  | 2 => .int
  | 3 => .int
  | 4 => .int
  | 5 => .int
  | 6 => .int
  | 7 => .int
  | 8 => .int
  | 9 => .array .int
  | 10 => .array .int
  | 11 => .array .int
  | 12 => .array .int
  | 13 => .array .int
  | 14 => .array .int
  | 15 => .array .int
  | 16 => .int
  | 17 => .int
  | 18 => .array .int
  | 19 => .int
  | 20 => .array .int
  | 21 => .array .int
  | 22 => .array .int
  | 23 => .array .int
  | 24 => .int
  | 25 => .array .int
  | 26 => .boolean
  | 27 => .boolean
  | 28 => .int
  | 29 => .array .int
  | 30 => .array .int
  | 31 => .array .int
  | 32 => .array .int
  | 33 => .int
  | 34 => .int
  | 35 => .array .int
  | 36 => .array .int
  | 37 => .int
  | 38 => .array .int
  | 39 => .array .int
  | 40 => .array .int
  | 41 => .array .boolean
  | 42 => .array .int
  | 43 => .array .int
  | 44 => .array .int
  | _ => .int
abbrev wsX80 : List Cond := u_ws RX8 TX8 46
theorem nmX8 : ∀ a, a < 46 → ∀ b, b < 46 → a ≠ b → (TX8 a).2.1 ≠ (TX8 b).2.1 := by decide +kernel
theorem tyX8_ok : ∀ k, k < 46 → parseFieldDescriptor (TX8 k).2.2.1 = some (tyX8 k) := by decide +kernel
abbrev cX8_init : ByteArray := prog_10_method_1_code
def yX8_init : MethodName := ⟨RX8, "<init>", "()V"⟩
abbrev cX8_in : ByteArray := prog_10_method_3_code
def yX8_in : MethodName := ⟨RX8, "in", "(JJJ)Z"⟩
abbrev cX8_feed : ByteArray := prog_10_method_4_code
def yX8_feed : MethodName := ⟨RX8, "feed", "(J)I"⟩
abbrev cX8_end : ByteArray := prog_10_method_5_code
def yX8_end : MethodName := ⟨RX8, "end", "(I)I"⟩
abbrev cX8_byteAt : ByteArray := prog_10_method_6_code
def yX8_byteAt : MethodName := ⟨RX8, "byteAt", "(I)I"⟩
abbrev cX8_fails : ByteArray := prog_10_method_7_code
def yX8_fails : MethodName := ⟨RX8, "fails", "(I)V"⟩
abbrev cX8_nameAt : ByteArray := prog_10_method_8_code
def yX8_nameAt : MethodName := ⟨RX8, "nameAt", "(II)I"⟩
abbrev cX8_next : ByteArray := prog_10_method_9_code
def yX8_next : MethodName := ⟨RX8, "next", "()V"⟩
abbrev cX8_number : ByteArray := prog_10_method_10_code
def yX8_number : MethodName := ⟨RX8, "number", "(II)I"⟩
abbrev cX8_readPoint : ByteArray := prog_10_method_11_code
def yX8_readPoint : MethodName := ⟨RX8, "readPoint", "(I)V"⟩
abbrev cX8_readLine : ByteArray := prog_10_method_12_code
def yX8_readLine : MethodName := ⟨RX8, "readLine", "()V"⟩
abbrev cX8_text : ByteArray := prog_10_method_13_code
def yX8_text : MethodName := ⟨RX8, "text", "()I"⟩
abbrev cX8_fault : ByteArray := prog_10_method_14_code
def yX8_fault : MethodName := ⟨RX8, "fault", "()I"⟩
abbrev cX8_rule : ByteArray := prog_10_method_15_code
def yX8_rule : MethodName := ⟨RX8, "rule", "(I)I"⟩
abbrev cX8_isScene : ByteArray := prog_10_method_16_code
def yX8_isScene : MethodName := ⟨RX8, "isScene", "(I)Z"⟩
abbrev cX8_isPoint : ByteArray := prog_10_method_17_code
def yX8_isPoint : MethodName := ⟨RX8, "isPoint", "(I)Z"⟩
abbrev cX8_light : ByteArray := prog_10_method_18_code
def yX8_light : MethodName := ⟨RX8, "light", "(III)I"⟩
abbrev cX8_lightOf : ByteArray := prog_10_method_19_code
def yX8_lightOf : MethodName := ⟨RX8, "lightOf", "(II)I"⟩
abbrev cX8_shift : ByteArray := prog_10_method_20_code
def yX8_shift : MethodName := ⟨RX8, "shift", "(III)I"⟩
abbrev cX8_place : ByteArray := prog_10_method_21_code
def yX8_place : MethodName := ⟨RX8, "place", "(I)I"⟩
abbrev cX8_ledTo : ByteArray := prog_10_method_22_code
def yX8_ledTo : MethodName := ⟨RX8, "ledTo", "(II)I"⟩
abbrev cX8_leads : ByteArray := prog_10_method_23_code
def yX8_leads : MethodName := ⟨RX8, "leads", "(II)I"⟩
abbrev cX8_lightAt : ByteArray := prog_10_method_24_code
def yX8_lightAt : MethodName := ⟨RX8, "lightAt", "(III)I"⟩
abbrev cX8_layHas : ByteArray := prog_10_method_25_code
def yX8_layHas : MethodName := ⟨RX8, "layHas", "(II)V"⟩
abbrev cX8_size : ByteArray := prog_10_method_26_code
def yX8_size : MethodName := ⟨RX8, "size", "(I)I"⟩
abbrev cX8_edge : ByteArray := prog_10_method_27_code
def yX8_edge : MethodName := ⟨RX8, "edge", "(I)I"⟩
abbrev cX8_isDead : ByteArray := prog_10_method_28_code
def yX8_isDead : MethodName := ⟨RX8, "isDead", "(I)Z"⟩
abbrev cX8_nextTo : ByteArray := prog_10_method_29_code
def yX8_nextTo : MethodName := ⟨RX8, "nextTo", "(II)I"⟩
abbrev cX8_layShown : ByteArray := prog_10_method_30_code
def yX8_layShown : MethodName := ⟨RX8, "layShown", "(II)V"⟩
abbrev cX8_layFelt : ByteArray := prog_10_method_31_code
def yX8_layFelt : MethodName := ⟨RX8, "layFelt", "(II)V"⟩
abbrev cX8_point : ByteArray := prog_10_method_32_code
def yX8_point : MethodName := ⟨RX8, "point", "(III)I"⟩
abbrev cX8_feltSome : ByteArray := prog_10_method_33_code
def yX8_feltSome : MethodName := ⟨RX8, "feltSome", "()I"⟩
abbrev cX8_feels : ByteArray := prog_10_method_34_code
def yX8_feels : MethodName := ⟨RX8, "feels", "(II)I"⟩
abbrev cX8_tiredSome : ByteArray := prog_10_method_35_code
def yX8_tiredSome : MethodName := ⟨RX8, "tiredSome", "()I"⟩
abbrev cX8_learns : ByteArray := prog_10_method_36_code
def yX8_learns : MethodName := ⟨RX8, "learns", "(I)V"⟩
abbrev cX8_tenths : ByteArray := prog_10_method_37_code
def yX8_tenths : MethodName := ⟨RX8, "tenths", "(II)I"⟩
abbrev cX8_tired : ByteArray := prog_10_method_38_code
def yX8_tired : MethodName := ⟨RX8, "tired", "(I)I"⟩
abbrev cX8_rest : ByteArray := prog_10_method_39_code
def yX8_rest : MethodName := ⟨RX8, "rest", "()I"⟩
abbrev cX8_areAlike : ByteArray := prog_10_method_40_code
def yX8_areAlike : MethodName := ⟨RX8, "areAlike", "(III)Z"⟩
abbrev cX8_layTwins : ByteArray := prog_10_method_41_code
def yX8_layTwins : MethodName := ⟨RX8, "layTwins", "()V"⟩
abbrev cX8_alike : ByteArray := prog_10_method_42_code
def yX8_alike : MethodName := ⟨RX8, "alike", "(II)I"⟩
abbrev cX8_layFar : ByteArray := prog_10_method_43_code
def yX8_layFar : MethodName := ⟨RX8, "layFar", "(I)V"⟩
abbrev cX8_parted : ByteArray := prog_10_method_44_code
def yX8_parted : MethodName := ⟨RX8, "parted", "(III)I"⟩
abbrev cX8_rightOf : ByteArray := prog_10_method_45_code
def yX8_rightOf : MethodName := ⟨RX8, "rightOf", "(III)I"⟩
abbrev cX8_layRights : ByteArray := prog_10_method_46_code
def yX8_layRights : MethodName := ⟨RX8, "layRights", "(I)V"⟩
abbrev cX8_isSet : ByteArray := prog_10_method_47_code
def yX8_isSet : MethodName := ⟨RX8, "isSet", "(I)Z"⟩
abbrev cX8_right : ByteArray := prog_10_method_48_code
def yX8_right : MethodName := ⟨RX8, "right", "(III)I"⟩
abbrev cX8_countOf : ByteArray := prog_10_method_49_code
def yX8_countOf : MethodName := ⟨RX8, "countOf", "(I)I"⟩
abbrev cX8_needs : ByteArray := prog_10_method_50_code
def yX8_needs : MethodName := ⟨RX8, "needs", "(I)I"⟩
abbrev cX8_layChange : ByteArray := prog_10_method_51_code
def yX8_layChange : MethodName := ⟨RX8, "layChange", "(II)V"⟩
abbrev cX8_move : ByteArray := prog_10_method_52_code
def yX8_move : MethodName := ⟨RX8, "move", "(IIZ)I"⟩
abbrev cX8_foretell : ByteArray := prog_10_method_53_code
def yX8_foretell : MethodName := ⟨RX8, "foretell", "(III)I"⟩
abbrev cX8_head : ByteArray := prog_10_method_54_code
def yX8_head : MethodName := ⟨RX8, "head", "(I)I"⟩
abbrev cX8_forget : ByteArray := prog_10_method_55_code
def yX8_forget : MethodName := ⟨RX8, "forget", "()I"⟩
abbrev cX8_goesOn : ByteArray := prog_10_method_56_code
def yX8_goesOn : MethodName := ⟨RX8, "goesOn", "(III)V"⟩
abbrev cX8_oneHour : ByteArray := prog_10_method_57_code
def yX8_oneHour : MethodName := ⟨RX8, "oneHour", "()V"⟩
abbrev cX8_lessons : ByteArray := prog_10_method_58_code
def yX8_lessons : MethodName := ⟨RX8, "lessons", "(I)I"⟩
abbrev cX8_asks : ByteArray := prog_10_method_59_code
def yX8_asks : MethodName := ⟨RX8, "asks", "(II)I"⟩
abbrev cX8_loud : ByteArray := prog_10_method_60_code
def yX8_loud : MethodName := ⟨RX8, "loud", "(I)I"⟩
abbrev cX8_heard : ByteArray := prog_10_method_61_code
def yX8_heard : MethodName := ⟨RX8, "heard", "(III)I"⟩
abbrev cX8_soundAlike : ByteArray := prog_10_method_62_code
def yX8_soundAlike : MethodName := ⟨RX8, "soundAlike", "(II)Z"⟩
abbrev cX8_sounds : ByteArray := prog_10_method_63_code
def yX8_sounds : MethodName := ⟨RX8, "sounds", "(II)I"⟩
abbrev cX8_beside : ByteArray := prog_10_method_64_code
def yX8_beside : MethodName := ⟨RX8, "beside", "(I)I"⟩
abbrev cX8_answer : ByteArray := prog_10_method_65_code
def yX8_answer : MethodName := ⟨RX8, "answer", "(IIIZ)I"⟩
abbrev cX8_dead : ByteArray := prog_10_method_66_code
def yX8_dead : MethodName := ⟨RX8, "dead", "()I"⟩
abbrev cX8_kill : ByteArray := prog_10_method_67_code
def yX8_kill : MethodName := ⟨RX8, "kill", "(IZ)I"⟩
abbrev cX8_sheet : ByteArray := prog_10_method_68_code
def yX8_sheet : MethodName := ⟨RX8, "sheet", "(III)I"⟩
abbrev cX8_lay : ByteArray := prog_10_method_69_code
def yX8_lay : MethodName := ⟨RX8, "lay", "(III)I"⟩
abbrev cX8_read : ByteArray := prog_10_method_70_code
def yX8_read : MethodName := ⟨RX8, "read", "(IIIIII)I"⟩
abbrev cX8_torn : ByteArray := prog_10_method_71_code
def yX8_torn : MethodName := ⟨RX8, "torn", "()I"⟩
abbrev cX8_count : ByteArray := prog_10_method_72_code
def yX8_count : MethodName := ⟨RX8, "count", "(I)I"⟩
def RJ6 : String := "java/lang/Integer"
def TJ6 : u_T := fun k => match k with
  | _ => ("", "", "", false)
def tyJ6 : Nat → FieldType := fun k => match k with
  | _ => .int
theorem nmJ6 : ∀ a, a < 0 → ∀ b, b < 0 → a ≠ b → (TJ6 a).2.1 ≠ (TJ6 b).2.1 := by decide +kernel
theorem tyJ6_ok : ∀ k, k < 0 → parseFieldDescriptor (TJ6 k).2.2.1 = some (tyJ6 k) := by decide +kernel
abbrev cJ6_bitCount_0f7a4 : ByteArray := prog_11_method_49_code
def yJ6_bitCount_0f7a4 : MethodName := ⟨RJ6, "bitCount", "(I)I"⟩
def RJ9 : String := "java/lang/Math"
def TJ9 : u_T := fun k => match k with
  | _ => ("", "", "", false)
def tyJ9 : Nat → FieldType := fun k => match k with
  | _ => .int
theorem nmJ9 : ∀ a, a < 0 → ∀ b, b < 0 → a ≠ b → (TJ9 a).2.1 ≠ (TJ9 b).2.1 := by decide +kernel
theorem tyJ9_ok : ∀ k, k < 0 → parseFieldDescriptor (TJ9 k).2.2.1 = some (tyJ9 k) := by decide +kernel
abbrev cJ9_abs_0f7a4 : ByteArray := prog_12_method_59_code
def yJ9_abs_0f7a4 : MethodName := ⟨RJ9, "abs", "(I)I"⟩
abbrev cJ9_max_7cf53 : ByteArray := prog_12_method_65_code
def yJ9_max_7cf53 : MethodName := ⟨RJ9, "max", "(II)I"⟩
abbrev cJ9_min_7cf53 : ByteArray := prog_12_method_69_code
def yJ9_min_7cf53 : MethodName := ⟨RJ9, "min", "(II)I"⟩
def RJ0 : String := "java/lang/String"
def TJ0 : u_T := fun k => match k with
  | _ => ("", "", "", false)
def tyJ0 : Nat → FieldType := fun k => match k with
  | _ => .int
theorem nmJ0 : ∀ a, a < 0 → ∀ b, b < 0 → a ≠ b → (TJ0 a).2.1 ≠ (TJ0 b).2.1 := by decide +kernel
theorem tyJ0_ok : ∀ k, k < 0 → parseFieldDescriptor (TJ0 k).2.2.1 = some (tyJ0 k) := by decide +kernel
abbrev cJ0_length_8abf5 : ByteArray := prog_13_method_54_code
def yJ0_length_8abf5 : MethodName := ⟨RJ0, "length", "()I"⟩
abbrev cJ0_charAt_5068e : ByteArray := prog_13_method_56_code
def yJ0_charAt_5068e : MethodName := ⟨RJ0, "charAt", "(I)C"⟩
abbrev cJ0_coder_7d493 : ByteArray := prog_13_method_152_code
def yJ0_coder_7d493 : MethodName := ⟨RJ0, "coder", "()B"⟩
abbrev cJ0_isLatin1_aae02 : ByteArray := prog_13_method_154_code
def yJ0_isLatin1_aae02 : MethodName := ⟨RJ0, "isLatin1", "()Z"⟩
abbrev cJ0_checkIndex_df160 : ByteArray := prog_13_method_155_code
def yJ0_checkIndex_df160 : MethodName := ⟨RJ0, "checkIndex", "(II)V"⟩
def RJ1 : String := "java/lang/StringLatin1"
def TJ1 : u_T := fun k => match k with
  | _ => ("", "", "", false)
def tyJ1 : Nat → FieldType := fun k => match k with
  | _ => .int
theorem nmJ1 : ∀ a, a < 0 → ∀ b, b < 0 → a ≠ b → (TJ1 a).2.1 ≠ (TJ1 b).2.1 := by decide +kernel
theorem tyJ1_ok : ∀ k, k < 0 → parseFieldDescriptor (TJ1 k).2.2.1 = some (tyJ1 k) := by decide +kernel
abbrev cJ1_charAt_3b067 : ByteArray := prog_14_method_2_code
def yJ1_charAt_3b067 : MethodName := ⟨RJ1, "charAt", "([BI)C"⟩
def RJ2 : String := "java/lang/StringUTF16"
def TJ2 : u_T := fun k => match k with
  | _ => ("", "", "", false)
def tyJ2 : Nat → FieldType := fun k => match k with
  | _ => .int
theorem nmJ2 : ∀ a, a < 0 → ∀ b, b < 0 → a ≠ b → (TJ2 a).2.1 ≠ (TJ2 b).2.1 := by decide +kernel
theorem tyJ2_ok : ∀ k, k < 0 → parseFieldDescriptor (TJ2 k).2.2.1 = some (tyJ2 k) := by decide +kernel
abbrev cJ2_getChar_3b067 : ByteArray := prog_15_method_5_code
def yJ2_getChar_3b067 : MethodName := ⟨RJ2, "getChar", "([BI)C"⟩
abbrev cJ2_length_9d52b : ByteArray := prog_15_method_6_code
def yJ2_length_9d52b : MethodName := ⟨RJ2, "length", "([B)I"⟩
abbrev cJ2_charAt_3b067 : ByteArray := prog_15_method_83_code
def yJ2_charAt_3b067 : MethodName := ⟨RJ2, "charAt", "([BI)C"⟩
abbrev cJ2_checkIndex_2214a : ByteArray := prog_15_method_91_code
def yJ2_checkIndex_2214a : MethodName := ⟨RJ2, "checkIndex", "(I[B)V"⟩
def RJ10 : String := "java/lang/System"
def TJ10 : u_T := fun k => match k with
  | _ => ("", "", "", false)
def tyJ10 : Nat → FieldType := fun k => match k with
  | _ => .int
theorem nmJ10 : ∀ a, a < 0 → ∀ b, b < 0 → a ≠ b → (TJ10 a).2.1 ≠ (TJ10 b).2.1 := by decide +kernel
theorem tyJ10_ok : ∀ k, k < 0 → parseFieldDescriptor (TJ10 k).2.2.1 = some (tyJ10 k) := by decide +kernel
def RJ7 : String := "java/util/Arrays"
def TJ7 : u_T := fun k => match k with
  | _ => ("", "", "", false)
def tyJ7 : Nat → FieldType := fun k => match k with
  | _ => .int
theorem nmJ7 : ∀ a, a < 0 → ∀ b, b < 0 → a ≠ b → (TJ7 a).2.1 ≠ (TJ7 b).2.1 := by decide +kernel
theorem tyJ7_ok : ∀ k, k < 0 → parseFieldDescriptor (TJ7 k).2.2.1 = some (tyJ7 k) := by decide +kernel
abbrev cJ7_fill_53178 : ByteArray := prog_17_method_103_code
def yJ7_fill_53178 : MethodName := ⟨RJ7, "fill", "([II)V"⟩
def RJ3 : String := "jdk/internal/util/Preconditions"
def TJ3 : u_T := fun k => match k with
  | _ => ("", "", "", false)
def tyJ3 : Nat → FieldType := fun k => match k with
  | _ => .int
theorem nmJ3 : ∀ a, a < 0 → ∀ b, b < 0 → a ≠ b → (TJ3 a).2.1 ≠ (TJ3 b).2.1 := by decide +kernel
theorem tyJ3_ok : ∀ k, k < 0 → parseFieldDescriptor (TJ3 k).2.2.1 = some (tyJ3 k) := by decide +kernel
abbrev cJ3_checkIndex_8e157 : ByteArray := prog_18_method_11_code
def yJ3_checkIndex_8e157 : MethodName := ⟨RJ3, "checkIndex", "(IILjava/util/function/BiFunction;)I"⟩
def RL : String := "TongueSightLaw"
abbrev cL_law : ByteArray := code
def yL_law : MethodName := ⟨RL, "law", "([I)Z"⟩
abbrev vwCl : List vw_C := [(RX0, TX0, 5), (RX1, TX1, 2), (RX2, TX2, 2), (RX3, TX3, 5), (RX4, TX4, 4), (RX5, TX5, 15), (RX6, TX6, 3), (RX7, TX7, 15), (RX8, TX8, 46)]
