section
-- ===== PART A: goes FIRST, ahead of the names: the tables' words, and 'selects' of the private methods out of them =====
/-- a private method of a class that the tables say can be made, by its rows of tables_1 -/
def lw_okq (q : MethodName × Nat) : Prop := (q.1.cls ≠ "java/lang/invoke/MethodHandle" ∧ q.1.cls ≠ "java/lang/invoke/VarHandle") ∧ Cond.instantiable q.1.cls q.2 ∈ tables_1 ∧ Cond.privateMethod q.1 ∈ tables_1 ∧ Cond.instanceMethod q.1 ∈ tables_1
theorem lw_p0 : lw_okq (⟨"ThawWords$Text", "nextToken", "()V"⟩, 6) := ⟨⟨by decide +kernel, by decide +kernel⟩, List.mem_of_getElem? (i := 22) (by decide +kernel), List.mem_of_getElem? (i := 250) (by decide +kernel), List.mem_of_getElem? (i := 251) (by decide +kernel)⟩
theorem lw_p1 : lw_okq (⟨"ThawWords$Text", "endOfRow", "(III)I"⟩, 6) := ⟨⟨by decide +kernel, by decide +kernel⟩, List.mem_of_getElem? (i := 22) (by decide +kernel), List.mem_of_getElem? (i := 254) (by decide +kernel), List.mem_of_getElem? (i := 255) (by decide +kernel)⟩
theorem lw_p2 : lw_okq (⟨"ThawWords$Text", "readItem", "(LThawWords$Cape;)Z"⟩, 6) := ⟨⟨by decide +kernel, by decide +kernel⟩, List.mem_of_getElem? (i := 22) (by decide +kernel), List.mem_of_getElem? (i := 264) (by decide +kernel), List.mem_of_getElem? (i := 265) (by decide +kernel)⟩
theorem lw_p3 : lw_okq (⟨"ThawWords$Text", "isWord", "(Ljava/lang/String;)Z"⟩, 6) := ⟨⟨by decide +kernel, by decide +kernel⟩, List.mem_of_getElem? (i := 22) (by decide +kernel), List.mem_of_getElem? (i := 269) (by decide +kernel), List.mem_of_getElem? (i := 270) (by decide +kernel)⟩
theorem lw_p4 : lw_okq (⟨"ThawWords$Text", "readPlace", "(LThawWords$Cape;)Z"⟩, 6) := ⟨⟨by decide +kernel, by decide +kernel⟩, List.mem_of_getElem? (i := 22) (by decide +kernel), List.mem_of_getElem? (i := 321) (by decide +kernel), List.mem_of_getElem? (i := 322) (by decide +kernel)⟩
theorem lw_p5 : lw_okq (⟨"ThawWords$Text", "readNumber", "(II)Z"⟩, 6) := ⟨⟨by decide +kernel, by decide +kernel⟩, List.mem_of_getElem? (i := 22) (by decide +kernel), List.mem_of_getElem? (i := 325) (by decide +kernel), List.mem_of_getElem? (i := 326) (by decide +kernel)⟩
theorem lw_p6 : lw_okq (⟨"ThawWords$Text", "shortNumber", "()I"⟩, 6) := ⟨⟨by decide +kernel, by decide +kernel⟩, List.mem_of_getElem? (i := 22) (by decide +kernel), List.mem_of_getElem? (i := 329) (by decide +kernel), List.mem_of_getElem? (i := 330) (by decide +kernel)⟩
theorem lw_p7 : lw_okq (⟨"ThawWords$Text", "readMark", "()Z"⟩, 6) := ⟨⟨by decide +kernel, by decide +kernel⟩, List.mem_of_getElem? (i := 22) (by decide +kernel), List.mem_of_getElem? (i := 338) (by decide +kernel), List.mem_of_getElem? (i := 339) (by decide +kernel)⟩
theorem lw_p8 : lw_okq (⟨"ThawWords$Text", "readWeather", "(LThawWords$Cape;I)Z"⟩, 6) := ⟨⟨by decide +kernel, by decide +kernel⟩, List.mem_of_getElem? (i := 22) (by decide +kernel), List.mem_of_getElem? (i := 343) (by decide +kernel), List.mem_of_getElem? (i := 344) (by decide +kernel)⟩
theorem lw_p9 : lw_okq (⟨"ThawWords$Text", "readSound", "(LThawWords$Cape;I)Z"⟩, 6) := ⟨⟨by decide +kernel, by decide +kernel⟩, List.mem_of_getElem? (i := 22) (by decide +kernel), List.mem_of_getElem? (i := 353) (by decide +kernel), List.mem_of_getElem? (i := 354) (by decide +kernel)⟩
theorem lw_p10 : lw_okq (⟨"ThawWords$Text", "readPerson", "(LThawWords$Cape;)Z"⟩, 6) := ⟨⟨by decide +kernel, by decide +kernel⟩, List.mem_of_getElem? (i := 22) (by decide +kernel), List.mem_of_getElem? (i := 363) (by decide +kernel), List.mem_of_getElem? (i := 364) (by decide +kernel)⟩
theorem lw_p11 : lw_okq (⟨"ThawWords", "earOf", "(I)LThawWords$Ear;"⟩, 7) := ⟨⟨by decide +kernel, by decide +kernel⟩, List.mem_of_getElem? (i := 14) (by decide +kernel), List.mem_of_getElem? (i := 460) (by decide +kernel), List.mem_of_getElem? (i := 461) (by decide +kernel)⟩
theorem lw_p12 : lw_okq (⟨"ThawWords", "areSounds", "(I)Z"⟩, 7) := ⟨⟨by decide +kernel, by decide +kernel⟩, List.mem_of_getElem? (i := 14) (by decide +kernel), List.mem_of_getElem? (i := 473) (by decide +kernel), List.mem_of_getElem? (i := 474) (by decide +kernel)⟩
theorem lw_p13 : lw_okq (⟨"ThawWords$Scene", "standersAt", "(I)I"⟩, 7) := ⟨⟨by decide +kernel, by decide +kernel⟩, List.mem_of_getElem? (i := 97) (by decide +kernel), List.mem_of_getElem? (i := 481) (by decide +kernel), List.mem_of_getElem? (i := 482) (by decide +kernel)⟩
theorem lw_p14 : lw_okq (⟨"ThawWords$Scene", "thawSaying", "(LThawWords$Cape;ILThawWords$Saying;I)I"⟩, 7) := ⟨⟨by decide +kernel, by decide +kernel⟩, List.mem_of_getElem? (i := 97) (by decide +kernel), List.mem_of_getElem? (i := 491) (by decide +kernel), List.mem_of_getElem? (i := 492) (by decide +kernel)⟩
theorem lw_p15 : lw_okq (⟨"ThawWords$Scene", "hearAt", "(III)V"⟩, 7) := ⟨⟨by decide +kernel, by decide +kernel⟩, List.mem_of_getElem? (i := 97) (by decide +kernel), List.mem_of_getElem? (i := 496) (by decide +kernel), List.mem_of_getElem? (i := 497) (by decide +kernel)⟩
def lw_privs_1 : List (MethodName × Nat) := [(⟨"ThawWords$Text", "nextToken", "()V"⟩, 6), (⟨"ThawWords$Text", "endOfRow", "(III)I"⟩, 6), (⟨"ThawWords$Text", "readItem", "(LThawWords$Cape;)Z"⟩, 6), (⟨"ThawWords$Text", "isWord", "(Ljava/lang/String;)Z"⟩, 6), (⟨"ThawWords$Text", "readPlace", "(LThawWords$Cape;)Z"⟩, 6), (⟨"ThawWords$Text", "readNumber", "(II)Z"⟩, 6), (⟨"ThawWords$Text", "shortNumber", "()I"⟩, 6), (⟨"ThawWords$Text", "readMark", "()Z"⟩, 6), (⟨"ThawWords$Text", "readWeather", "(LThawWords$Cape;I)Z"⟩, 6), (⟨"ThawWords$Text", "readSound", "(LThawWords$Cape;I)Z"⟩, 6), (⟨"ThawWords$Text", "readPerson", "(LThawWords$Cape;)Z"⟩, 6), (⟨"ThawWords", "earOf", "(I)LThawWords$Ear;"⟩, 7), (⟨"ThawWords", "areSounds", "(I)Z"⟩, 7), (⟨"ThawWords$Scene", "standersAt", "(I)I"⟩, 7), (⟨"ThawWords$Scene", "thawSaying", "(LThawWords$Cape;ILThawWords$Saying;I)I"⟩, 7), (⟨"ThawWords$Scene", "hearAt", "(III)V"⟩, 7)]
theorem lw_r1 : ∀ q ∈ lw_privs_1, lw_okq q := List.forall_mem_cons.mpr ⟨lw_p0, List.forall_mem_cons.mpr ⟨lw_p1, List.forall_mem_cons.mpr ⟨lw_p2, List.forall_mem_cons.mpr ⟨lw_p3, List.forall_mem_cons.mpr ⟨lw_p4, List.forall_mem_cons.mpr ⟨lw_p5, List.forall_mem_cons.mpr ⟨lw_p6, List.forall_mem_cons.mpr ⟨lw_p7, List.forall_mem_cons.mpr ⟨lw_p8, List.forall_mem_cons.mpr ⟨lw_p9, List.forall_mem_cons.mpr ⟨lw_p10, List.forall_mem_cons.mpr ⟨lw_p11, List.forall_mem_cons.mpr ⟨lw_p12, List.forall_mem_cons.mpr ⟨lw_p13, List.forall_mem_cons.mpr ⟨lw_p14, List.forall_mem_cons.mpr ⟨lw_p15, fun _ h => absurd h List.not_mem_nil⟩⟩⟩⟩⟩⟩⟩⟩⟩⟩⟩⟩⟩⟩⟩⟩
theorem lw_p16 : lw_okq (⟨"ThawWords$Scene", "thawAt", "(LThawWords$Cape;I)I"⟩, 7) := ⟨⟨by decide +kernel, by decide +kernel⟩, List.mem_of_getElem? (i := 97) (by decide +kernel), List.mem_of_getElem? (i := 519) (by decide +kernel), List.mem_of_getElem? (i := 520) (by decide +kernel)⟩
theorem lw_p17 : lw_okq (⟨"ThawWords", "rateAsSaying", "(LThawWords$Saying;)I"⟩, 7) := ⟨⟨by decide +kernel, by decide +kernel⟩, List.mem_of_getElem? (i := 14) (by decide +kernel), List.mem_of_getElem? (i := 631) (by decide +kernel), List.mem_of_getElem? (i := 632) (by decide +kernel)⟩
theorem lw_p18 : lw_okq (⟨"ThawWords", "rateAsLow", "(LThawWords$Saying;)I"⟩, 7) := ⟨⟨by decide +kernel, by decide +kernel⟩, List.mem_of_getElem? (i := 14) (by decide +kernel), List.mem_of_getElem? (i := 635) (by decide +kernel), List.mem_of_getElem? (i := 636) (by decide +kernel)⟩
theorem lw_p19 : lw_okq (⟨"ThawWords", "rateAsSung", "(LThawWords$Saying;)I"⟩, 7) := ⟨⟨by decide +kernel, by decide +kernel⟩, List.mem_of_getElem? (i := 14) (by decide +kernel), List.mem_of_getElem? (i := 640) (by decide +kernel), List.mem_of_getElem? (i := 641) (by decide +kernel)⟩
theorem lw_p20 : lw_okq (⟨"ThawWords", "rateAsMixed", "(LThawWords$Saying;)I"⟩, 7) := ⟨⟨by decide +kernel, by decide +kernel⟩, List.mem_of_getElem? (i := 14) (by decide +kernel), List.mem_of_getElem? (i := 645) (by decide +kernel), List.mem_of_getElem? (i := 646) (by decide +kernel)⟩
theorem lw_p21 : lw_okq (⟨"ThawWords", "rateAsChilds", "(LThawWords$Saying;)I"⟩, 7) := ⟨⟨by decide +kernel, by decide +kernel⟩, List.mem_of_getElem? (i := 14) (by decide +kernel), List.mem_of_getElem? (i := 650) (by decide +kernel), List.mem_of_getElem? (i := 651) (by decide +kernel)⟩
theorem lw_p22 : lw_okq (⟨"ThawWords", "rateAsSworn", "(LThawWords$Saying;)I"⟩, 7) := ⟨⟨by decide +kernel, by decide +kernel⟩, List.mem_of_getElem? (i := 14) (by decide +kernel), List.mem_of_getElem? (i := 655) (by decide +kernel), List.mem_of_getElem? (i := 656) (by decide +kernel)⟩
theorem lw_p23 : lw_okq (⟨"ThawWords", "imageOf", "(I)LThawWords$Scene;"⟩, 7) := ⟨⟨by decide +kernel, by decide +kernel⟩, List.mem_of_getElem? (i := 14) (by decide +kernel), List.mem_of_getElem? (i := 664) (by decide +kernel), List.mem_of_getElem? (i := 665) (by decide +kernel)⟩
theorem lw_p24 : lw_okq (⟨"ThawWordsModel", "begins", "()V"⟩, 25) := ⟨⟨by decide +kernel, by decide +kernel⟩, List.mem_of_getElem? (i := 695) (by decide +kernel), List.mem_of_getElem? (i := 701) (by decide +kernel), List.mem_of_getElem? (i := 702) (by decide +kernel)⟩
theorem lw_p25 : lw_okq (⟨"ThawWordsModel", "advances", "()V"⟩, 25) := ⟨⟨by decide +kernel, by decide +kernel⟩, List.mem_of_getElem? (i := 695) (by decide +kernel), List.mem_of_getElem? (i := 798) (by decide +kernel), List.mem_of_getElem? (i := 799) (by decide +kernel)⟩
theorem lw_p26 : lw_okq (⟨"ThawWordsModel", "byteAt", "(I)I"⟩, 25) := ⟨⟨by decide +kernel, by decide +kernel⟩, List.mem_of_getElem? (i := 695) (by decide +kernel), List.mem_of_getElem? (i := 802) (by decide +kernel), List.mem_of_getElem? (i := 803) (by decide +kernel)⟩
theorem lw_p27 : lw_okq (⟨"ThawWordsModel", "isWell", "()Z"⟩, 25) := ⟨⟨by decide +kernel, by decide +kernel⟩, List.mem_of_getElem? (i := 695) (by decide +kernel), List.mem_of_getElem? (i := 816) (by decide +kernel), List.mem_of_getElem? (i := 817) (by decide +kernel)⟩
theorem lw_p28 : lw_okq (⟨"ThawWordsModel", "mayBegin", "(I)Z"⟩, 25) := ⟨⟨by decide +kernel, by decide +kernel⟩, List.mem_of_getElem? (i := 695) (by decide +kernel), List.mem_of_getElem? (i := 820) (by decide +kernel), List.mem_of_getElem? (i := 821) (by decide +kernel)⟩
theorem lw_p29 : lw_okq (⟨"ThawWordsModel", "takes", "(Z)I"⟩, 25) := ⟨⟨by decide +kernel, by decide +kernel⟩, List.mem_of_getElem? (i := 695) (by decide +kernel), List.mem_of_getElem? (i := 824) (by decide +kernel), List.mem_of_getElem? (i := 825) (by decide +kernel)⟩
theorem lw_p30 : lw_okq (⟨"ThawWordsModel", "readsItem", "(I)V"⟩, 25) := ⟨⟨by decide +kernel, by decide +kernel⟩, List.mem_of_getElem? (i := 695) (by decide +kernel), List.mem_of_getElem? (i := 828) (by decide +kernel), List.mem_of_getElem? (i := 829) (by decide +kernel)⟩
theorem lw_p31 : lw_okq (⟨"ThawWordsModel", "number", "(II)I"⟩, 25) := ⟨⟨by decide +kernel, by decide +kernel⟩, List.mem_of_getElem? (i := 695) (by decide +kernel), List.mem_of_getElem? (i := 832) (by decide +kernel), List.mem_of_getElem? (i := 833) (by decide +kernel)⟩
def lw_privs_2 : List (MethodName × Nat) := [(⟨"ThawWords$Scene", "thawAt", "(LThawWords$Cape;I)I"⟩, 7), (⟨"ThawWords", "rateAsSaying", "(LThawWords$Saying;)I"⟩, 7), (⟨"ThawWords", "rateAsLow", "(LThawWords$Saying;)I"⟩, 7), (⟨"ThawWords", "rateAsSung", "(LThawWords$Saying;)I"⟩, 7), (⟨"ThawWords", "rateAsMixed", "(LThawWords$Saying;)I"⟩, 7), (⟨"ThawWords", "rateAsChilds", "(LThawWords$Saying;)I"⟩, 7), (⟨"ThawWords", "rateAsSworn", "(LThawWords$Saying;)I"⟩, 7), (⟨"ThawWords", "imageOf", "(I)LThawWords$Scene;"⟩, 7), (⟨"ThawWordsModel", "begins", "()V"⟩, 25), (⟨"ThawWordsModel", "advances", "()V"⟩, 25), (⟨"ThawWordsModel", "byteAt", "(I)I"⟩, 25), (⟨"ThawWordsModel", "isWell", "()Z"⟩, 25), (⟨"ThawWordsModel", "mayBegin", "(I)Z"⟩, 25), (⟨"ThawWordsModel", "takes", "(Z)I"⟩, 25), (⟨"ThawWordsModel", "readsItem", "(I)V"⟩, 25), (⟨"ThawWordsModel", "number", "(II)I"⟩, 25)]
theorem lw_r2 : ∀ q ∈ lw_privs_2, lw_okq q := List.forall_mem_cons.mpr ⟨lw_p16, List.forall_mem_cons.mpr ⟨lw_p17, List.forall_mem_cons.mpr ⟨lw_p18, List.forall_mem_cons.mpr ⟨lw_p19, List.forall_mem_cons.mpr ⟨lw_p20, List.forall_mem_cons.mpr ⟨lw_p21, List.forall_mem_cons.mpr ⟨lw_p22, List.forall_mem_cons.mpr ⟨lw_p23, List.forall_mem_cons.mpr ⟨lw_p24, List.forall_mem_cons.mpr ⟨lw_p25, List.forall_mem_cons.mpr ⟨lw_p26, List.forall_mem_cons.mpr ⟨lw_p27, List.forall_mem_cons.mpr ⟨lw_p28, List.forall_mem_cons.mpr ⟨lw_p29, List.forall_mem_cons.mpr ⟨lw_p30, List.forall_mem_cons.mpr ⟨lw_p31, fun _ h => absurd h List.not_mem_nil⟩⟩⟩⟩⟩⟩⟩⟩⟩⟩⟩⟩⟩⟩⟩⟩
theorem lw_p32 : lw_okq (⟨"ThawWordsModel", "isPlace", "(I)Z"⟩, 25) := ⟨⟨by decide +kernel, by decide +kernel⟩, List.mem_of_getElem? (i := 695) (by decide +kernel), List.mem_of_getElem? (i := 840) (by decide +kernel), List.mem_of_getElem? (i := 841) (by decide +kernel)⟩
theorem lw_p33 : lw_okq (⟨"ThawWordsModel", "air", "(I)I"⟩, 25) := ⟨⟨by decide +kernel, by decide +kernel⟩, List.mem_of_getElem? (i := 695) (by decide +kernel), List.mem_of_getElem? (i := 845) (by decide +kernel), List.mem_of_getElem? (i := 846) (by decide +kernel)⟩
theorem lw_p34 : lw_okq (⟨"ThawWordsModel", "warmthIn", "(I)I"⟩, 25) := ⟨⟨by decide +kernel, by decide +kernel⟩, List.mem_of_getElem? (i := 695) (by decide +kernel), List.mem_of_getElem? (i := 849) (by decide +kernel), List.mem_of_getElem? (i := 850) (by decide +kernel)⟩
theorem lw_p35 : lw_okq (⟨"ThawWordsModel", "isLit", "(I)Z"⟩, 25) := ⟨⟨by decide +kernel, by decide +kernel⟩, List.mem_of_getElem? (i := 695) (by decide +kernel), List.mem_of_getElem? (i := 853) (by decide +kernel), List.mem_of_getElem? (i := 854) (by decide +kernel)⟩
theorem lw_p36 : lw_okq (⟨"ThawWordsModel", "hangingAt", "(I)I"⟩, 25) := ⟨⟨by decide +kernel, by decide +kernel⟩, List.mem_of_getElem? (i := 695) (by decide +kernel), List.mem_of_getElem? (i := 857) (by decide +kernel), List.mem_of_getElem? (i := 858) (by decide +kernel)⟩
theorem lw_p37 : lw_okq (⟨"ThawWordsModel", "at", "(II)I"⟩, 25) := ⟨⟨by decide +kernel, by decide +kernel⟩, List.mem_of_getElem? (i := 695) (by decide +kernel), List.mem_of_getElem? (i := 861) (by decide +kernel), List.mem_of_getElem? (i := 862) (by decide +kernel)⟩
theorem lw_p38 : lw_okq (⟨"ThawWordsModel", "hangingOf", "(I)I"⟩, 25) := ⟨⟨by decide +kernel, by decide +kernel⟩, List.mem_of_getElem? (i := 695) (by decide +kernel), List.mem_of_getElem? (i := 865) (by decide +kernel), List.mem_of_getElem? (i := 866) (by decide +kernel)⟩
theorem lw_p39 : lw_okq (⟨"ThawWordsModel", "hangs", "(II)Z"⟩, 25) := ⟨⟨by decide +kernel, by decide +kernel⟩, List.mem_of_getElem? (i := 695) (by decide +kernel), List.mem_of_getElem? (i := 869) (by decide +kernel), List.mem_of_getElem? (i := 870) (by decide +kernel)⟩
theorem lw_p40 : lw_okq (⟨"ThawWordsModel", "isSound", "(I)Z"⟩, 25) := ⟨⟨by decide +kernel, by decide +kernel⟩, List.mem_of_getElem? (i := 695) (by decide +kernel), List.mem_of_getElem? (i := 881) (by decide +kernel), List.mem_of_getElem? (i := 882) (by decide +kernel)⟩
theorem lw_p41 : lw_okq (⟨"ThawWordsModel", "isPerson", "(I)Z"⟩, 25) := ⟨⟨by decide +kernel, by decide +kernel⟩, List.mem_of_getElem? (i := 695) (by decide +kernel), List.mem_of_getElem? (i := 889) (by decide +kernel), List.mem_of_getElem? (i := 890) (by decide +kernel)⟩
theorem lw_p42 : lw_okq (⟨"ThawWordsModel", "isHeard", "(II)V"⟩, 25) := ⟨⟨by decide +kernel, by decide +kernel⟩, List.mem_of_getElem? (i := 695) (by decide +kernel), List.mem_of_getElem? (i := 897) (by decide +kernel), List.mem_of_getElem? (i := 898) (by decide +kernel)⟩
theorem lw_p43 : lw_okq (⟨"ThawWordsModel", "melting", "(I)I"⟩, 25) := ⟨⟨by decide +kernel, by decide +kernel⟩, List.mem_of_getElem? (i := 695) (by decide +kernel), List.mem_of_getElem? (i := 909) (by decide +kernel), List.mem_of_getElem? (i := 910) (by decide +kernel)⟩
theorem lw_p44 : lw_okq (⟨"ThawWordsModel", "isSaying", "(I)Z"⟩, 25) := ⟨⟨by decide +kernel, by decide +kernel⟩, List.mem_of_getElem? (i := 695) (by decide +kernel), List.mem_of_getElem? (i := 921) (by decide +kernel), List.mem_of_getElem? (i := 922) (by decide +kernel)⟩
theorem lw_p45 : lw_okq (⟨"ThawWordsModel", "whenOf", "(II)I"⟩, 25) := ⟨⟨by decide +kernel, by decide +kernel⟩, List.mem_of_getElem? (i := 695) (by decide +kernel), List.mem_of_getElem? (i := 945) (by decide +kernel), List.mem_of_getElem? (i := 946) (by decide +kernel)⟩
theorem lw_p46 : lw_okq (⟨"ThawWordsModel", "hourFrom", "(III)I"⟩, 25) := ⟨⟨by decide +kernel, by decide +kernel⟩, List.mem_of_getElem? (i := 695) (by decide +kernel), List.mem_of_getElem? (i := 949) (by decide +kernel), List.mem_of_getElem? (i := 950) (by decide +kernel)⟩
def lw_privs_3 : List (MethodName × Nat) := [(⟨"ThawWordsModel", "isPlace", "(I)Z"⟩, 25), (⟨"ThawWordsModel", "air", "(I)I"⟩, 25), (⟨"ThawWordsModel", "warmthIn", "(I)I"⟩, 25), (⟨"ThawWordsModel", "isLit", "(I)Z"⟩, 25), (⟨"ThawWordsModel", "hangingAt", "(I)I"⟩, 25), (⟨"ThawWordsModel", "at", "(II)I"⟩, 25), (⟨"ThawWordsModel", "hangingOf", "(I)I"⟩, 25), (⟨"ThawWordsModel", "hangs", "(II)Z"⟩, 25), (⟨"ThawWordsModel", "isSound", "(I)Z"⟩, 25), (⟨"ThawWordsModel", "isPerson", "(I)Z"⟩, 25), (⟨"ThawWordsModel", "isHeard", "(II)V"⟩, 25), (⟨"ThawWordsModel", "melting", "(I)I"⟩, 25), (⟨"ThawWordsModel", "isSaying", "(I)Z"⟩, 25), (⟨"ThawWordsModel", "whenOf", "(II)I"⟩, 25), (⟨"ThawWordsModel", "hourFrom", "(III)I"⟩, 25)]
theorem lw_r3 : ∀ q ∈ lw_privs_3, lw_okq q := List.forall_mem_cons.mpr ⟨lw_p32, List.forall_mem_cons.mpr ⟨lw_p33, List.forall_mem_cons.mpr ⟨lw_p34, List.forall_mem_cons.mpr ⟨lw_p35, List.forall_mem_cons.mpr ⟨lw_p36, List.forall_mem_cons.mpr ⟨lw_p37, List.forall_mem_cons.mpr ⟨lw_p38, List.forall_mem_cons.mpr ⟨lw_p39, List.forall_mem_cons.mpr ⟨lw_p40, List.forall_mem_cons.mpr ⟨lw_p41, List.forall_mem_cons.mpr ⟨lw_p42, List.forall_mem_cons.mpr ⟨lw_p43, List.forall_mem_cons.mpr ⟨lw_p44, List.forall_mem_cons.mpr ⟨lw_p45, List.forall_mem_cons.mpr ⟨lw_p46, fun _ h => absurd h List.not_mem_nil⟩⟩⟩⟩⟩⟩⟩⟩⟩⟩⟩⟩⟩⟩⟩
def lw_privs : List (MethodName × Nat) := lw_privs_1 ++ (lw_privs_2 ++ (lw_privs_3))
def lw_tbl : List Cond := k2_sels lw_privs ++ tables_1
theorem lw_privs_ok : ∀ q ∈ lw_privs, lw_okq q := by
  show ∀ q ∈ lw_privs_1 ++ (lw_privs_2 ++ (lw_privs_3)), lw_okq q
  exact List.forall_mem_append.mpr ⟨lw_r1, List.forall_mem_append.mpr ⟨lw_r2, lw_r3⟩⟩
end
section
/-! values, memory, operations: a small machine of its own, whose answers the real one gives (03) -/
abbrev tw_V : Type := Int32 ⊕ (Int64 ⊕ Option (Nat × Nat))
abbrev tw_I (x : Int32) : tw_V := Sum.inl x
abbrev tw_J (x : Int64) : tw_V := Sum.inr (Sum.inl x)
abbrev tw_R (k n : Nat) : tw_V := Sum.inr (Sum.inr (some (k, n)))
abbrev tw_N : tw_V := Sum.inr (Sum.inr none)
abbrev tw_M : Type := (Nat → Nat → Nat → Int32) × (Nat → Int64)
abbrev tw_L : Type := List (Option tw_V)
def tw_gi (μ : tw_M) (k n j : Nat) : Int32 := μ.1 k n j
def tw_gl (μ : tw_M) (k : Nat) : Int64 := μ.2 k
def tw_si (μ : tw_M) (k n j : Nat) (v : Int32) : tw_M := (fun k' n' j' => if k' = k ∧ n' = n ∧ j' = j then v else μ.1 k' n' j', μ.2)
def tw_sl (μ : tw_M) (k : Nat) (v : Int64) : tw_M := (μ.1, fun k' => if k' = k then v else μ.2 k')
/-- fields of the kinds 0 .. 6: 0 int, 1 long, 2 reference, 3 boolean -/
def tw_fkT : List (List Nat) := [[2,2,2,2,2,0,0,0,0],[2,2,0],[2,2,0,0,0,0,0,0],[2,2,2,0,0,0,3],[2,0,0,0,0,0],[2,2,2,2,2,2,1],[0,1,2,0,0,0,0,0,0,2,2,2,2,2,0,0,0,0,0,0,0,0,2,2,2]]
def tw_fk (c j : Nat) : Nat := (tw_fkT.getD c []).getD j 0
def tw_nf (c : Nat) : Nat := (tw_fkT.getD c []).length
/-- where a reference field points -/
def tw_rfT : List (List (Nat × Nat)) := [[(10,0),(11,0),(12,0),(13,0),(14,0)],[(15,0),(16,0)],[(17,0),(18,0)],[(21,0),(22,0),(19,0)],[(20,0)],[(4,1),(0,1),(0,2),(3,1),(3,2),(3,3)],[(0,0),(0,0),(30,0),(0,0),(0,0),(0,0),(0,0),(0,0),(0,0),(31,0),(32,0),(33,0),(34,0),(35,0),(0,0),(0,0),(0,0),(0,0),(0,0),(0,0),(0,0),(0,0),(36,0),(37,0),(38,0)]]
def tw_rf (c j n : Nat) : Nat × Nat :=
  match (tw_rfT.getD c []).getD j (0, 0) with
  | (k, 0) => (k, n)
  | (k, i + 1) => (k, i)
def tw_fv (μ : tw_M) (c n j : Nat) : tw_V :=
  match tw_fk c j with
  | 1 => tw_J (tw_gl μ c)
  | 2 => tw_R (tw_rf c j n).1 (tw_rf c j n).2
  | _ => tw_I (tw_gi μ c n j)
/-- how long an array of a kind is -/
def tw_alT : List Nat := [4,24,5,4,4,60,60,4,4,4,300,8,4,0,0,0,0,0,0,0,300,8,48,10,8,8,363,726,2]
def tw_al (k : Nat) : Nat := tw_alT.getD (k - 10) 0
/-- the kinds of int arrays -/
def tw_ia (k : Nat) : Bool := (Nat.ble 10 k && Nat.ble k 20) || (Nat.ble 30 k && Nat.ble k 37)
/-- the String constants: their bytes -/
def tw_bytT : List (List Int32) := [[112,108,97,99,101],[102,114,111,115,116],[119,97,114,109],[99,111,108,100],[115,111,117,110,100],[112,101,114,115,111,110]]
def tw_lenT : List Nat := [5,5,4,4,5,6]
def tw_k (o : Option tw_V) : Option tw_V :=
  match o with
  | some (Sum.inr (Sum.inl _)) => none
  | _ => o
/-- the locals behind a store: what stands ahead and is long goes -/
def tw_kl : Nat → tw_L → tw_L
  | 0, L => L
  | _ + 1, [] => []
  | 1, o :: L => tw_k o :: L
  | i + 2, o :: L => o :: tw_kl (i + 1) L
def tw_s1 (L : tw_L) (i : Nat) (v : tw_V) : tw_L := (tw_kl i L).set i (some v)
def tw_s2 (L : tw_L) (i : Nat) (v : tw_V) : tw_L := ((tw_kl i L).set i (some v)).set (i + 1) none
def tw_ca (v : tw_V) : Nat := match v with
  | Sum.inr (Sum.inl _) => 2
  | _ => 1
def tw_el : List tw_V → tw_L
  | [] => []
  | Sum.inr (Sum.inl x) :: l => some (tw_J x) :: none :: tw_el l
  | v :: l => some v :: tw_el l
def tw_en (n : Nat) (l : List tw_V) : tw_L := tw_el l ++ List.replicate (n - (tw_el l).length) none
abbrev tw_in (i : Int32) (n : Nat) : Prop := ¬ (i < 0 ∨ n ≤ i.toNatClampNeg)
def tw_cnd (a : Nat) (x y : Int32) : Prop := match a with
  | 0 => x = y
  | 1 => ¬ x = y
  | 2 => x < y
  | 3 => y ≤ x
  | 4 => y < x
  | _ => x ≤ y
/-- an operation: its number, its length, a place, an offset, an int, a long, more places, a switch's keys -/
abbrev tw_Op : Type := Nat × Nat × Nat × Int × Int32 × Int64 × List Nat × List (Int32 × Nat)
/-- on it goes at a place; it returns; it calls -/
abbrev tw_O : Type := Option ((Nat × tw_L × List tw_V × tw_M) ⊕ (Option tw_V ⊕ (Nat × List tw_V × List tw_V × Nat)))
def tw_nx (pc : Nat) (L : tw_L) (st : List tw_V) (μ : tw_M) : tw_O := some (Sum.inl (pc, L, st, μ))
def tw_q1 (f : Int32 → Option Int32) (q : Nat) (L : tw_L) (st : List tw_V) (μ : tw_M) : tw_O := match st with
  | Sum.inl x :: r => match f x with
    | some z => tw_nx q L (tw_I z :: r) μ
    | none => none
  | _ => none
def tw_q2 (f : Int32 → Int32 → Int32) (q : Nat) (L : tw_L) (st : List tw_V) (μ : tw_M) : tw_O := match st with
  | Sum.inl y :: Sum.inl x :: r => tw_nx q L (tw_I (f x y) :: r) μ
  | _ => none
def tw_q3 (f : Int64 → Int64 → Int64) (q : Nat) (L : tw_L) (st : List tw_V) (μ : tw_M) : tw_O := match st with
  | Sum.inr (Sum.inl y) :: Sum.inr (Sum.inl x) :: r => tw_nx q L (tw_J (f x y) :: r) μ
  | _ => none
def tw_q4 (f : Int64 → Int32 → Int64) (q : Nat) (L : tw_L) (st : List tw_V) (μ : tw_M) : tw_O := match st with
  | Sum.inl y :: Sum.inr (Sum.inl x) :: r => tw_nx q L (tw_J (f x y) :: r) μ
  | _ => none
def tw_qd (f : Int32 → Int32 → Int32) (q : Nat) (L : tw_L) (st : List tw_V) (μ : tw_M) : tw_O := match st with
  | Sum.inl y :: Sum.inl x :: r => if y = 0 then none else tw_nx q L (tw_I (f x y) :: r) μ
  | _ => none
def tw_ql (f : Int64 → Int64 → Int64) (q : Nat) (L : tw_L) (st : List tw_V) (μ : tw_M) : tw_O := match st with
  | Sum.inr (Sum.inl y) :: Sum.inr (Sum.inl x) :: r => if y = 0 then none else tw_nx q L (tw_J (f x y) :: r) μ
  | _ => none
def tw_qi (a q : Nat) (L : tw_L) (st : List tw_V) (μ : tw_M) : tw_O := match L[a]? with
  | some (some (Sum.inl x)) => tw_nx q L (tw_I x :: st) μ
  | _ => none
def tw_qj (a q : Nat) (L : tw_L) (st : List tw_V) (μ : tw_M) : tw_O := match L[a]? with
  | some (some (Sum.inr (Sum.inl x))) => tw_nx q L (tw_J x :: st) μ
  | _ => none
def tw_qa (a q : Nat) (L : tw_L) (st : List tw_V) (μ : tw_M) : tw_O := match L[a]? with
  | some (some (Sum.inr (Sum.inr x))) => tw_nx q L (Sum.inr (Sum.inr x) :: st) μ
  | _ => none
def tw_ri (a q : Nat) (L : tw_L) (st : List tw_V) (μ : tw_M) : tw_O := match st with
  | Sum.inl x :: r => if a < L.length then tw_nx q (tw_s1 L a (tw_I x)) r μ else none
  | _ => none
def tw_rj (a q : Nat) (L : tw_L) (st : List tw_V) (μ : tw_M) : tw_O := match st with
  | Sum.inr (Sum.inl x) :: r => if a + 1 < L.length then tw_nx q (tw_s2 L a (tw_J x)) r μ else none
  | _ => none
def tw_ra (a q : Nat) (L : tw_L) (st : List tw_V) (μ : tw_M) : tw_O := match st with
  | Sum.inr (Sum.inr x) :: r => if a < L.length then tw_nx q (tw_s1 L a (Sum.inr (Sum.inr x))) r μ else none
  | _ => none
def tw_ic (a : Nat) (c : Int32) (q : Nat) (L : tw_L) (st : List tw_V) (μ : tw_M) : tw_O := match L[a]? with
  | some (some (Sum.inl x)) => if a < L.length then tw_nx q (tw_s1 L a (tw_I (x + c))) st μ else none
  | _ => none
def tw_sw : List (Int32 × Nat) → Nat → Int32 → Nat
  | [], d, _ => d
  | (k, q) :: l, d, x => if x = k then q else tw_sw l d x
def tw_rt (ty : FieldType) (x : Int32) : tw_O := if vp_nar ty x = x then some (Sum.inr (Sum.inl (some (tw_I x)))) else none
/-- boolean 3, char 4, byte 6 -/
def tw_ty (a : Nat) : FieldType := match a with
  | 3 => .boolean
  | 4 => .char
  | 6 => .byte
  | _ => .int
end
section
def RX0 : String := "ThawWords$Cape"
def TX0 : u_T := fun k => match k with
  | 0 => ("ThawWords$Cape", "colder", "[I", true)
  | 1 => ("ThawWords$Cape", "weather", "[I", true)
  | 2 => ("ThawWords$Cape", "melt", "[I", true)
  | 3 => ("ThawWords$Cape", "pitch", "[I", true)
  | 4 => ("ThawWords$Cape", "home", "[I", true)
  | 5 => ("ThawWords$Cape", "placeCount", "I", false)
  | 6 => ("ThawWords$Cape", "hourCount", "I", false)
  | 7 => ("ThawWords$Cape", "soundCount", "I", false)
  | _ => ("ThawWords$Cape", "personCount", "I", false)
def tyX0 : Nat → FieldType := fun k => match k with
  | 0 => .array .int
  | 1 => .array .int
  | 2 => .array .int
  | 3 => .array .int
  | 4 => .array .int
  | 5 => .int
  | 6 => .int
  | 7 => .int
  | _ => .int
abbrev wsX00 : List Cond := u_ws RX0 TX0 9
theorem nmX0 : ∀ a, a < 9 → ∀ b, b < 9 → a ≠ b → (TX0 a).2.1 ≠ (TX0 b).2.1 := by decide +kernel
theorem tyX0_ok : ∀ k, k < 9 → parseFieldDescriptor (TX0 k).2.2.1 = some (tyX0 k) := by decide +kernel
def RX1 : String := "ThawWords$Ear"
def TX1 : u_T := fun k => match k with
  | 0 => ("ThawWords$Ear", "sayings", "[I", true)
  | 1 => ("ThawWords$Ear", "sounds", "[I", true)
  | _ => ("ThawWords$Ear", "count", "I", false)
def tyX1 : Nat → FieldType := fun k => match k with
  | 0 => .array .int
  | 1 => .array .int
  | _ => .int
abbrev wsX10 : List Cond := u_ws RX1 TX1 3
theorem nmX1 : ∀ a, a < 3 → ∀ b, b < 3 → a ≠ b → (TX1 a).2.1 ≠ (TX1 b).2.1 := by decide +kernel
theorem tyX1_ok : ∀ k, k < 3 → parseFieldDescriptor (TX1 k).2.2.1 = some (tyX1 k) := by decide +kernel
def RX2 : String := "ThawWords$Saying"
def TX2 : u_T := fun k => match k with
  | 0 => ("ThawWords$Saying", "sounds", "[I", true)
  | 1 => ("ThawWords$Saying", "heardIn", "[I", true)
  | 2 => ("ThawWords$Saying", "length", "I", false)
  | 3 => ("ThawWords$Saying", "who", "I", false)
  | 4 => ("ThawWords$Saying", "where", "I", false)
  | 5 => ("ThawWords$Saying", "hour", "I", false)
  | 6 => ("ThawWords$Saying", "loud", "I", false)
  | _ => ("ThawWords$Saying", "standers", "I", false)
def tyX2 : Nat → FieldType := fun k => match k with
  | 0 => .array .int
  | 1 => .array .int
  | 2 => .int
  | 3 => .int
  | 4 => .int
  | 5 => .int
  | 6 => .int
  | _ => .int
abbrev wsX20 : List Cond := u_ws RX2 TX2 8
theorem nmX2 : ∀ a, a < 8 → ∀ b, b < 8 → a ≠ b → (TX2 a).2.1 ≠ (TX2 b).2.1 := by decide +kernel
theorem tyX2_ok : ∀ k, k < 8 → parseFieldDescriptor (TX2 k).2.2.1 = some (tyX2 k) := by decide +kernel
def RX3 : String := "ThawWords$Scene"
def TX3 : u_T := fun k => match k with
  | 0 => ("ThawWords$Scene", "sayings", "[LThawWords$Saying;", true)
  | 1 => ("ThawWords$Scene", "ears", "[LThawWords$Ear;", true)
  | 2 => ("ThawWords$Scene", "stands", "[I", true)
  | 3 => ("ThawWords$Scene", "sayingCount", "I", false)
  | 4 => ("ThawWords$Scene", "hour", "I", false)
  | 5 => ("ThawWords$Scene", "lanterns", "I", false)
  | _ => ("ThawWords$Scene", "kept", "Z", false)
def tyX3 : Nat → FieldType := fun k => match k with
  | 0 => .array (.object "ThawWords$Saying")
  | 1 => .array (.object "ThawWords$Ear")
  | 2 => .array .int
  | 3 => .int
  | 4 => .int
  | 5 => .int
  | _ => .boolean
abbrev wsX30 : List Cond := u_ws RX3 TX3 7
theorem nmX3 : ∀ a, a < 7 → ∀ b, b < 7 → a ≠ b → (TX3 a).2.1 ≠ (TX3 b).2.1 := by decide +kernel
theorem tyX3_ok : ∀ k, k < 7 → parseFieldDescriptor (TX3 k).2.2.1 = some (tyX3 k) := by decide +kernel
def RX4 : String := "ThawWords$Text"
def TX4 : u_T := fun k => match k with
  | 0 => ("ThawWords$Text", "bytes", "[I", true)
  | 1 => ("ThawWords$Text", "length", "I", false)
  | 2 => ("ThawWords$Text", "start", "I", false)
  | 3 => ("ThawWords$Text", "end", "I", false)
  | 4 => ("ThawWords$Text", "token", "I", false)
  | _ => ("ThawWords$Text", "value", "I", false)
def tyX4 : Nat → FieldType := fun k => match k with
  | 0 => .array .int
  | 1 => .int
  | 2 => .int
  | 3 => .int
  | 4 => .int
  | _ => .int
abbrev wsX40 : List Cond := u_ws RX4 TX4 6
theorem nmX4 : ∀ a, a < 6 → ∀ b, b < 6 → a ≠ b → (TX4 a).2.1 ≠ (TX4 b).2.1 := by decide +kernel
theorem tyX4_ok : ∀ k, k < 6 → parseFieldDescriptor (TX4 k).2.2.1 = some (tyX4 k) := by decide +kernel
def RX5 : String := "ThawWords"
def TX5 : u_T := fun k => match k with
  | 0 => ("ThawWords", "text", "LThawWords$Text;", true)
  | 1 => ("ThawWords", "known", "LThawWords$Cape;", true)
  | 2 => ("ThawWords", "draft", "LThawWords$Cape;", true)
  | 3 => ("ThawWords", "now", "LThawWords$Scene;", true)
  | 4 => ("ThawWords", "image0", "LThawWords$Scene;", true)
  | 5 => ("ThawWords", "image1", "LThawWords$Scene;", true)
  | _ => ("ThawWords", "trace", "J", false)
def tyX5 : Nat → FieldType := fun k => match k with
  | 0 => .object "ThawWords$Text"
  | 1 => .object "ThawWords$Cape"
  | 2 => .object "ThawWords$Cape"
  | 3 => .object "ThawWords$Scene"
  | 4 => .object "ThawWords$Scene"
  | 5 => .object "ThawWords$Scene"
  | _ => .long
abbrev wsX50 : List Cond := u_ws RX5 TX5 7
theorem nmX5 : ∀ a, a < 7 → ∀ b, b < 7 → a ≠ b → (TX5 a).2.1 ≠ (TX5 b).2.1 := by decide +kernel
theorem tyX5_ok : ∀ k, k < 7 → parseFieldDescriptor (TX5 k).2.2.1 = some (tyX5 k) := by decide +kernel
def RX6 : String := "ThawWordsModel"
def TX6 : u_T := fun k => match k with
  | 0 => ("ThawWordsModel", "thrown", "I", false)
  | 1 => ("ThawWordsModel", "trace", "J", false)
  | 2 => ("ThawWordsModel", "text", "[I", true)
  | 3 => ("ThawWordsModel", "typed", "I", false)
  | 4 => ("ThawWordsModel", "next", "I", false)
  | 5 => ("ThawWordsModel", "token", "I", false)
  | 6 => ("ThawWordsModel", "place", "I", false)
  | 7 => ("ThawWordsModel", "value", "I", false)
  | 8 => ("ThawWordsModel", "fault", "I", false)
  | 9 => ("ThawWordsModel", "colder", "[I", true)
  | 10 => ("ThawWordsModel", "weather", "[I", true)
  | 11 => ("ThawWordsModel", "melt", "[I", true)
  | 12 => ("ThawWordsModel", "pitch", "[I", true)
  | 13 => ("ThawWordsModel", "stands", "[I", true)
  | 14 => ("ThawWordsModel", "places", "I", false)
  | 15 => ("ThawWordsModel", "hours", "I", false)
  | 16 => ("ThawWordsModel", "sounds", "I", false)
  | 17 => ("ThawWordsModel", "people", "I", false)
  | 18 => ("ThawWordsModel", "draftPlaces", "I", false)
  | 19 => ("ThawWordsModel", "draftHours", "I", false)
  | 20 => ("ThawWordsModel", "draftSounds", "I", false)
  | 21 => ("ThawWordsModel", "draftPeople", "I", false)
  | 22 => ("ThawWordsModel", "s", "[I", true)
  | 23 => ("ThawWordsModel", "kept", "[I", true)
  | _ => ("ThawWordsModel", "isKept", "[Z", true)
def tyX6 : Nat → FieldType := fun k => match k with
  | 0 => .int
  | 1 => .long
  | 2 => .array .int
  | 3 => .int
  | 4 => .int
  | 5 => .int
  | 6 => .int
  | 7 => .int
  | 8 => .int
  | 9 => .array .int
  | 10 => .array .int
  | 11 => .array .int
  | 12 => .array .int
  | 13 => .array .int
  | 14 => .int
  | 15 => .int
  | 16 => .int
  | 17 => .int
  | 18 => .int
  | 19 => .int
  | 20 => .int
  | 21 => .int
  | 22 => .array .int
  | 23 => .array .int
  | _ => .array .boolean
abbrev wsX60 : List Cond := u_ws RX6 TX6 25
theorem nmX6 : ∀ a, a < 25 → ∀ b, b < 25 → a ≠ b → (TX6 a).2.1 ≠ (TX6 b).2.1 := by decide +kernel
theorem tyX6_ok : ∀ k, k < 25 → parseFieldDescriptor (TX6 k).2.2.1 = some (tyX6 k) := by decide +kernel
abbrev vwCl : List vw_C := [(RX0, TX0, 9), (RX1, TX1, 3), (RX2, TX2, 8), (RX3, TX3, 7), (RX4, TX4, 6), (RX5, TX5, 7), (RX6, TX6, 25)]
end
section
/-! the methods, written by a program out of the Statement -/
/-- ThawWords.put([III)V -/
def tw_c0 : List (Nat × tw_Op) := [(0, 7, 1, 1, 0, 0, 0, [], []), (1, 47, 3, 2, 0, 0, 0, [14], []), (4, 7, 1, 1, 0, 0, 0, [], []), (5, 11, 1, 0, 0, 0, 0, [], []), (6, 61, 1, 0, 0, 0, 0, [], []), (7, 48, 3, 3, 0, 0, 0, [14], []), (10, 11, 1, 0, 0, 0, 0, [], []), (11, 7, 1, 1, 0, 0, 0, [], []), (12, 7, 1, 2, 0, 0, 0, [], []), (13, 57, 1, 0, 0, 0, 0, [], []), (14, 69, 1, 0, 0, 0, 0, [], [])]
/-- ThawWords$Text.add(I)V -/
def tw_c1 : List (Nat × tw_Op) := [(0, 11, 1, 0, 0, 0, 0, [], []), (1, 54, 3, 9, 0, 0, 0, [4, 0, 74], []), (4, 11, 1, 0, 0, 0, 0, [], []), (5, 54, 3, 15, 0, 0, 0, [4, 1, 75], []), (8, 7, 1, 1, 0, 0, 0, [], []), (9, 74, 3, 31, 0, 0, 0, [0, 3, 4, 278, 48, 279], []), (12, 11, 1, 0, 0, 0, 0, [], []), (13, 44, 1, 0, 0, 0, 0, [], []), (14, 54, 3, 15, 0, 0, 0, [4, 1, 75], []), (17, 0, 1, 0, 1, 1, 0, [], []), (18, 20, 1, 0, 0, 0, 0, [], []), (19, 55, 3, 15, 0, 0, 0, [4, 1, 75], []), (22, 69, 1, 0, 0, 0, 0, [], [])]
/-- ThawWords.type(JI)I -/
def tw_c2 : List (Nat × tw_Op) := [(0, 7, 1, 3, 0, 0, 0, [], []), (1, 0, 1, 0, 1, 1, 0, [], []), (2, 48, 3, 2, 0, 0, 0, [11], []), (5, 7, 1, 3, 0, 0, 0, [], []), (6, 1, 2, 0, 8, 8, 0, [], []), (8, 48, 3, 5, 0, 0, 0, [13], []), (11, 0, 1, 0, (-1), (-1), 0, [], []), (12, 66, 1, 1, 0, 0, 0, [], []), (13, 11, 1, 0, 0, 0, 0, [], []), (14, 54, 3, 10, 0, 0, 0, [5, 0, 247], []), (17, 54, 3, 43, 0, 0, 0, [4, 1, 76], []), (20, 7, 1, 3, 0, 0, 0, [], []), (21, 20, 1, 0, 0, 0, 0, [], []), (22, 2, 3, 0, 300, 300, 0, [], []), (25, 48, 3, 5, 0, 0, 0, [31], []), (28, 1, 2, 0, (-3), (-3), 0, [], []), (30, 66, 1, 1, 0, 0, 0, [], []), (31, 7, 1, 3, 0, 0, 0, [], []), (32, 0, 1, 0, 1, 1, 0, [], []), (33, 21, 1, 0, 0, 0, 0, [], []), (34, 14, 2, 4, 0, 0, 0, [], []), (36, 8, 2, 4, 0, 0, 0, [], []), (38, 47, 3, 2, 0, 0, 0, [66], []), (41, 11, 1, 0, 0, 0, 0, [], []), (42, 54, 3, 10, 0, 0, 0, [5, 0, 247], []), (45, 9, 1, 1, 0, 0, 0, [], []), (46, 1, 2, 0, 8, 8, 0, [], []), (48, 8, 2, 4, 0, 0, 0, [], []), (50, 22, 1, 0, 0, 0, 0, [], []), (51, 39, 1, 0, 0, 0, 0, [], []), (52, 42, 1, 0, 0, 0, 0, [], []), (53, 2, 3, 0, 255, 255, 0, [], []), (56, 25, 1, 0, 0, 0, 0, [], []), (57, 64, 3, 47, 0, 0, 0, [1, 2, 4, 273, 274, 275, 49, 276], []), (60, 19, 3, 4, (-1), (-1), 0, [], []), (63, 51, 3, 0, 0, 0, 0, [36], []), (66, 11, 1, 0, 0, 0, 0, [], []), (67, 54, 3, 10, 0, 0, 0, [5, 0, 247], []), (70, 54, 3, 43, 0, 0, 0, [4, 1, 76], []), (73, 66, 1, 1, 0, 0, 0, [], [])]
/-- ThawWords.clear()I -/
def tw_c3 : List (Nat × tw_Op) := [(0, 11, 1, 0, 0, 0, 0, [], []), (1, 54, 3, 10, 0, 0, 0, [5, 0, 247], []), (4, 54, 3, 43, 0, 0, 0, [4, 1, 76], []), (7, 13, 1, 1, 0, 0, 0, [], []), (8, 11, 1, 0, 0, 0, 0, [], []), (9, 54, 3, 10, 0, 0, 0, [5, 0, 247], []), (12, 0, 1, 0, 0, 0, 0, [], []), (13, 55, 3, 43, 0, 0, 0, [4, 1, 76], []), (16, 7, 1, 1, 0, 0, 0, [], []), (17, 66, 1, 1, 0, 0, 0, [], [])]
/-- ThawWords$Cape.begin()V -/
def tw_c4 : List (Nat × tw_Op) := [(0, 11, 1, 0, 0, 0, 0, [], []), (1, 0, 1, 0, 0, 0, 0, [], []), (2, 55, 3, 27, 0, 0, 0, [0, 5, 111], []), (5, 11, 1, 0, 0, 0, 0, [], []), (6, 0, 1, 0, 0, 0, 0, [], []), (7, 55, 3, 31, 0, 0, 0, [0, 6, 115], []), (10, 11, 1, 0, 0, 0, 0, [], []), (11, 0, 1, 0, 0, 0, 0, [], []), (12, 55, 3, 34, 0, 0, 0, [0, 7, 118], []), (15, 11, 1, 0, 0, 0, 0, [], []), (16, 0, 1, 0, 0, 0, 0, [], []), (17, 55, 3, 37, 0, 0, 0, [0, 8, 121], []), (20, 69, 1, 0, 0, 0, 0, [], [])]
/-- ThawWords$Text.endOfRow(III)I -/
def tw_c5 : List (Nat × tw_Op) := [(0, 7, 1, 1, 0, 0, 0, [], []), (1, 0, 1, 0, 0, 0, 0, [], []), (2, 76, 3, 122, 0, 0, 0, [304, 305, 55, 306], []), (5, 14, 2, 4, 0, 0, 0, [], []), (7, 8, 2, 4, 0, 0, 0, [], []), (9, 11, 1, 0, 0, 0, 0, [], []), (10, 54, 3, 15, 0, 0, 0, [4, 1, 75], []), (13, 48, 3, 3, 0, 0, 0, [57], []), (16, 8, 2, 4, 0, 0, 0, [], []), (18, 11, 1, 0, 0, 0, 0, [], []), (19, 54, 3, 9, 0, 0, 0, [4, 0, 74], []), (22, 61, 1, 0, 0, 0, 0, [], []), (23, 48, 3, 3, 0, 0, 0, [57], []), (26, 11, 1, 0, 0, 0, 0, [], []), (27, 54, 3, 9, 0, 0, 0, [4, 0, 74], []), (30, 8, 2, 4, 0, 0, 0, [], []), (32, 56, 1, 0, 0, 0, 0, [], []), (33, 7, 1, 2, 0, 0, 0, [], []), (34, 48, 3, 2, 0, 0, 0, [48], []), (37, 11, 1, 0, 0, 0, 0, [], []), (38, 54, 3, 9, 0, 0, 0, [4, 0, 74], []), (41, 8, 2, 4, 0, 0, 0, [], []), (43, 56, 1, 0, 0, 0, 0, [], []), (44, 7, 1, 3, 0, 0, 0, [], []), (45, 48, 3, 5, 0, 0, 0, [51], []), (48, 8, 2, 4, 0, 0, 0, [], []), (50, 66, 1, 1, 0, 0, 0, [], []), (51, 19, 3, 4, 1, 1, 0, [], []), (54, 51, 3, 0, 0, 0, 0, [7], []), (57, 11, 1, 0, 0, 0, 0, [], []), (58, 54, 3, 15, 0, 0, 0, [4, 1, 75], []), (61, 66, 1, 1, 0, 0, 0, [], [])]
/-- ThawWords.at([II)I -/
def tw_c6 : List (Nat × tw_Op) := [(0, 7, 1, 1, 0, 0, 0, [], []), (1, 47, 3, 2, 0, 0, 0, [16], []), (4, 7, 1, 1, 0, 0, 0, [], []), (5, 11, 1, 0, 0, 0, 0, [], []), (6, 61, 1, 0, 0, 0, 0, [], []), (7, 48, 3, 3, 0, 0, 0, [16], []), (10, 11, 1, 0, 0, 0, 0, [], []), (11, 7, 1, 1, 0, 0, 0, [], []), (12, 56, 1, 0, 0, 0, 0, [], []), (13, 51, 3, 0, 0, 0, 0, [17], []), (16, 0, 1, 0, 0, 0, 0, [], []), (17, 66, 1, 1, 0, 0, 0, [], [])]
/-- ThawWords$Text.nextToken()V -/
def tw_c7 : List (Nat × tw_Op) := [(0, 11, 1, 0, 0, 0, 0, [], []), (1, 11, 1, 0, 0, 0, 0, [], []), (2, 11, 1, 0, 0, 0, 0, [], []), (3, 54, 3, 22, 0, 0, 0, [4, 3, 78], []), (6, 1, 2, 0, 32, 32, 0, [], []), (8, 1, 2, 0, 32, 32, 0, [], []), (10, 64, 3, 114, 0, 0, 0, [5, 4, 4, 300, 302, 1, 49, 303], []), (13, 55, 3, 19, 0, 0, 0, [4, 2, 77], []), (16, 11, 1, 0, 0, 0, 0, [], []), (17, 11, 1, 0, 0, 0, 0, [], []), (18, 11, 1, 0, 0, 0, 0, [], []), (19, 54, 3, 19, 0, 0, 0, [4, 2, 77], []), (22, 1, 2, 0, 97, 97, 0, [], []), (24, 1, 2, 0, 122, 122, 0, [], []), (26, 64, 3, 114, 0, 0, 0, [5, 4, 4, 300, 302, 1, 49, 303], []), (29, 55, 3, 22, 0, 0, 0, [4, 3, 78], []), (32, 11, 1, 0, 0, 0, 0, [], []), (33, 0, 1, 0, 1, 1, 0, [], []), (34, 55, 3, 25, 0, 0, 0, [4, 4, 79], []), (37, 11, 1, 0, 0, 0, 0, [], []), (38, 54, 3, 22, 0, 0, 0, [4, 3, 78], []), (41, 11, 1, 0, 0, 0, 0, [], []), (42, 54, 3, 19, 0, 0, 0, [4, 2, 77], []), (45, 48, 3, 5, 0, 0, 0, [49], []), (48, 69, 1, 0, 0, 0, 0, [], []), (49, 11, 1, 0, 0, 0, 0, [], []), (50, 11, 1, 0, 0, 0, 0, [], []), (51, 11, 1, 0, 0, 0, 0, [], []), (52, 54, 3, 19, 0, 0, 0, [4, 2, 77], []), (55, 1, 2, 0, 48, 48, 0, [], []), (57, 1, 2, 0, 57, 57, 0, [], []), (59, 64, 3, 114, 0, 0, 0, [5, 4, 4, 300, 302, 1, 49, 303], []), (62, 55, 3, 22, 0, 0, 0, [4, 3, 78], []), (65, 11, 1, 0, 0, 0, 0, [], []), (66, 0, 1, 0, 2, 2, 0, [], []), (67, 55, 3, 25, 0, 0, 0, [4, 4, 79], []), (70, 11, 1, 0, 0, 0, 0, [], []), (71, 54, 3, 22, 0, 0, 0, [4, 3, 78], []), (74, 11, 1, 0, 0, 0, 0, [], []), (75, 54, 3, 19, 0, 0, 0, [4, 2, 77], []), (78, 48, 3, 5, 0, 0, 0, [82], []), (81, 69, 1, 0, 0, 0, 0, [], []), (82, 11, 1, 0, 0, 0, 0, [], []), (83, 11, 1, 0, 0, 0, 0, [], []), (84, 54, 3, 19, 0, 0, 0, [4, 2, 77], []), (87, 11, 1, 0, 0, 0, 0, [], []), (88, 54, 3, 15, 0, 0, 0, [4, 1, 75], []), (91, 48, 3, 2, 0, 0, 0, [98], []), (94, 0, 1, 0, 0, 0, 0, [], []), (95, 51, 3, 0, 0, 0, 0, [119], []), (98, 11, 1, 0, 0, 0, 0, [], []), (99, 54, 3, 9, 0, 0, 0, [4, 0, 74], []), (102, 11, 1, 0, 0, 0, 0, [], []), (103, 54, 3, 19, 0, 0, 0, [4, 2, 77], []), (106, 74, 3, 118, 0, 0, 0, [6, 2, 5, 308, 48, 309], []), (109, 1, 2, 0, 59, 59, 0, [], []), (111, 48, 3, 1, 0, 0, 0, [118], []), (114, 0, 1, 0, 3, 3, 0, [], []), (115, 51, 3, 0, 0, 0, 0, [119], []), (118, 0, 1, 0, 4, 4, 0, [], []), (119, 55, 3, 25, 0, 0, 0, [4, 4, 79], []), (122, 11, 1, 0, 0, 0, 0, [], []), (123, 11, 1, 0, 0, 0, 0, [], []), (124, 54, 3, 19, 0, 0, 0, [4, 2, 77], []), (127, 0, 1, 0, 1, 1, 0, [], []), (128, 20, 1, 0, 0, 0, 0, [], []), (129, 55, 3, 22, 0, 0, 0, [4, 3, 78], []), (132, 69, 1, 0, 0, 0, 0, [], [])]
/-- java/lang/String.coder()B -/
def tw_c8 : List (Nat × tw_Op) := [(0, 62, 3, 38, 0, 0, 0, [0, 327], []), (3, 47, 3, 0, 0, 0, 0, [13], []), (6, 11, 1, 0, 0, 0, 0, [], []), (7, 71, 3, 15, 0, 0, 0, [1058], []), (10, 51, 3, 0, 0, 0, 0, [14], []), (13, 0, 1, 0, 1, 1, 0, [], []), (14, 75, 1, 6, 0, 0, 0, [], [])]
/-- java/lang/String.length()I -/
def tw_c9 : List (Nat × tw_Op) := [(0, 11, 1, 0, 0, 0, 0, [], []), (1, 70, 3, 9, 0, 0, 0, [1057], []), (4, 73, 1, 0, 0, 0, 0, [], []), (5, 11, 1, 0, 0, 0, 0, [], []), (6, 64, 3, 335, 0, 0, 0, [8, 1, 8, 323, 324, 325, 56, 326], []), (9, 29, 1, 0, 0, 0, 0, [], []), (10, 66, 1, 1, 0, 0, 0, [], [])]
/-- java/lang/String.isLatin1()Z -/
def tw_c10 : List (Nat × tw_Op) := [(0, 62, 3, 38, 0, 0, 0, [0, 327], []), (3, 47, 3, 0, 0, 0, 0, [17], []), (6, 11, 1, 0, 0, 0, 0, [], []), (7, 71, 3, 15, 0, 0, 0, [1058], []), (10, 47, 3, 1, 0, 0, 0, [17], []), (13, 0, 1, 0, 1, 1, 0, [], []), (14, 51, 3, 0, 0, 0, 0, [18], []), (17, 0, 1, 0, 0, 0, 0, [], []), (18, 75, 1, 3, 0, 0, 0, [], [])]
/-- jdk/internal/util/Preconditions.checkIndex(IILjava/util/function/BiFunction;)I -/
def tw_c11 : List (Nat × tw_Op) := [(0, 7, 1, 0, 0, 0, 0, [], []), (1, 47, 3, 2, 0, 0, 0, [9], []), (4, 7, 1, 0, 0, 0, 0, [], []), (5, 7, 1, 1, 0, 0, 0, [], []), (6, 48, 3, 2, 0, 0, 0, [16], []), (16, 7, 1, 0, 0, 0, 0, [], []), (17, 66, 1, 1, 0, 0, 0, [], [])]
/-- java/lang/String.checkIndex(II)V -/
def tw_c12 : List (Nat × tw_Op) := [(0, 7, 1, 0, 0, 0, 0, [], []), (1, 7, 1, 1, 0, 0, 0, [], []), (2, 62, 3, 1053, 0, 0, 0, [1, 343], []), (5, 65, 3, 1059, 0, 0, 0, [11, 3, 0, 345, 346, 58, 347], []), (8, 46, 1, 0, 0, 0, 0, [], []), (9, 69, 1, 0, 0, 0, 0, [], [])]
/-- java/lang/StringLatin1.charAt([BI)C -/
def tw_c13 : List (Nat × tw_Op) := [(0, 7, 1, 1, 0, 0, 0, [], []), (1, 11, 1, 0, 0, 0, 0, [], []), (2, 73, 1, 0, 0, 0, 0, [], []), (3, 65, 3, 9, 0, 0, 0, [12, 2, 0, 340, 341, 56, 342], []), (6, 11, 1, 0, 0, 0, 0, [], []), (7, 7, 1, 1, 0, 0, 0, [], []), (8, 72, 1, 0, 0, 0, 0, [], []), (9, 2, 3, 0, 255, 255, 0, [], []), (12, 25, 1, 0, 0, 0, 0, [], []), (13, 43, 1, 0, 0, 0, 0, [], []), (14, 75, 1, 4, 0, 0, 0, [], [])]
/-- java/lang/String.charAt(I)C -/
def tw_c14 : List (Nat × tw_Op) := [(0, 11, 1, 0, 0, 0, 0, [], []), (1, 64, 3, 492, 0, 0, 0, [10, 1, 8, 333, 334, 335, 56, 336], []), (4, 47, 3, 0, 0, 0, 0, [16], []), (7, 11, 1, 0, 0, 0, 0, [], []), (8, 70, 3, 9, 0, 0, 0, [1057], []), (11, 7, 1, 1, 0, 0, 0, [], []), (12, 65, 3, 495, 0, 0, 0, [13, 2, 0, 337, 338, 57, 339], []), (15, 75, 1, 4, 0, 0, 0, [], [])]
/-- ThawWords$Text.isWord(Ljava/lang/String;)Z -/
def tw_c15 : List (Nat × tw_Op) := [(0, 11, 1, 0, 0, 0, 0, [], []), (1, 54, 3, 22, 0, 0, 0, [4, 3, 78], []), (4, 11, 1, 0, 0, 0, 0, [], []), (5, 54, 3, 19, 0, 0, 0, [4, 2, 77], []), (8, 21, 1, 0, 0, 0, 0, [], []), (9, 11, 1, 1, 0, 0, 0, [], []), (10, 64, 3, 128, 0, 0, 0, [9, 1, 8, 319, 320, 321, 56, 322], []), (13, 48, 3, 0, 0, 0, 0, [18], []), (16, 0, 1, 0, 0, 0, 0, [], []), (17, 75, 1, 3, 0, 0, 0, [], []), (18, 0, 1, 0, 0, 0, 0, [], []), (19, 13, 1, 2, 0, 0, 0, [], []), (20, 7, 1, 2, 0, 0, 0, [], []), (21, 11, 1, 1, 0, 0, 0, [], []), (22, 64, 3, 128, 0, 0, 0, [9, 1, 8, 319, 320, 321, 56, 322], []), (25, 48, 3, 3, 0, 0, 0, [57], []), (28, 11, 1, 0, 0, 0, 0, [], []), (29, 54, 3, 9, 0, 0, 0, [4, 0, 74], []), (32, 11, 1, 0, 0, 0, 0, [], []), (33, 54, 3, 19, 0, 0, 0, [4, 2, 77], []), (36, 7, 1, 2, 0, 0, 0, [], []), (37, 20, 1, 0, 0, 0, 0, [], []), (38, 74, 3, 118, 0, 0, 0, [6, 2, 5, 308, 48, 309], []), (41, 11, 1, 1, 0, 0, 0, [], []), (42, 7, 1, 2, 0, 0, 0, [], []), (43, 64, 3, 132, 0, 0, 0, [14, 2, 8, 329, 330, 331, 56, 332], []), (46, 48, 3, 0, 0, 0, 0, [51], []), (49, 0, 1, 0, 0, 0, 0, [], []), (50, 75, 1, 3, 0, 0, 0, [], []), (51, 19, 3, 2, 1, 1, 0, [], []), (54, 51, 3, 0, 0, 0, 0, [20], []), (57, 0, 1, 0, 1, 1, 0, [], []), (58, 75, 1, 3, 0, 0, 0, [], [])]
/-- ThawWords$Text.shortNumber()I -/
def tw_c16 : List (Nat × tw_Op) := [(0, 11, 1, 0, 0, 0, 0, [], []), (1, 54, 3, 9, 0, 0, 0, [4, 0, 74], []), (4, 11, 1, 0, 0, 0, 0, [], []), (5, 54, 3, 19, 0, 0, 0, [4, 2, 77], []), (8, 74, 3, 118, 0, 0, 0, [6, 2, 5, 308, 48, 309], []), (11, 1, 2, 0, 48, 48, 0, [], []), (13, 21, 1, 0, 0, 0, 0, [], []), (14, 13, 1, 1, 0, 0, 0, [], []), (15, 11, 1, 0, 0, 0, 0, [], []), (16, 54, 3, 22, 0, 0, 0, [4, 3, 78], []), (19, 11, 1, 0, 0, 0, 0, [], []), (20, 54, 3, 19, 0, 0, 0, [4, 2, 77], []), (23, 21, 1, 0, 0, 0, 0, [], []), (24, 0, 1, 0, 1, 1, 0, [], []), (25, 48, 3, 1, 0, 0, 0, [30], []), (28, 7, 1, 1, 0, 0, 0, [], []), (29, 66, 1, 1, 0, 0, 0, [], []), (30, 11, 1, 0, 0, 0, 0, [], []), (31, 54, 3, 22, 0, 0, 0, [4, 3, 78], []), (34, 11, 1, 0, 0, 0, 0, [], []), (35, 54, 3, 19, 0, 0, 0, [4, 2, 77], []), (38, 21, 1, 0, 0, 0, 0, [], []), (39, 0, 1, 0, 2, 2, 0, [], []), (40, 48, 3, 4, 0, 0, 0, [47], []), (43, 7, 1, 1, 0, 0, 0, [], []), (44, 47, 3, 1, 0, 0, 0, [49], []), (47, 0, 1, 0, (-1), (-1), 0, [], []), (48, 66, 1, 1, 0, 0, 0, [], []), (49, 1, 2, 0, 10, 10, 0, [], []), (51, 7, 1, 1, 0, 0, 0, [], []), (52, 22, 1, 0, 0, 0, 0, [], []), (53, 11, 1, 0, 0, 0, 0, [], []), (54, 54, 3, 9, 0, 0, 0, [4, 0, 74], []), (57, 11, 1, 0, 0, 0, 0, [], []), (58, 54, 3, 19, 0, 0, 0, [4, 2, 77], []), (61, 0, 1, 0, 1, 1, 0, [], []), (62, 20, 1, 0, 0, 0, 0, [], []), (63, 74, 3, 118, 0, 0, 0, [6, 2, 5, 308, 48, 309], []), (66, 20, 1, 0, 0, 0, 0, [], []), (67, 1, 2, 0, 48, 48, 0, [], []), (69, 21, 1, 0, 0, 0, 0, [], []), (70, 66, 1, 1, 0, 0, 0, [], [])]
/-- ThawWords$Text.readNumber(II)Z -/
def tw_c17 : List (Nat × tw_Op) := [(0, 11, 1, 0, 0, 0, 0, [], []), (1, 64, 3, 40, 0, 0, 0, [7, 1, 4, 296, 298, 0, 49, 299], []), (4, 11, 1, 0, 0, 0, 0, [], []), (5, 11, 1, 0, 0, 0, 0, [], []), (6, 54, 3, 25, 0, 0, 0, [4, 4, 79], []), (9, 0, 1, 0, 2, 2, 0, [], []), (10, 48, 3, 1, 0, 0, 0, [20], []), (13, 11, 1, 0, 0, 0, 0, [], []), (14, 64, 3, 110, 0, 0, 0, [16, 1, 4, 375, 377, 6, 49, 378], []), (17, 51, 3, 0, 0, 0, 0, [21], []), (20, 0, 1, 0, (-1), (-1), 0, [], []), (21, 55, 3, 28, 0, 0, 0, [4, 5, 80], []), (24, 11, 1, 0, 0, 0, 0, [], []), (25, 54, 3, 28, 0, 0, 0, [4, 5, 80], []), (28, 7, 1, 1, 0, 0, 0, [], []), (29, 48, 3, 2, 0, 0, 0, [44], []), (32, 11, 1, 0, 0, 0, 0, [], []), (33, 54, 3, 28, 0, 0, 0, [4, 5, 80], []), (36, 7, 1, 2, 0, 0, 0, [], []), (37, 48, 3, 4, 0, 0, 0, [44], []), (40, 0, 1, 0, 1, 1, 0, [], []), (41, 51, 3, 0, 0, 0, 0, [45], []), (44, 0, 1, 0, 0, 0, 0, [], []), (45, 75, 1, 3, 0, 0, 0, [], [])]
/-- ThawWords$Cape.addPlace(I)V -/
def tw_c18 : List (Nat × tw_Op) := [(0, 11, 1, 0, 0, 0, 0, [], []), (1, 54, 3, 9, 0, 0, 0, [0, 0, 101], []), (4, 11, 1, 0, 0, 0, 0, [], []), (5, 54, 3, 27, 0, 0, 0, [0, 5, 111], []), (8, 7, 1, 1, 0, 0, 0, [], []), (9, 74, 3, 44, 0, 0, 0, [0, 3, 6, 278, 48, 279], []), (12, 11, 1, 0, 0, 0, 0, [], []), (13, 44, 1, 0, 0, 0, 0, [], []), (14, 54, 3, 27, 0, 0, 0, [0, 5, 111], []), (17, 0, 1, 0, 1, 1, 0, [], []), (18, 20, 1, 0, 0, 0, 0, [], []), (19, 55, 3, 27, 0, 0, 0, [0, 5, 111], []), (22, 69, 1, 0, 0, 0, 0, [], [])]
/-- ThawWords$Text.readMark()Z -/
def tw_c19 : List (Nat × tw_Op) := [(0, 11, 1, 0, 0, 0, 0, [], []), (1, 64, 3, 40, 0, 0, 0, [7, 1, 4, 296, 298, 0, 49, 299], []), (4, 11, 1, 0, 0, 0, 0, [], []), (5, 54, 3, 25, 0, 0, 0, [4, 4, 79], []), (8, 0, 1, 0, 3, 3, 0, [], []), (9, 48, 3, 1, 0, 0, 0, [16], []), (12, 0, 1, 0, 1, 1, 0, [], []), (13, 51, 3, 0, 0, 0, 0, [17], []), (16, 0, 1, 0, 0, 0, 0, [], []), (17, 75, 1, 3, 0, 0, 0, [], [])]
/-- ThawWords$Text.readPlace(LThawWords$Cape;)Z -/
def tw_c20 : List (Nat × tw_Op) := [(0, 11, 1, 1, 0, 0, 0, [], []), (1, 54, 3, 76, 0, 0, 0, [0, 5, 112], []), (4, 0, 1, 0, 4, 4, 0, [], []), (5, 48, 3, 3, 0, 0, 0, [18], []), (8, 11, 1, 0, 0, 0, 0, [], []), (9, 0, 1, 0, 0, 0, 0, [], []), (10, 1, 2, 0, 9, 9, 0, [], []), (12, 64, 3, 79, 0, 0, 0, [17, 3, 4, 371, 373, 5, 49, 374], []), (15, 47, 3, 1, 0, 0, 0, [20], []), (18, 0, 1, 0, 0, 0, 0, [], []), (19, 75, 1, 3, 0, 0, 0, [], []), (20, 11, 1, 1, 0, 0, 0, [], []), (21, 11, 1, 0, 0, 0, 0, [], []), (22, 54, 3, 28, 0, 0, 0, [4, 5, 80], []), (25, 64, 3, 83, 0, 0, 0, [18, 2, 0, 379, 380, 381, 50, 382], []), (28, 11, 1, 0, 0, 0, 0, [], []), (29, 64, 3, 87, 0, 0, 0, [19, 1, 4, 384, 386, 7, 49, 387], []), (32, 75, 1, 3, 0, 0, 0, [], [])]
/-- ThawWords$Cape.addHours(II)V -/
def tw_c21 : List (Nat × tw_Op) := [(0, 0, 1, 0, 0, 0, 0, [], []), (1, 13, 1, 3, 0, 0, 0, [], []), (2, 7, 1, 3, 0, 0, 0, [], []), (3, 7, 1, 1, 0, 0, 0, [], []), (4, 48, 3, 3, 0, 0, 0, [35], []), (7, 11, 1, 0, 0, 0, 0, [], []), (8, 54, 3, 15, 0, 0, 0, [0, 1, 103], []), (11, 11, 1, 0, 0, 0, 0, [], []), (12, 54, 3, 31, 0, 0, 0, [0, 6, 115], []), (15, 7, 1, 2, 0, 0, 0, [], []), (16, 74, 3, 44, 0, 0, 0, [0, 3, 6, 278, 48, 279], []), (19, 11, 1, 0, 0, 0, 0, [], []), (20, 44, 1, 0, 0, 0, 0, [], []), (21, 54, 3, 31, 0, 0, 0, [0, 6, 115], []), (24, 0, 1, 0, 1, 1, 0, [], []), (25, 20, 1, 0, 0, 0, 0, [], []), (26, 55, 3, 31, 0, 0, 0, [0, 6, 115], []), (29, 19, 3, 3, 1, 1, 0, [], []), (32, 51, 3, 0, 0, 0, 0, [2], []), (35, 69, 1, 0, 0, 0, 0, [], [])]
/-- ThawWords$Text.readWeather(LThawWords$Cape;I)Z -/
def tw_c22 : List (Nat × tw_Op) := [(0, 11, 1, 0, 0, 0, 0, [], []), (1, 0, 1, 0, 0, 0, 0, [], []), (2, 1, 2, 0, 20, 20, 0, [], []), (4, 64, 3, 79, 0, 0, 0, [17, 3, 4, 371, 373, 5, 49, 374], []), (7, 47, 3, 1, 0, 0, 0, [12], []), (10, 0, 1, 0, 0, 0, 0, [], []), (11, 75, 1, 3, 0, 0, 0, [], []), (12, 7, 1, 2, 0, 0, 0, [], []), (13, 11, 1, 0, 0, 0, 0, [], []), (14, 54, 3, 28, 0, 0, 0, [4, 5, 80], []), (17, 22, 1, 0, 0, 0, 0, [], []), (18, 13, 1, 3, 0, 0, 0, [], []), (19, 11, 1, 0, 0, 0, 0, [], []), (20, 0, 1, 0, 1, 1, 0, [], []), (21, 1, 2, 0, 24, 24, 0, [], []), (23, 11, 1, 1, 0, 0, 0, [], []), (24, 54, 3, 91, 0, 0, 0, [0, 6, 116], []), (27, 21, 1, 0, 0, 0, 0, [], []), (28, 64, 3, 79, 0, 0, 0, [17, 3, 4, 371, 373, 5, 49, 374], []), (31, 47, 3, 1, 0, 0, 0, [36], []), (34, 0, 1, 0, 0, 0, 0, [], []), (35, 75, 1, 3, 0, 0, 0, [], []), (36, 11, 1, 1, 0, 0, 0, [], []), (37, 11, 1, 0, 0, 0, 0, [], []), (38, 54, 3, 28, 0, 0, 0, [4, 5, 80], []), (41, 7, 1, 3, 0, 0, 0, [], []), (42, 64, 3, 94, 0, 0, 0, [21, 3, 0, 393, 394, 395, 50, 396], []), (45, 11, 1, 0, 0, 0, 0, [], []), (46, 64, 3, 87, 0, 0, 0, [19, 1, 4, 384, 386, 7, 49, 387], []), (49, 75, 1, 3, 0, 0, 0, [], [])]
/-- ThawWords$Cape.addSound(I)V -/
def tw_c23 : List (Nat × tw_Op) := [(0, 11, 1, 0, 0, 0, 0, [], []), (1, 54, 3, 18, 0, 0, 0, [0, 2, 104], []), (4, 11, 1, 0, 0, 0, 0, [], []), (5, 54, 3, 34, 0, 0, 0, [0, 7, 118], []), (8, 7, 1, 1, 0, 0, 0, [], []), (9, 74, 3, 44, 0, 0, 0, [0, 3, 6, 278, 48, 279], []), (12, 11, 1, 0, 0, 0, 0, [], []), (13, 44, 1, 0, 0, 0, 0, [], []), (14, 54, 3, 34, 0, 0, 0, [0, 7, 118], []), (17, 0, 1, 0, 1, 1, 0, [], []), (18, 20, 1, 0, 0, 0, 0, [], []), (19, 55, 3, 34, 0, 0, 0, [0, 7, 118], []), (22, 69, 1, 0, 0, 0, 0, [], [])]
/-- ThawWords$Text.readSound(LThawWords$Cape;I)Z -/
def tw_c24 : List (Nat × tw_Op) := [(0, 11, 1, 1, 0, 0, 0, [], []), (1, 54, 3, 98, 0, 0, 0, [0, 7, 119], []), (4, 0, 1, 0, 5, 5, 0, [], []), (5, 48, 3, 3, 0, 0, 0, [18], []), (8, 11, 1, 0, 0, 0, 0, [], []), (9, 0, 1, 0, 0, 0, 0, [], []), (10, 1, 2, 0, 9, 9, 0, [], []), (12, 64, 3, 79, 0, 0, 0, [17, 3, 4, 371, 373, 5, 49, 374], []), (15, 47, 3, 1, 0, 0, 0, [20], []), (18, 0, 1, 0, 0, 0, 0, [], []), (19, 75, 1, 3, 0, 0, 0, [], []), (20, 11, 1, 1, 0, 0, 0, [], []), (21, 7, 1, 2, 0, 0, 0, [], []), (22, 11, 1, 0, 0, 0, 0, [], []), (23, 54, 3, 28, 0, 0, 0, [4, 5, 80], []), (26, 22, 1, 0, 0, 0, 0, [], []), (27, 64, 3, 101, 0, 0, 0, [23, 2, 0, 403, 404, 405, 50, 406], []), (30, 11, 1, 0, 0, 0, 0, [], []), (31, 64, 3, 87, 0, 0, 0, [19, 1, 4, 384, 386, 7, 49, 387], []), (34, 75, 1, 3, 0, 0, 0, [], [])]
/-- ThawWords$Cape.addPerson(II)V -/
def tw_c25 : List (Nat × tw_Op) := [(0, 11, 1, 0, 0, 0, 0, [], []), (1, 54, 3, 21, 0, 0, 0, [0, 3, 107], []), (4, 11, 1, 0, 0, 0, 0, [], []), (5, 54, 3, 37, 0, 0, 0, [0, 8, 121], []), (8, 7, 1, 1, 0, 0, 0, [], []), (9, 74, 3, 44, 0, 0, 0, [0, 3, 6, 278, 48, 279], []), (12, 11, 1, 0, 0, 0, 0, [], []), (13, 54, 3, 24, 0, 0, 0, [0, 4, 109], []), (16, 11, 1, 0, 0, 0, 0, [], []), (17, 54, 3, 37, 0, 0, 0, [0, 8, 121], []), (20, 7, 1, 2, 0, 0, 0, [], []), (21, 74, 3, 44, 0, 0, 0, [0, 3, 6, 278, 48, 279], []), (24, 11, 1, 0, 0, 0, 0, [], []), (25, 44, 1, 0, 0, 0, 0, [], []), (26, 54, 3, 37, 0, 0, 0, [0, 8, 121], []), (29, 0, 1, 0, 1, 1, 0, [], []), (30, 20, 1, 0, 0, 0, 0, [], []), (31, 55, 3, 37, 0, 0, 0, [0, 8, 121], []), (34, 69, 1, 0, 0, 0, 0, [], [])]
/-- ThawWords$Text.readPerson(LThawWords$Cape;)Z -/
def tw_c26 : List (Nat × tw_Op) := [(0, 11, 1, 1, 0, 0, 0, [], []), (1, 54, 3, 104, 0, 0, 0, [0, 8, 122], []), (4, 0, 1, 0, 4, 4, 0, [], []), (5, 48, 3, 3, 0, 0, 0, [18], []), (8, 11, 1, 0, 0, 0, 0, [], []), (9, 0, 1, 0, 0, 0, 0, [], []), (10, 1, 2, 0, 9, 9, 0, [], []), (12, 64, 3, 79, 0, 0, 0, [17, 3, 4, 371, 373, 5, 49, 374], []), (15, 47, 3, 1, 0, 0, 0, [20], []), (18, 0, 1, 0, 0, 0, 0, [], []), (19, 75, 1, 3, 0, 0, 0, [], []), (20, 11, 1, 0, 0, 0, 0, [], []), (21, 54, 3, 28, 0, 0, 0, [4, 5, 80], []), (24, 13, 1, 2, 0, 0, 0, [], []), (25, 11, 1, 0, 0, 0, 0, [], []), (26, 0, 1, 0, 0, 0, 0, [], []), (27, 11, 1, 1, 0, 0, 0, [], []), (28, 54, 3, 76, 0, 0, 0, [0, 5, 112], []), (31, 0, 1, 0, 1, 1, 0, [], []), (32, 21, 1, 0, 0, 0, 0, [], []), (33, 64, 3, 79, 0, 0, 0, [17, 3, 4, 371, 373, 5, 49, 374], []), (36, 47, 3, 1, 0, 0, 0, [41], []), (39, 0, 1, 0, 0, 0, 0, [], []), (40, 75, 1, 3, 0, 0, 0, [], []), (41, 11, 1, 1, 0, 0, 0, [], []), (42, 7, 1, 2, 0, 0, 0, [], []), (43, 11, 1, 0, 0, 0, 0, [], []), (44, 54, 3, 28, 0, 0, 0, [4, 5, 80], []), (47, 64, 3, 107, 0, 0, 0, [25, 3, 0, 413, 414, 415, 50, 416], []), (50, 11, 1, 0, 0, 0, 0, [], []), (51, 64, 3, 87, 0, 0, 0, [19, 1, 4, 384, 386, 7, 49, 387], []), (54, 75, 1, 3, 0, 0, 0, [], [])]
/-- ThawWords$Text.readItem(LThawWords$Cape;)Z -/
def tw_c27 : List (Nat × tw_Op) := [(0, 11, 1, 0, 0, 0, 0, [], []), (1, 54, 3, 25, 0, 0, 0, [4, 4, 79], []), (4, 0, 1, 0, 1, 1, 0, [], []), (5, 48, 3, 0, 0, 0, 0, [10], []), (8, 0, 1, 0, 0, 0, 0, [], []), (9, 75, 1, 3, 0, 0, 0, [], []), (10, 11, 1, 0, 0, 0, 0, [], []), (11, 63, 2, 47, 0, 0, 0, [0], []), (13, 64, 3, 49, 0, 0, 0, [15, 2, 4, 315, 317, 3, 49, 318], []), (16, 47, 3, 0, 0, 0, 0, [25], []), (19, 11, 1, 0, 0, 0, 0, [], []), (20, 11, 1, 1, 0, 0, 0, [], []), (21, 64, 3, 53, 0, 0, 0, [20, 2, 4, 367, 369, 4, 49, 370], []), (24, 75, 1, 3, 0, 0, 0, [], []), (25, 11, 1, 0, 0, 0, 0, [], []), (26, 63, 2, 56, 0, 0, 0, [1], []), (28, 64, 3, 49, 0, 0, 0, [15, 2, 4, 315, 317, 3, 49, 318], []), (31, 47, 3, 0, 0, 0, 0, [41], []), (34, 11, 1, 0, 0, 0, 0, [], []), (35, 11, 1, 1, 0, 0, 0, [], []), (36, 0, 1, 0, (-1), (-1), 0, [], []), (37, 64, 3, 58, 0, 0, 0, [22, 3, 4, 389, 391, 8, 49, 392], []), (40, 75, 1, 3, 0, 0, 0, [], []), (41, 11, 1, 0, 0, 0, 0, [], []), (42, 63, 2, 62, 0, 0, 0, [2], []), (44, 64, 3, 49, 0, 0, 0, [15, 2, 4, 315, 317, 3, 49, 318], []), (47, 47, 3, 0, 0, 0, 0, [57], []), (50, 11, 1, 0, 0, 0, 0, [], []), (51, 11, 1, 1, 0, 0, 0, [], []), (52, 0, 1, 0, 1, 1, 0, [], []), (53, 64, 3, 58, 0, 0, 0, [22, 3, 4, 389, 391, 8, 49, 392], []), (56, 75, 1, 3, 0, 0, 0, [], []), (57, 11, 1, 0, 0, 0, 0, [], []), (58, 63, 2, 64, 0, 0, 0, [3], []), (60, 64, 3, 49, 0, 0, 0, [15, 2, 4, 315, 317, 3, 49, 318], []), (63, 47, 3, 0, 0, 0, 0, [73], []), (66, 11, 1, 0, 0, 0, 0, [], []), (67, 11, 1, 1, 0, 0, 0, [], []), (68, 0, 1, 0, (-1), (-1), 0, [], []), (69, 64, 3, 66, 0, 0, 0, [24, 3, 4, 399, 401, 9, 49, 402], []), (72, 75, 1, 3, 0, 0, 0, [], []), (73, 11, 1, 0, 0, 0, 0, [], []), (74, 63, 2, 69, 0, 0, 0, [4], []), (76, 64, 3, 49, 0, 0, 0, [15, 2, 4, 315, 317, 3, 49, 318], []), (79, 47, 3, 0, 0, 0, 0, [89], []), (82, 11, 1, 0, 0, 0, 0, [], []), (83, 11, 1, 1, 0, 0, 0, [], []), (84, 0, 1, 0, 1, 1, 0, [], []), (85, 64, 3, 66, 0, 0, 0, [24, 3, 4, 399, 401, 9, 49, 402], []), (88, 75, 1, 3, 0, 0, 0, [], []), (89, 11, 1, 0, 0, 0, 0, [], []), (90, 63, 2, 71, 0, 0, 0, [5], []), (92, 64, 3, 49, 0, 0, 0, [15, 2, 4, 315, 317, 3, 49, 318], []), (95, 47, 3, 0, 0, 0, 0, [104], []), (98, 11, 1, 0, 0, 0, 0, [], []), (99, 11, 1, 1, 0, 0, 0, [], []), (100, 64, 3, 73, 0, 0, 0, [26, 2, 4, 409, 411, 10, 49, 412], []), (103, 75, 1, 3, 0, 0, 0, [], []), (104, 0, 1, 0, 0, 0, 0, [], []), (105, 75, 1, 3, 0, 0, 0, [], [])]
/-- ThawWords$Text.readInto(LThawWords$Cape;)I -/
def tw_c28 : List (Nat × tw_Op) := [(0, 11, 1, 1, 0, 0, 0, [], []), (1, 64, 3, 35, 0, 0, 0, [4, 1, 0, 292, 293, 294, 50, 295], []), (4, 11, 1, 0, 0, 0, 0, [], []), (5, 0, 1, 0, 0, 0, 0, [], []), (6, 55, 3, 22, 0, 0, 0, [4, 3, 78], []), (9, 0, 1, 0, 0, 0, 0, [], []), (10, 13, 1, 2, 0, 0, 0, [], []), (11, 11, 1, 0, 0, 0, 0, [], []), (12, 64, 3, 40, 0, 0, 0, [7, 1, 4, 296, 298, 0, 49, 299], []), (15, 11, 1, 0, 0, 0, 0, [], []), (16, 54, 3, 25, 0, 0, 0, [4, 4, 79], []), (19, 47, 3, 0, 0, 0, 0, [56], []), (22, 7, 1, 2, 0, 0, 0, [], []), (23, 11, 1, 0, 0, 0, 0, [], []), (24, 54, 3, 15, 0, 0, 0, [4, 1, 75], []), (27, 48, 3, 3, 0, 0, 0, [56], []), (30, 11, 1, 0, 0, 0, 0, [], []), (31, 11, 1, 1, 0, 0, 0, [], []), (32, 64, 3, 43, 0, 0, 0, [27, 2, 4, 310, 312, 2, 49, 313], []), (35, 47, 3, 1, 0, 0, 0, [46], []), (38, 1, 2, 0, (-10), (-10), 0, [], []), (40, 11, 1, 0, 0, 0, 0, [], []), (41, 54, 3, 19, 0, 0, 0, [4, 2, 77], []), (44, 21, 1, 0, 0, 0, 0, [], []), (45, 66, 1, 1, 0, 0, 0, [], []), (46, 19, 3, 2, 1, 1, 0, [], []), (49, 11, 1, 0, 0, 0, 0, [], []), (50, 64, 3, 40, 0, 0, 0, [7, 1, 4, 296, 298, 0, 49, 299], []), (53, 51, 3, 0, 0, 0, 0, [15], []), (56, 7, 1, 2, 0, 0, 0, [], []), (57, 66, 1, 1, 0, 0, 0, [], [])]
/-- ThawWords.copy([I[I)V -/
def tw_c29 : List (Nat × tw_Op) := [(0, 0, 1, 0, 0, 0, 0, [], []), (1, 13, 1, 2, 0, 0, 0, [], []), (2, 7, 1, 2, 0, 0, 0, [], []), (3, 11, 1, 0, 0, 0, 0, [], []), (4, 61, 1, 0, 0, 0, 0, [], []), (5, 48, 3, 3, 0, 0, 0, [26], []), (8, 7, 1, 2, 0, 0, 0, [], []), (9, 11, 1, 1, 0, 0, 0, [], []), (10, 61, 1, 0, 0, 0, 0, [], []), (11, 48, 3, 3, 0, 0, 0, [26], []), (14, 11, 1, 1, 0, 0, 0, [], []), (15, 7, 1, 2, 0, 0, 0, [], []), (16, 11, 1, 0, 0, 0, 0, [], []), (17, 7, 1, 2, 0, 0, 0, [], []), (18, 56, 1, 0, 0, 0, 0, [], []), (19, 57, 1, 0, 0, 0, 0, [], []), (20, 19, 3, 2, 1, 1, 0, [], []), (23, 51, 3, 0, 0, 0, 0, [2], []), (26, 69, 1, 0, 0, 0, 0, [], [])]
/-- ThawWords$Cape.become(LThawWords$Cape;)V -/
def tw_c30 : List (Nat × tw_Op) := [(0, 11, 1, 1, 0, 0, 0, [], []), (1, 54, 3, 9, 0, 0, 0, [0, 0, 101], []), (4, 11, 1, 0, 0, 0, 0, [], []), (5, 54, 3, 9, 0, 0, 0, [0, 0, 101], []), (8, 74, 3, 40, 0, 0, 0, [29, 2, 7, 422, 48, 423], []), (11, 11, 1, 1, 0, 0, 0, [], []), (12, 54, 3, 15, 0, 0, 0, [0, 1, 103], []), (15, 11, 1, 0, 0, 0, 0, [], []), (16, 54, 3, 15, 0, 0, 0, [0, 1, 103], []), (19, 74, 3, 40, 0, 0, 0, [29, 2, 7, 422, 48, 423], []), (22, 11, 1, 1, 0, 0, 0, [], []), (23, 54, 3, 18, 0, 0, 0, [0, 2, 104], []), (26, 11, 1, 0, 0, 0, 0, [], []), (27, 54, 3, 18, 0, 0, 0, [0, 2, 104], []), (30, 74, 3, 40, 0, 0, 0, [29, 2, 7, 422, 48, 423], []), (33, 11, 1, 1, 0, 0, 0, [], []), (34, 54, 3, 21, 0, 0, 0, [0, 3, 107], []), (37, 11, 1, 0, 0, 0, 0, [], []), (38, 54, 3, 21, 0, 0, 0, [0, 3, 107], []), (41, 74, 3, 40, 0, 0, 0, [29, 2, 7, 422, 48, 423], []), (44, 11, 1, 1, 0, 0, 0, [], []), (45, 54, 3, 24, 0, 0, 0, [0, 4, 109], []), (48, 11, 1, 0, 0, 0, 0, [], []), (49, 54, 3, 24, 0, 0, 0, [0, 4, 109], []), (52, 74, 3, 40, 0, 0, 0, [29, 2, 7, 422, 48, 423], []), (55, 11, 1, 0, 0, 0, 0, [], []), (56, 11, 1, 1, 0, 0, 0, [], []), (57, 54, 3, 27, 0, 0, 0, [0, 5, 111], []), (60, 55, 3, 27, 0, 0, 0, [0, 5, 111], []), (63, 11, 1, 0, 0, 0, 0, [], []), (64, 11, 1, 1, 0, 0, 0, [], []), (65, 54, 3, 31, 0, 0, 0, [0, 6, 115], []), (68, 55, 3, 31, 0, 0, 0, [0, 6, 115], []), (71, 11, 1, 0, 0, 0, 0, [], []), (72, 11, 1, 1, 0, 0, 0, [], []), (73, 54, 3, 34, 0, 0, 0, [0, 7, 118], []), (76, 55, 3, 34, 0, 0, 0, [0, 7, 118], []), (79, 11, 1, 0, 0, 0, 0, [], []), (80, 11, 1, 1, 0, 0, 0, [], []), (81, 54, 3, 37, 0, 0, 0, [0, 8, 121], []), (84, 55, 3, 37, 0, 0, 0, [0, 8, 121], []), (87, 69, 1, 0, 0, 0, 0, [], [])]
/-- ThawWords$Cape.isPerson(I)Z -/
def tw_c31 : List (Nat × tw_Op) := [(0, 7, 1, 1, 0, 0, 0, [], []), (1, 47, 3, 2, 0, 0, 0, [16], []), (4, 7, 1, 1, 0, 0, 0, [], []), (5, 11, 1, 0, 0, 0, 0, [], []), (6, 54, 3, 37, 0, 0, 0, [0, 8, 121], []), (9, 48, 3, 3, 0, 0, 0, [16], []), (12, 0, 1, 0, 1, 1, 0, [], []), (13, 51, 3, 0, 0, 0, 0, [17], []), (16, 0, 1, 0, 0, 0, 0, [], []), (17, 75, 1, 3, 0, 0, 0, [], [])]
/-- ThawWords$Scene.begin(LThawWords$Cape;)V -/
def tw_c32 : List (Nat × tw_Op) := [(0, 11, 1, 0, 0, 0, 0, [], []), (1, 0, 1, 0, 0, 0, 0, [], []), (2, 55, 3, 31, 0, 0, 0, [3, 4, 226], []), (5, 11, 1, 0, 0, 0, 0, [], []), (6, 0, 1, 0, 0, 0, 0, [], []), (7, 55, 3, 34, 0, 0, 0, [3, 5, 228], []), (10, 11, 1, 0, 0, 0, 0, [], []), (11, 0, 1, 0, 0, 0, 0, [], []), (12, 55, 3, 27, 0, 0, 0, [3, 3, 224], []), (15, 0, 1, 0, 0, 0, 0, [], []), (16, 13, 1, 2, 0, 0, 0, [], []), (17, 7, 1, 2, 0, 0, 0, [], []), (18, 11, 1, 0, 0, 0, 0, [], []), (19, 54, 3, 19, 0, 0, 0, [3, 1, 221], []), (22, 61, 1, 0, 0, 0, 0, [], []), (23, 48, 3, 3, 0, 0, 0, [76], []), (26, 11, 1, 0, 0, 0, 0, [], []), (27, 54, 3, 23, 0, 0, 0, [3, 2, 222], []), (30, 7, 1, 2, 0, 0, 0, [], []), (31, 11, 1, 1, 0, 0, 0, [], []), (32, 7, 1, 2, 0, 0, 0, [], []), (33, 64, 3, 43, 0, 0, 0, [31, 2, 0, 428, 429, 430, 50, 431], []), (36, 47, 3, 0, 0, 0, 0, [50], []), (39, 11, 1, 1, 0, 0, 0, [], []), (40, 54, 3, 49, 0, 0, 0, [0, 4, 110], []), (43, 7, 1, 2, 0, 0, 0, [], []), (44, 74, 3, 52, 0, 0, 0, [6, 2, 8, 308, 48, 309], []), (47, 51, 3, 0, 0, 0, 0, [51], []), (50, 0, 1, 0, (-1), (-1), 0, [], []), (51, 74, 3, 56, 0, 0, 0, [0, 3, 9, 278, 48, 279], []), (54, 11, 1, 0, 0, 0, 0, [], []), (55, 54, 3, 19, 0, 0, 0, [3, 1, 221], []), (58, 7, 1, 2, 0, 0, 0, [], []), (59, 60, 1, 0, 0, 0, 0, [], []), (60, 17, 1, 3, 0, 0, 0, [], []), (61, 11, 1, 3, 0, 0, 0, [], []), (62, 49, 3, 0, 0, 0, 0, [70], []), (65, 11, 1, 3, 0, 0, 0, [], []), (66, 0, 1, 0, 0, 0, 0, [], []), (67, 55, 3, 60, 0, 0, 0, [1, 2, 211], []), (70, 19, 3, 2, 1, 1, 0, [], []), (73, 51, 3, 0, 0, 0, 0, [17], []), (76, 69, 1, 0, 0, 0, 0, [], [])]
/-- ThawWords.cape()I -/
def tw_c33 : List (Nat × tw_Op) := [(0, 11, 1, 0, 0, 0, 0, [], []), (1, 54, 3, 10, 0, 0, 0, [5, 0, 247], []), (4, 11, 1, 0, 0, 0, 0, [], []), (5, 54, 3, 23, 0, 0, 0, [5, 2, 249], []), (8, 64, 3, 51, 0, 0, 0, [28, 2, 4, 288, 289, 290, 49, 291], []), (11, 13, 1, 1, 0, 0, 0, [], []), (12, 7, 1, 1, 0, 0, 0, [], []), (13, 47, 3, 3, 0, 0, 0, [18], []), (16, 7, 1, 1, 0, 0, 0, [], []), (17, 66, 1, 1, 0, 0, 0, [], []), (18, 11, 1, 0, 0, 0, 0, [], []), (19, 54, 3, 19, 0, 0, 0, [5, 1, 248], []), (22, 11, 1, 0, 0, 0, 0, [], []), (23, 54, 3, 23, 0, 0, 0, [5, 2, 249], []), (26, 64, 3, 55, 0, 0, 0, [30, 2, 0, 417, 418, 419, 50, 420], []), (29, 11, 1, 0, 0, 0, 0, [], []), (30, 54, 3, 10, 0, 0, 0, [5, 0, 247], []), (33, 0, 1, 0, 0, 0, 0, [], []), (34, 55, 3, 43, 0, 0, 0, [4, 1, 76], []), (37, 11, 1, 0, 0, 0, 0, [], []), (38, 54, 3, 29, 0, 0, 0, [5, 3, 250], []), (41, 11, 1, 0, 0, 0, 0, [], []), (42, 54, 3, 19, 0, 0, 0, [5, 1, 248], []), (45, 64, 3, 59, 0, 0, 0, [32, 2, 3, 424, 425, 426, 51, 427], []), (48, 11, 1, 0, 0, 0, 0, [], []), (49, 54, 3, 33, 0, 0, 0, [5, 4, 251], []), (52, 0, 1, 0, 0, 0, 0, [], []), (53, 55, 3, 62, 0, 0, 0, [3, 6, 231], []), (56, 11, 1, 0, 0, 0, 0, [], []), (57, 54, 3, 36, 0, 0, 0, [5, 5, 252], []), (60, 0, 1, 0, 0, 0, 0, [], []), (61, 55, 3, 62, 0, 0, 0, [3, 6, 231], []), (64, 7, 1, 1, 0, 0, 0, [], []), (65, 66, 1, 1, 0, 0, 0, [], [])]
/-- ThawWords$Cape.isPlace(I)Z -/
def tw_c34 : List (Nat × tw_Op) := [(0, 7, 1, 1, 0, 0, 0, [], []), (1, 47, 3, 2, 0, 0, 0, [16], []), (4, 7, 1, 1, 0, 0, 0, [], []), (5, 11, 1, 0, 0, 0, 0, [], []), (6, 54, 3, 27, 0, 0, 0, [0, 5, 111], []), (9, 48, 3, 3, 0, 0, 0, [16], []), (12, 0, 1, 0, 1, 1, 0, [], []), (13, 51, 3, 0, 0, 0, 0, [17], []), (16, 0, 1, 0, 0, 0, 0, [], []), (17, 75, 1, 3, 0, 0, 0, [], [])]
/-- ThawWords$Cape.warmthIn(I)I -/
def tw_c35 : List (Nat × tw_Op) := [(0, 11, 1, 0, 0, 0, 0, [], []), (1, 54, 3, 31, 0, 0, 0, [0, 6, 115], []), (4, 47, 3, 1, 0, 0, 0, [11], []), (7, 0, 1, 0, 0, 0, 0, [], []), (8, 51, 3, 0, 0, 0, 0, [28], []), (11, 11, 1, 0, 0, 0, 0, [], []), (12, 54, 3, 15, 0, 0, 0, [0, 1, 103], []), (15, 7, 1, 1, 0, 0, 0, [], []), (16, 11, 1, 0, 0, 0, 0, [], []), (17, 54, 3, 31, 0, 0, 0, [0, 6, 115], []), (20, 0, 1, 0, 1, 1, 0, [], []), (21, 21, 1, 0, 0, 0, 0, [], []), (22, 77, 3, 48, 0, 0, 0, [457, 458, 55, 459], []), (25, 74, 3, 54, 0, 0, 0, [6, 2, 10, 308, 48, 309], []), (28, 66, 1, 1, 0, 0, 0, [], [])]
/-- ThawWords$Cape.airIn(II)I -/
def tw_c36 : List (Nat × tw_Op) := [(0, 11, 1, 0, 0, 0, 0, [], []), (1, 7, 1, 2, 0, 0, 0, [], []), (2, 64, 3, 58, 0, 0, 0, [35, 2, 0, 453, 454, 455, 50, 456], []), (5, 11, 1, 0, 0, 0, 0, [], []), (6, 54, 3, 9, 0, 0, 0, [0, 0, 101], []), (9, 7, 1, 1, 0, 0, 0, [], []), (10, 74, 3, 54, 0, 0, 0, [6, 2, 10, 308, 48, 309], []), (13, 21, 1, 0, 0, 0, 0, [], []), (14, 66, 1, 1, 0, 0, 0, [], [])]
/-- ThawWords.hasBit(II)Z -/
def tw_c37 : List (Nat × tw_Op) := [(0, 7, 1, 0, 0, 0, 0, [], []), (1, 7, 1, 1, 0, 0, 0, [], []), (2, 29, 1, 0, 0, 0, 0, [], []), (3, 0, 1, 0, 1, 1, 0, [], []), (4, 25, 1, 0, 0, 0, 0, [], []), (5, 47, 3, 0, 0, 0, 0, [12], []), (8, 0, 1, 0, 1, 1, 0, [], []), (9, 51, 3, 0, 0, 0, 0, [13], []), (12, 0, 1, 0, 0, 0, 0, [], []), (13, 75, 1, 3, 0, 0, 0, [], [])]
/-- ThawWords$Scene.isLit(I)Z -/
def tw_c38 : List (Nat × tw_Op) := [(0, 11, 1, 0, 0, 0, 0, [], []), (1, 54, 3, 34, 0, 0, 0, [3, 5, 228], []), (4, 7, 1, 1, 0, 0, 0, [], []), (5, 74, 3, 82, 0, 0, 0, [37, 2, 11, 466, 48, 467], []), (8, 75, 1, 3, 0, 0, 0, [], [])]
/-- ThawWords$Scene.airIn(LThawWords$Cape;II)I -/
def tw_c39 : List (Nat × tw_Op) := [(0, 11, 1, 1, 0, 0, 0, [], []), (1, 7, 1, 2, 0, 0, 0, [], []), (2, 7, 1, 3, 0, 0, 0, [], []), (3, 64, 3, 86, 0, 0, 0, [36, 3, 0, 449, 450, 451, 50, 452], []), (6, 14, 2, 4, 0, 0, 0, [], []), (8, 7, 1, 3, 0, 0, 0, [], []), (9, 11, 1, 0, 0, 0, 0, [], []), (10, 54, 3, 31, 0, 0, 0, [3, 4, 226], []), (13, 48, 3, 1, 0, 0, 0, [31], []), (16, 11, 1, 0, 0, 0, 0, [], []), (17, 7, 1, 2, 0, 0, 0, [], []), (18, 64, 3, 90, 0, 0, 0, [38, 2, 3, 461, 462, 463, 51, 464], []), (21, 47, 3, 0, 0, 0, 0, [31], []), (24, 8, 2, 4, 0, 0, 0, [], []), (26, 0, 1, 0, 5, 5, 0, [], []), (27, 20, 1, 0, 0, 0, 0, [], []), (28, 51, 3, 0, 0, 0, 0, [33], []), (31, 8, 2, 4, 0, 0, 0, [], []), (33, 66, 1, 1, 0, 0, 0, [], [])]
/-- ThawWords$Scene.sayingAt(I)LThawWords$Saying; -/
def tw_c40 : List (Nat × tw_Op) := [(0, 7, 1, 1, 0, 0, 0, [], []), (1, 47, 3, 2, 0, 0, 0, [30], []), (4, 7, 1, 1, 0, 0, 0, [], []), (5, 11, 1, 0, 0, 0, 0, [], []), (6, 54, 3, 27, 0, 0, 0, [3, 3, 224], []), (9, 48, 3, 3, 0, 0, 0, [30], []), (12, 7, 1, 1, 0, 0, 0, [], []), (13, 11, 1, 0, 0, 0, 0, [], []), (14, 54, 3, 11, 0, 0, 0, [3, 0, 220], []), (17, 61, 1, 0, 0, 0, 0, [], []), (18, 48, 3, 3, 0, 0, 0, [30], []), (21, 11, 1, 0, 0, 0, 0, [], []), (22, 54, 3, 11, 0, 0, 0, [3, 0, 220], []), (25, 7, 1, 1, 0, 0, 0, [], []), (26, 60, 1, 0, 0, 0, 0, [], []), (27, 51, 3, 0, 0, 0, 0, [31], []), (30, 6, 1, 0, 0, 0, 0, [], []), (31, 68, 1, 0, 0, 0, 0, [], [])]
/-- ThawWords$Saying.hangs(I)Z -/
def tw_c41 : List (Nat × tw_Op) := [(0, 11, 1, 0, 0, 0, 0, [], []), (1, 54, 3, 15, 0, 0, 0, [2, 1, 162], []), (4, 7, 1, 1, 0, 0, 0, [], []), (5, 74, 3, 45, 0, 0, 0, [6, 2, 12, 308, 48, 309], []), (8, 0, 1, 0, (-1), (-1), 0, [], []), (9, 48, 3, 1, 0, 0, 0, [16], []), (12, 0, 1, 0, 1, 1, 0, [], []), (13, 51, 3, 0, 0, 0, 0, [17], []), (16, 0, 1, 0, 0, 0, 0, [], []), (17, 75, 1, 3, 0, 0, 0, [], [])]
/-- ThawWords$Saying.hanging()I -/
def tw_c42 : List (Nat × tw_Op) := [(0, 0, 1, 0, 0, 0, 0, [], []), (1, 13, 1, 1, 0, 0, 0, [], []), (2, 0, 1, 0, 0, 0, 0, [], []), (3, 13, 1, 2, 0, 0, 0, [], []), (4, 7, 1, 2, 0, 0, 0, [], []), (5, 11, 1, 0, 0, 0, 0, [], []), (6, 54, 3, 18, 0, 0, 0, [2, 2, 165], []), (9, 48, 3, 3, 0, 0, 0, [29], []), (12, 11, 1, 0, 0, 0, 0, [], []), (13, 7, 1, 2, 0, 0, 0, [], []), (14, 64, 3, 49, 0, 0, 0, [41, 2, 2, 480, 481, 482, 52, 483], []), (17, 47, 3, 0, 0, 0, 0, [23], []), (20, 19, 3, 1, 1, 1, 0, [], []), (23, 19, 3, 2, 1, 1, 0, [], []), (26, 51, 3, 0, 0, 0, 0, [4], []), (29, 7, 1, 1, 0, 0, 0, [], []), (30, 66, 1, 1, 0, 0, 0, [], [])]
/-- ThawWords$Scene.hangingAt(I)I -/
def tw_c43 : List (Nat × tw_Op) := [(0, 0, 1, 0, 0, 0, 0, [], []), (1, 13, 1, 2, 0, 0, 0, [], []), (2, 0, 1, 0, 0, 0, 0, [], []), (3, 13, 1, 3, 0, 0, 0, [], []), (4, 7, 1, 3, 0, 0, 0, [], []), (5, 11, 1, 0, 0, 0, 0, [], []), (6, 54, 3, 27, 0, 0, 0, [3, 3, 224], []), (9, 48, 3, 3, 0, 0, 0, [47], []), (12, 11, 1, 0, 0, 0, 0, [], []), (13, 7, 1, 3, 0, 0, 0, [], []), (14, 64, 3, 67, 0, 0, 0, [40, 2, 3, 472, 473, 474, 51, 475], []), (17, 18, 2, 4, 0, 0, 0, [], []), (19, 12, 2, 4, 0, 0, 0, [], []), (21, 49, 3, 0, 0, 0, 0, [41], []), (24, 12, 2, 4, 0, 0, 0, [], []), (26, 54, 3, 93, 0, 0, 0, [2, 4, 173], []), (29, 7, 1, 1, 0, 0, 0, [], []), (30, 48, 3, 1, 0, 0, 0, [41], []), (33, 7, 1, 2, 0, 0, 0, [], []), (34, 12, 2, 4, 0, 0, 0, [], []), (36, 64, 3, 96, 0, 0, 0, [42, 1, 2, 476, 477, 478, 52, 479], []), (39, 20, 1, 0, 0, 0, 0, [], []), (40, 13, 1, 2, 0, 0, 0, [], []), (41, 19, 3, 3, 1, 1, 0, [], []), (44, 51, 3, 0, 0, 0, 0, [4], []), (47, 7, 1, 2, 0, 0, 0, [], []), (48, 66, 1, 1, 0, 0, 0, [], [])]
/-- ThawWords.place(II)I -/
def tw_c44 : List (Nat × tw_Op) := [(0, 11, 1, 0, 0, 0, 0, [], []), (1, 54, 3, 19, 0, 0, 0, [5, 1, 248], []), (4, 7, 1, 1, 0, 0, 0, [], []), (5, 64, 3, 66, 0, 0, 0, [34, 2, 0, 439, 440, 441, 50, 442], []), (8, 47, 3, 1, 0, 0, 0, [14], []), (11, 3, 2, 70, 0, (-1000000), 0, [443], []), (13, 66, 1, 1, 0, 0, 0, [], []), (14, 7, 1, 2, 0, 0, 0, [], []), (15, 52, 29, 4, 0, 0, 0, [102], [(0, 44), (1, 56), (2, 76), (3, 85)]), (44, 11, 1, 0, 0, 0, 0, [], []), (45, 54, 3, 19, 0, 0, 0, [5, 1, 248], []), (48, 54, 3, 71, 0, 0, 0, [0, 0, 102], []), (51, 7, 1, 1, 0, 0, 0, [], []), (52, 65, 3, 75, 0, 0, 0, [6, 2, 0, 444, 308, 48, 309], []), (55, 66, 1, 1, 0, 0, 0, [], []), (56, 11, 1, 0, 0, 0, 0, [], []), (57, 54, 3, 29, 0, 0, 0, [5, 3, 250], []), (60, 11, 1, 0, 0, 0, 0, [], []), (61, 54, 3, 19, 0, 0, 0, [5, 1, 248], []), (64, 7, 1, 1, 0, 0, 0, [], []), (65, 11, 1, 0, 0, 0, 0, [], []), (66, 54, 3, 29, 0, 0, 0, [5, 3, 250], []), (69, 54, 3, 79, 0, 0, 0, [3, 4, 227], []), (72, 64, 3, 82, 0, 0, 0, [39, 4, 3, 445, 446, 447, 51, 448], []), (75, 66, 1, 1, 0, 0, 0, [], []), (76, 11, 1, 0, 0, 0, 0, [], []), (77, 54, 3, 29, 0, 0, 0, [5, 3, 250], []), (80, 7, 1, 1, 0, 0, 0, [], []), (81, 64, 3, 86, 0, 0, 0, [43, 2, 3, 468, 469, 470, 51, 471], []), (84, 66, 1, 1, 0, 0, 0, [], []), (85, 11, 1, 0, 0, 0, 0, [], []), (86, 54, 3, 29, 0, 0, 0, [5, 3, 250], []), (89, 7, 1, 1, 0, 0, 0, [], []), (90, 64, 3, 90, 0, 0, 0, [38, 2, 3, 485, 462, 463, 51, 464], []), (93, 47, 3, 0, 0, 0, 0, [100], []), (96, 0, 1, 0, 1, 1, 0, [], []), (97, 51, 3, 0, 0, 0, 0, [101], []), (100, 0, 1, 0, 0, 0, 0, [], []), (101, 66, 1, 1, 0, 0, 0, [], []), (102, 3, 2, 70, 0, (-1000000), 0, [443], []), (104, 66, 1, 1, 0, 0, 0, [], [])]
/-- ThawWords.isHour(I)Z -/
def tw_c45 : List (Nat × tw_Op) := [(0, 7, 1, 0, 0, 0, 0, [], []), (1, 47, 3, 2, 0, 0, 0, [14], []), (4, 7, 1, 0, 0, 0, 0, [], []), (5, 1, 2, 0, 99, 99, 0, [], []), (7, 48, 3, 4, 0, 0, 0, [14], []), (10, 0, 1, 0, 1, 1, 0, [], []), (11, 51, 3, 0, 0, 0, 0, [15], []), (14, 0, 1, 0, 0, 0, 0, [], []), (15, 75, 1, 3, 0, 0, 0, [], [])]
/-- ThawWords.warmth(I)I -/
def tw_c46 : List (Nat × tw_Op) := [(0, 7, 1, 1, 0, 0, 0, [], []), (1, 65, 3, 93, 0, 0, 0, [45, 1, 0, 490, 491, 48, 492], []), (4, 47, 3, 0, 0, 0, 0, [18], []), (7, 11, 1, 0, 0, 0, 0, [], []), (8, 54, 3, 19, 0, 0, 0, [5, 1, 248], []), (11, 7, 1, 1, 0, 0, 0, [], []), (12, 64, 3, 96, 0, 0, 0, [35, 2, 0, 493, 454, 455, 50, 456], []), (15, 51, 3, 0, 0, 0, 0, [20], []), (18, 3, 2, 70, 0, (-1000000), 0, [443], []), (20, 66, 1, 1, 0, 0, 0, [], [])]
/-- ThawWords$Cape.isSound(I)Z -/
def tw_c47 : List (Nat × tw_Op) := [(0, 7, 1, 1, 0, 0, 0, [], []), (1, 47, 3, 2, 0, 0, 0, [16], []), (4, 7, 1, 1, 0, 0, 0, [], []), (5, 11, 1, 0, 0, 0, 0, [], []), (6, 54, 3, 34, 0, 0, 0, [0, 7, 118], []), (9, 48, 3, 3, 0, 0, 0, [16], []), (12, 0, 1, 0, 1, 1, 0, [], []), (13, 51, 3, 0, 0, 0, 0, [17], []), (16, 0, 1, 0, 0, 0, 0, [], []), (17, 75, 1, 3, 0, 0, 0, [], [])]
/-- ThawWords.melts(I)I -/
def tw_c48 : List (Nat × tw_Op) := [(0, 11, 1, 0, 0, 0, 0, [], []), (1, 54, 3, 19, 0, 0, 0, [5, 1, 248], []), (4, 7, 1, 1, 0, 0, 0, [], []), (5, 64, 3, 99, 0, 0, 0, [47, 2, 0, 498, 499, 500, 50, 501], []), (8, 47, 3, 0, 0, 0, 0, [25], []), (11, 11, 1, 0, 0, 0, 0, [], []), (12, 54, 3, 19, 0, 0, 0, [5, 1, 248], []), (15, 54, 3, 102, 0, 0, 0, [0, 2, 105], []), (18, 7, 1, 1, 0, 0, 0, [], []), (19, 65, 3, 75, 0, 0, 0, [6, 2, 0, 444, 308, 48, 309], []), (22, 51, 3, 0, 0, 0, 0, [27], []), (25, 3, 2, 70, 0, (-1000000), 0, [443], []), (27, 66, 1, 1, 0, 0, 0, [], [])]
/-- ThawWords$Scene.earAt(I)LThawWords$Ear; -/
def tw_c49 : List (Nat × tw_Op) := [(0, 7, 1, 1, 0, 0, 0, [], []), (1, 47, 3, 2, 0, 0, 0, [22], []), (4, 7, 1, 1, 0, 0, 0, [], []), (5, 11, 1, 0, 0, 0, 0, [], []), (6, 54, 3, 19, 0, 0, 0, [3, 1, 221], []), (9, 61, 1, 0, 0, 0, 0, [], []), (10, 48, 3, 3, 0, 0, 0, [22], []), (13, 11, 1, 0, 0, 0, 0, [], []), (14, 54, 3, 19, 0, 0, 0, [3, 1, 221], []), (17, 7, 1, 1, 0, 0, 0, [], []), (18, 60, 1, 0, 0, 0, 0, [], []), (19, 51, 3, 0, 0, 0, 0, [23], []), (22, 6, 1, 0, 0, 0, 0, [], []), (23, 68, 1, 0, 0, 0, 0, [], [])]
/-- ThawWords.earOf(I)LThawWords$Ear; -/
def tw_c50 : List (Nat × tw_Op) := [(0, 11, 1, 0, 0, 0, 0, [], []), (1, 54, 3, 19, 0, 0, 0, [5, 1, 248], []), (4, 7, 1, 1, 0, 0, 0, [], []), (5, 64, 3, 120, 0, 0, 0, [31, 2, 0, 510, 429, 430, 50, 431], []), (8, 47, 3, 0, 0, 0, 0, [22], []), (11, 11, 1, 0, 0, 0, 0, [], []), (12, 54, 3, 29, 0, 0, 0, [5, 3, 250], []), (15, 7, 1, 1, 0, 0, 0, [], []), (16, 64, 3, 275, 0, 0, 0, [49, 2, 3, 511, 512, 513, 51, 514], []), (19, 51, 3, 0, 0, 0, 0, [23], []), (22, 6, 1, 0, 0, 0, 0, [], []), (23, 68, 1, 0, 0, 0, 0, [], [])]
/-- ThawWords.person(II)I -/
def tw_c51 : List (Nat × tw_Op) := [(0, 11, 1, 0, 0, 0, 0, [], []), (1, 7, 1, 1, 0, 0, 0, [], []), (2, 64, 3, 105, 0, 0, 0, [50, 2, 5, 506, 508, 11, 48, 509], []), (5, 17, 1, 3, 0, 0, 0, [], []), (6, 11, 1, 3, 0, 0, 0, [], []), (7, 50, 3, 0, 0, 0, 0, [12], []), (10, 0, 1, 0, (-1), (-1), 0, [], []), (11, 66, 1, 1, 0, 0, 0, [], []), (12, 7, 1, 2, 0, 0, 0, [], []), (13, 52, 27, 3, 0, 0, 0, [69], [(0, 40), (1, 52), (2, 64)]), (40, 11, 1, 0, 0, 0, 0, [], []), (41, 54, 3, 19, 0, 0, 0, [5, 1, 248], []), (44, 54, 3, 109, 0, 0, 0, [0, 3, 108], []), (47, 7, 1, 1, 0, 0, 0, [], []), (48, 65, 3, 75, 0, 0, 0, [6, 2, 0, 444, 308, 48, 309], []), (51, 66, 1, 1, 0, 0, 0, [], []), (52, 11, 1, 0, 0, 0, 0, [], []), (53, 54, 3, 29, 0, 0, 0, [5, 3, 250], []), (56, 54, 3, 112, 0, 0, 0, [3, 2, 223], []), (59, 7, 1, 1, 0, 0, 0, [], []), (60, 65, 3, 75, 0, 0, 0, [6, 2, 0, 444, 308, 48, 309], []), (63, 66, 1, 1, 0, 0, 0, [], []), (64, 11, 1, 3, 0, 0, 0, [], []), (65, 54, 3, 115, 0, 0, 0, [1, 2, 212], []), (68, 66, 1, 1, 0, 0, 0, [], []), (69, 0, 1, 0, (-1), (-1), 0, [], []), (70, 66, 1, 1, 0, 0, 0, [], [])]
/-- ThawWords.areSounds(I)Z -/
def tw_c52 : List (Nat × tw_Op) := [(0, 7, 1, 1, 0, 0, 0, [], []), (1, 0, 1, 0, 1, 1, 0, [], []), (2, 48, 3, 2, 0, 0, 0, [12], []), (5, 7, 1, 1, 0, 0, 0, [], []), (6, 2, 3, 0, 9999, 9999, 0, [], []), (9, 48, 3, 5, 0, 0, 0, [14], []), (12, 0, 1, 0, 0, 0, 0, [], []), (13, 75, 1, 3, 0, 0, 0, [], []), (14, 7, 1, 1, 0, 0, 0, [], []), (15, 13, 1, 2, 0, 0, 0, [], []), (16, 7, 1, 2, 0, 0, 0, [], []), (17, 47, 3, 5, 0, 0, 0, [46], []), (20, 11, 1, 0, 0, 0, 0, [], []), (21, 54, 3, 19, 0, 0, 0, [5, 1, 248], []), (24, 7, 1, 2, 0, 0, 0, [], []), (25, 1, 2, 0, 10, 10, 0, [], []), (27, 24, 1, 0, 0, 0, 0, [], []), (28, 0, 1, 0, 1, 1, 0, [], []), (29, 21, 1, 0, 0, 0, 0, [], []), (30, 64, 3, 99, 0, 0, 0, [47, 2, 0, 498, 499, 500, 50, 501], []), (33, 47, 3, 1, 0, 0, 0, [38], []), (36, 0, 1, 0, 0, 0, 0, [], []), (37, 75, 1, 3, 0, 0, 0, [], []), (38, 7, 1, 2, 0, 0, 0, [], []), (39, 1, 2, 0, 10, 10, 0, [], []), (41, 23, 1, 0, 0, 0, 0, [], []), (42, 13, 1, 2, 0, 0, 0, [], []), (43, 51, 3, 0, 0, 0, 0, [16], []), (46, 0, 1, 0, 1, 1, 0, [], []), (47, 75, 1, 3, 0, 0, 0, [], [])]
/-- ThawWords$Scene.standersAt(I)I -/
def tw_c53 : List (Nat × tw_Op) := [(0, 0, 1, 0, 0, 0, 0, [], []), (1, 13, 1, 2, 0, 0, 0, [], []), (2, 0, 1, 0, 0, 0, 0, [], []), (3, 13, 1, 3, 0, 0, 0, [], []), (4, 7, 1, 3, 0, 0, 0, [], []), (5, 11, 1, 0, 0, 0, 0, [], []), (6, 54, 3, 23, 0, 0, 0, [3, 2, 222], []), (9, 61, 1, 0, 0, 0, 0, [], []), (10, 48, 3, 3, 0, 0, 0, [35], []), (13, 11, 1, 0, 0, 0, 0, [], []), (14, 54, 3, 23, 0, 0, 0, [3, 2, 222], []), (17, 7, 1, 3, 0, 0, 0, [], []), (18, 56, 1, 0, 0, 0, 0, [], []), (19, 7, 1, 1, 0, 0, 0, [], []), (20, 48, 3, 1, 0, 0, 0, [29], []), (23, 7, 1, 2, 0, 0, 0, [], []), (24, 0, 1, 0, 1, 1, 0, [], []), (25, 7, 1, 3, 0, 0, 0, [], []), (26, 28, 1, 0, 0, 0, 0, [], []), (27, 26, 1, 0, 0, 0, 0, [], []), (28, 13, 1, 2, 0, 0, 0, [], []), (29, 19, 3, 3, 1, 1, 0, [], []), (32, 51, 3, 0, 0, 0, 0, [4], []), (35, 7, 1, 2, 0, 0, 0, [], []), (36, 66, 1, 1, 0, 0, 0, [], [])]
/-- ThawWords$Saying.setSounds(I)V -/
def tw_c54 : List (Nat × tw_Op) := [(0, 11, 1, 0, 0, 0, 0, [], []), (1, 0, 1, 0, 0, 0, 0, [], []), (2, 55, 3, 18, 0, 0, 0, [2, 2, 165], []), (5, 2, 3, 0, 1000, 1000, 0, [], []), (8, 13, 1, 2, 0, 0, 0, [], []), (9, 7, 1, 2, 0, 0, 0, [], []), (10, 47, 3, 5, 0, 0, 0, [70], []), (13, 7, 1, 1, 0, 0, 0, [], []), (14, 7, 1, 2, 0, 0, 0, [], []), (15, 48, 3, 3, 0, 0, 0, [21], []), (18, 51, 3, 0, 0, 0, 0, [62], []), (21, 11, 1, 0, 0, 0, 0, [], []), (22, 54, 3, 9, 0, 0, 0, [2, 0, 158], []), (25, 11, 1, 0, 0, 0, 0, [], []), (26, 54, 3, 18, 0, 0, 0, [2, 2, 165], []), (29, 7, 1, 1, 0, 0, 0, [], []), (30, 7, 1, 2, 0, 0, 0, [], []), (31, 23, 1, 0, 0, 0, 0, [], []), (32, 1, 2, 0, 10, 10, 0, [], []), (34, 24, 1, 0, 0, 0, 0, [], []), (35, 0, 1, 0, 1, 1, 0, [], []), (36, 21, 1, 0, 0, 0, 0, [], []), (37, 74, 3, 41, 0, 0, 0, [0, 3, 13, 278, 48, 279], []), (40, 11, 1, 0, 0, 0, 0, [], []), (41, 54, 3, 15, 0, 0, 0, [2, 1, 162], []), (44, 11, 1, 0, 0, 0, 0, [], []), (45, 54, 3, 18, 0, 0, 0, [2, 2, 165], []), (48, 0, 1, 0, (-1), (-1), 0, [], []), (49, 74, 3, 41, 0, 0, 0, [0, 3, 13, 278, 48, 279], []), (52, 11, 1, 0, 0, 0, 0, [], []), (53, 44, 1, 0, 0, 0, 0, [], []), (54, 54, 3, 18, 0, 0, 0, [2, 2, 165], []), (57, 0, 1, 0, 1, 1, 0, [], []), (58, 20, 1, 0, 0, 0, 0, [], []), (59, 55, 3, 18, 0, 0, 0, [2, 2, 165], []), (62, 7, 1, 2, 0, 0, 0, [], []), (63, 1, 2, 0, 10, 10, 0, [], []), (65, 23, 1, 0, 0, 0, 0, [], []), (66, 13, 1, 2, 0, 0, 0, [], []), (67, 51, 3, 0, 0, 0, 0, [9], []), (70, 69, 1, 0, 0, 0, 0, [], [])]
/-- ThawWords$Ear.add(II)V -/
def tw_c55 : List (Nat × tw_Op) := [(0, 11, 1, 0, 0, 0, 0, [], []), (1, 54, 3, 18, 0, 0, 0, [1, 2, 210], []), (4, 1, 2, 0, 60, 60, 0, [], []), (6, 48, 3, 2, 0, 0, 0, [10], []), (9, 69, 1, 0, 0, 0, 0, [], []), (10, 11, 1, 0, 0, 0, 0, [], []), (11, 54, 3, 9, 0, 0, 0, [1, 0, 206], []), (14, 11, 1, 0, 0, 0, 0, [], []), (15, 54, 3, 18, 0, 0, 0, [1, 2, 210], []), (18, 7, 1, 1, 0, 0, 0, [], []), (19, 74, 3, 26, 0, 0, 0, [0, 3, 14, 278, 48, 279], []), (22, 11, 1, 0, 0, 0, 0, [], []), (23, 54, 3, 15, 0, 0, 0, [1, 1, 208], []), (26, 11, 1, 0, 0, 0, 0, [], []), (27, 54, 3, 18, 0, 0, 0, [1, 2, 210], []), (30, 7, 1, 2, 0, 0, 0, [], []), (31, 74, 3, 26, 0, 0, 0, [0, 3, 14, 278, 48, 279], []), (34, 11, 1, 0, 0, 0, 0, [], []), (35, 44, 1, 0, 0, 0, 0, [], []), (36, 54, 3, 18, 0, 0, 0, [1, 2, 210], []), (39, 0, 1, 0, 1, 1, 0, [], []), (40, 20, 1, 0, 0, 0, 0, [], []), (41, 55, 3, 18, 0, 0, 0, [1, 2, 210], []), (44, 69, 1, 0, 0, 0, 0, [], [])]
/-- ThawWords$Scene.hearAt(III)V -/
def tw_c56 : List (Nat × tw_Op) := [(0, 0, 1, 0, 0, 0, 0, [], []), (1, 14, 2, 4, 0, 0, 0, [], []), (3, 8, 2, 4, 0, 0, 0, [], []), (5, 11, 1, 0, 0, 0, 0, [], []), (6, 54, 3, 23, 0, 0, 0, [3, 2, 222], []), (9, 61, 1, 0, 0, 0, 0, [], []), (10, 48, 3, 3, 0, 0, 0, [50], []), (13, 11, 1, 0, 0, 0, 0, [], []), (14, 8, 2, 4, 0, 0, 0, [], []), (16, 64, 3, 75, 0, 0, 0, [49, 2, 3, 546, 512, 513, 51, 514], []), (19, 18, 2, 5, 0, 0, 0, [], []), (21, 12, 2, 5, 0, 0, 0, [], []), (23, 49, 3, 0, 0, 0, 0, [44], []), (26, 11, 1, 0, 0, 0, 0, [], []), (27, 54, 3, 23, 0, 0, 0, [3, 2, 222], []), (30, 8, 2, 4, 0, 0, 0, [], []), (32, 56, 1, 0, 0, 0, 0, [], []), (33, 7, 1, 1, 0, 0, 0, [], []), (34, 48, 3, 1, 0, 0, 0, [44], []), (37, 12, 2, 5, 0, 0, 0, [], []), (39, 7, 1, 2, 0, 0, 0, [], []), (40, 7, 1, 3, 0, 0, 0, [], []), (41, 64, 3, 154, 0, 0, 0, [55, 3, 1, 547, 548, 549, 53, 550], []), (44, 19, 3, 4, 1, 1, 0, [], []), (47, 51, 3, 0, 0, 0, 0, [3], []), (50, 69, 1, 0, 0, 0, 0, [], [])]
/-- ThawWords$Scene.thawSaying(LThawWords$Cape;ILThawWords$Saying;I)I -/
def tw_c57 : List (Nat × tw_Op) := [(0, 0, 1, 0, 0, 0, 0, [], []), (1, 14, 2, 5, 0, 0, 0, [], []), (3, 0, 1, 0, 0, 0, 0, [], []), (4, 14, 2, 6, 0, 0, 0, [], []), (6, 8, 2, 6, 0, 0, 0, [], []), (8, 11, 1, 3, 0, 0, 0, [], []), (9, 54, 3, 135, 0, 0, 0, [2, 2, 168], []), (12, 48, 3, 3, 0, 0, 0, [85], []), (15, 11, 1, 3, 0, 0, 0, [], []), (16, 54, 3, 138, 0, 0, 0, [2, 0, 161], []), (19, 8, 2, 6, 0, 0, 0, [], []), (21, 74, 3, 52, 0, 0, 0, [6, 2, 8, 308, 48, 309], []), (24, 14, 2, 7, 0, 0, 0, [], []), (26, 11, 1, 3, 0, 0, 0, [], []), (27, 8, 2, 6, 0, 0, 0, [], []), (29, 64, 3, 141, 0, 0, 0, [41, 2, 2, 541, 481, 482, 52, 483], []), (32, 47, 3, 0, 0, 0, 0, [79], []), (35, 11, 1, 1, 0, 0, 0, [], []), (36, 54, 3, 144, 0, 0, 0, [0, 2, 106], []), (39, 8, 2, 7, 0, 0, 0, [], []), (41, 74, 3, 52, 0, 0, 0, [6, 2, 8, 308, 48, 309], []), (44, 8, 2, 4, 0, 0, 0, [], []), (46, 48, 3, 5, 0, 0, 0, [52], []), (49, 51, 3, 0, 0, 0, 0, [79], []), (52, 11, 1, 3, 0, 0, 0, [], []), (53, 54, 3, 147, 0, 0, 0, [2, 1, 163], []), (56, 8, 2, 6, 0, 0, 0, [], []), (58, 11, 1, 0, 0, 0, 0, [], []), (59, 54, 3, 31, 0, 0, 0, [3, 4, 226], []), (62, 74, 3, 56, 0, 0, 0, [0, 3, 9, 278, 48, 279], []), (65, 11, 1, 0, 0, 0, 0, [], []), (66, 11, 1, 3, 0, 0, 0, [], []), (67, 54, 3, 93, 0, 0, 0, [2, 4, 173], []), (70, 7, 1, 2, 0, 0, 0, [], []), (71, 8, 2, 7, 0, 0, 0, [], []), (73, 64, 3, 150, 0, 0, 0, [56, 4, 3, 542, 544, 15, 51, 545], []), (76, 19, 3, 5, 1, 1, 0, [], []), (79, 19, 3, 6, 1, 1, 0, [], []), (82, 51, 3, 0, 0, 0, 0, [6], []), (85, 8, 2, 5, 0, 0, 0, [], []), (87, 66, 1, 1, 0, 0, 0, [], [])]
/-- ThawWords$Scene.say(LThawWords$Cape;III)I -/
def tw_c58 : List (Nat × tw_Op) := [(0, 11, 1, 0, 0, 0, 0, [], []), (1, 54, 3, 27, 0, 0, 0, [3, 3, 224], []), (4, 14, 2, 5, 0, 0, 0, [], []), (6, 11, 1, 0, 0, 0, 0, [], []), (7, 44, 1, 0, 0, 0, 0, [], []), (8, 54, 3, 27, 0, 0, 0, [3, 3, 224], []), (11, 0, 1, 0, 1, 1, 0, [], []), (12, 20, 1, 0, 0, 0, 0, [], []), (13, 55, 3, 27, 0, 0, 0, [3, 3, 224], []), (16, 11, 1, 0, 0, 0, 0, [], []), (17, 8, 2, 5, 0, 0, 0, [], []), (19, 64, 3, 67, 0, 0, 0, [40, 2, 3, 472, 473, 474, 51, 475], []), (22, 18, 2, 6, 0, 0, 0, [], []), (24, 12, 2, 6, 0, 0, 0, [], []), (26, 50, 3, 0, 0, 0, 0, [32], []), (29, 1, 2, 0, (-3), (-3), 0, [], []), (31, 66, 1, 1, 0, 0, 0, [], []), (32, 12, 2, 6, 0, 0, 0, [], []), (34, 7, 1, 2, 0, 0, 0, [], []), (35, 55, 3, 104, 0, 0, 0, [2, 3, 170], []), (38, 12, 2, 6, 0, 0, 0, [], []), (40, 11, 1, 0, 0, 0, 0, [], []), (41, 54, 3, 23, 0, 0, 0, [3, 2, 222], []), (44, 7, 1, 2, 0, 0, 0, [], []), (45, 74, 3, 52, 0, 0, 0, [6, 2, 8, 308, 48, 309], []), (48, 55, 3, 93, 0, 0, 0, [2, 4, 173], []), (51, 12, 2, 6, 0, 0, 0, [], []), (53, 11, 1, 0, 0, 0, 0, [], []), (54, 54, 3, 31, 0, 0, 0, [3, 4, 226], []), (57, 55, 3, 107, 0, 0, 0, [2, 5, 176], []), (60, 12, 2, 6, 0, 0, 0, [], []), (62, 7, 1, 3, 0, 0, 0, [], []), (63, 55, 3, 108, 0, 0, 0, [2, 6, 179], []), (66, 12, 2, 6, 0, 0, 0, [], []), (68, 11, 1, 0, 0, 0, 0, [], []), (69, 12, 2, 6, 0, 0, 0, [], []), (71, 54, 3, 93, 0, 0, 0, [2, 4, 173], []), (74, 64, 3, 111, 0, 0, 0, [53, 2, 3, 527, 529, 13, 51, 530], []), (77, 55, 3, 114, 0, 0, 0, [2, 7, 182], []), (80, 12, 2, 6, 0, 0, 0, [], []), (82, 8, 2, 4, 0, 0, 0, [], []), (84, 64, 3, 117, 0, 0, 0, [54, 2, 2, 531, 532, 533, 52, 534], []), (87, 11, 1, 0, 0, 0, 0, [], []), (88, 11, 1, 1, 0, 0, 0, [], []), (89, 8, 2, 5, 0, 0, 0, [], []), (91, 12, 2, 6, 0, 0, 0, [], []), (93, 11, 1, 0, 0, 0, 0, [], []), (94, 11, 1, 1, 0, 0, 0, [], []), (95, 12, 2, 6, 0, 0, 0, [], []), (97, 54, 3, 93, 0, 0, 0, [2, 4, 173], []), (100, 11, 1, 0, 0, 0, 0, [], []), (101, 54, 3, 31, 0, 0, 0, [3, 4, 226], []), (104, 64, 3, 121, 0, 0, 0, [39, 4, 3, 536, 446, 447, 51, 448], []), (107, 64, 3, 124, 0, 0, 0, [57, 5, 3, 537, 539, 14, 51, 540], []), (110, 46, 1, 0, 0, 0, 0, [], []), (111, 8, 2, 5, 0, 0, 0, [], []), (113, 66, 1, 1, 0, 0, 0, [], [])]
/-- ThawWords.says(III)I -/
def tw_c59 : List (Nat × tw_Op) := [(0, 11, 1, 0, 0, 0, 0, [], []), (1, 54, 3, 19, 0, 0, 0, [5, 1, 248], []), (4, 7, 1, 1, 0, 0, 0, [], []), (5, 64, 3, 120, 0, 0, 0, [31, 2, 0, 510, 429, 430, 50, 431], []), (8, 47, 3, 0, 0, 0, 0, [30], []), (11, 7, 1, 2, 0, 0, 0, [], []), (12, 0, 1, 0, 1, 1, 0, [], []), (13, 48, 3, 2, 0, 0, 0, [30], []), (16, 7, 1, 2, 0, 0, 0, [], []), (17, 1, 2, 0, 9, 9, 0, [], []), (19, 48, 3, 4, 0, 0, 0, [30], []), (22, 11, 1, 0, 0, 0, 0, [], []), (23, 7, 1, 3, 0, 0, 0, [], []), (24, 64, 3, 123, 0, 0, 0, [52, 2, 5, 519, 521, 12, 48, 522], []), (27, 47, 3, 1, 0, 0, 0, [32], []), (30, 0, 1, 0, (-1), (-1), 0, [], []), (31, 66, 1, 1, 0, 0, 0, [], []), (32, 11, 1, 0, 0, 0, 0, [], []), (33, 54, 3, 29, 0, 0, 0, [5, 3, 250], []), (36, 54, 3, 126, 0, 0, 0, [3, 3, 225], []), (39, 1, 2, 0, 8, 8, 0, [], []), (41, 48, 3, 2, 0, 0, 0, [47], []), (44, 1, 2, 0, (-3), (-3), 0, [], []), (46, 66, 1, 1, 0, 0, 0, [], []), (47, 11, 1, 0, 0, 0, 0, [], []), (48, 54, 3, 29, 0, 0, 0, [5, 3, 250], []), (51, 11, 1, 0, 0, 0, 0, [], []), (52, 54, 3, 19, 0, 0, 0, [5, 1, 248], []), (55, 7, 1, 1, 0, 0, 0, [], []), (56, 7, 1, 2, 0, 0, 0, [], []), (57, 7, 1, 3, 0, 0, 0, [], []), (58, 64, 3, 129, 0, 0, 0, [58, 5, 3, 523, 524, 525, 51, 526], []), (61, 66, 1, 1, 0, 0, 0, [], [])]
/-- ThawWords.goes(II)I -/
def tw_c60 : List (Nat × tw_Op) := [(0, 11, 1, 0, 0, 0, 0, [], []), (1, 54, 3, 19, 0, 0, 0, [5, 1, 248], []), (4, 7, 1, 1, 0, 0, 0, [], []), (5, 64, 3, 120, 0, 0, 0, [31, 2, 0, 510, 429, 430, 50, 431], []), (8, 47, 3, 0, 0, 0, 0, [22], []), (11, 11, 1, 0, 0, 0, 0, [], []), (12, 54, 3, 19, 0, 0, 0, [5, 1, 248], []), (15, 7, 1, 2, 0, 0, 0, [], []), (16, 64, 3, 66, 0, 0, 0, [34, 2, 0, 439, 440, 441, 50, 442], []), (19, 47, 3, 1, 0, 0, 0, [24], []), (22, 0, 1, 0, (-1), (-1), 0, [], []), (23, 66, 1, 1, 0, 0, 0, [], []), (24, 11, 1, 0, 0, 0, 0, [], []), (25, 54, 3, 29, 0, 0, 0, [5, 3, 250], []), (28, 54, 3, 112, 0, 0, 0, [3, 2, 223], []), (31, 7, 1, 1, 0, 0, 0, [], []), (32, 65, 3, 75, 0, 0, 0, [6, 2, 0, 444, 308, 48, 309], []), (35, 13, 1, 3, 0, 0, 0, [], []), (36, 7, 1, 3, 0, 0, 0, [], []), (37, 7, 1, 2, 0, 0, 0, [], []), (38, 48, 3, 1, 0, 0, 0, [44], []), (41, 1, 2, 0, (-2), (-2), 0, [], []), (43, 66, 1, 1, 0, 0, 0, [], []), (44, 11, 1, 0, 0, 0, 0, [], []), (45, 54, 3, 29, 0, 0, 0, [5, 3, 250], []), (48, 54, 3, 112, 0, 0, 0, [3, 2, 223], []), (51, 7, 1, 1, 0, 0, 0, [], []), (52, 7, 1, 2, 0, 0, 0, [], []), (53, 65, 3, 133, 0, 0, 0, [0, 3, 0, 556, 278, 48, 279], []), (56, 7, 1, 3, 0, 0, 0, [], []), (57, 66, 1, 1, 0, 0, 0, [], [])]
/-- ThawWords$Scene.thawAt(LThawWords$Cape;I)I -/
def tw_c61 : List (Nat × tw_Op) := [(0, 11, 1, 0, 0, 0, 0, [], []), (1, 11, 1, 1, 0, 0, 0, [], []), (2, 7, 1, 2, 0, 0, 0, [], []), (3, 11, 1, 0, 0, 0, 0, [], []), (4, 54, 3, 31, 0, 0, 0, [3, 4, 226], []), (7, 64, 3, 121, 0, 0, 0, [39, 4, 3, 536, 446, 447, 51, 448], []), (10, 13, 1, 3, 0, 0, 0, [], []), (11, 0, 1, 0, 0, 0, 0, [], []), (12, 14, 2, 4, 0, 0, 0, [], []), (14, 1, 2, 0, 9, 9, 0, [], []), (16, 14, 2, 5, 0, 0, 0, [], []), (18, 8, 2, 5, 0, 0, 0, [], []), (20, 0, 1, 0, 1, 1, 0, [], []), (21, 48, 3, 2, 0, 0, 0, [98], []), (24, 0, 1, 0, 0, 0, 0, [], []), (25, 14, 2, 6, 0, 0, 0, [], []), (27, 8, 2, 6, 0, 0, 0, [], []), (29, 11, 1, 0, 0, 0, 0, [], []), (30, 54, 3, 27, 0, 0, 0, [3, 3, 224], []), (33, 48, 3, 3, 0, 0, 0, [92], []), (36, 11, 1, 0, 0, 0, 0, [], []), (37, 8, 2, 6, 0, 0, 0, [], []), (39, 64, 3, 67, 0, 0, 0, [40, 2, 3, 472, 473, 474, 51, 475], []), (42, 18, 2, 7, 0, 0, 0, [], []), (44, 12, 2, 7, 0, 0, 0, [], []), (46, 49, 3, 0, 0, 0, 0, [86], []), (49, 12, 2, 7, 0, 0, 0, [], []), (51, 54, 3, 93, 0, 0, 0, [2, 4, 173], []), (54, 7, 1, 2, 0, 0, 0, [], []), (55, 48, 3, 1, 0, 0, 0, [86], []), (58, 12, 2, 7, 0, 0, 0, [], []), (60, 54, 3, 108, 0, 0, 0, [2, 6, 179], []), (63, 8, 2, 5, 0, 0, 0, [], []), (65, 48, 3, 0, 0, 0, 0, [71], []), (68, 51, 3, 0, 0, 0, 0, [86], []), (71, 8, 2, 4, 0, 0, 0, [], []), (73, 11, 1, 0, 0, 0, 0, [], []), (74, 11, 1, 1, 0, 0, 0, [], []), (75, 8, 2, 6, 0, 0, 0, [], []), (77, 12, 2, 7, 0, 0, 0, [], []), (79, 7, 1, 3, 0, 0, 0, [], []), (80, 64, 3, 124, 0, 0, 0, [57, 5, 3, 537, 539, 14, 51, 540], []), (83, 20, 1, 0, 0, 0, 0, [], []), (84, 14, 2, 4, 0, 0, 0, [], []), (86, 19, 3, 6, 1, 1, 0, [], []), (89, 51, 3, 0, 0, 0, 0, [27], []), (92, 19, 3, 5, (-1), (-1), 0, [], []), (95, 51, 3, 0, 0, 0, 0, [18], []), (98, 8, 2, 4, 0, 0, 0, [], []), (100, 66, 1, 1, 0, 0, 0, [], [])]
/-- ThawWords$Scene.light(LThawWords$Cape;I)I -/
def tw_c62 : List (Nat × tw_Op) := [(0, 11, 1, 0, 0, 0, 0, [], []), (1, 44, 1, 0, 0, 0, 0, [], []), (2, 54, 3, 34, 0, 0, 0, [3, 5, 228], []), (5, 0, 1, 0, 1, 1, 0, [], []), (6, 7, 1, 2, 0, 0, 0, [], []), (7, 28, 1, 0, 0, 0, 0, [], []), (8, 26, 1, 0, 0, 0, 0, [], []), (9, 55, 3, 34, 0, 0, 0, [3, 5, 228], []), (12, 11, 1, 0, 0, 0, 0, [], []), (13, 11, 1, 1, 0, 0, 0, [], []), (14, 7, 1, 2, 0, 0, 0, [], []), (15, 64, 3, 128, 0, 0, 0, [61, 3, 3, 565, 567, 16, 51, 568], []), (18, 66, 1, 1, 0, 0, 0, [], [])]
/-- ThawWords.lantern(I)I -/
def tw_c63 : List (Nat × tw_Op) := [(0, 11, 1, 0, 0, 0, 0, [], []), (1, 54, 3, 19, 0, 0, 0, [5, 1, 248], []), (4, 7, 1, 1, 0, 0, 0, [], []), (5, 64, 3, 66, 0, 0, 0, [34, 2, 0, 439, 440, 441, 50, 442], []), (8, 47, 3, 1, 0, 0, 0, [13], []), (11, 0, 1, 0, (-1), (-1), 0, [], []), (12, 66, 1, 1, 0, 0, 0, [], []), (13, 11, 1, 0, 0, 0, 0, [], []), (14, 54, 3, 29, 0, 0, 0, [5, 3, 250], []), (17, 7, 1, 1, 0, 0, 0, [], []), (18, 64, 3, 90, 0, 0, 0, [38, 2, 3, 485, 462, 463, 51, 464], []), (21, 47, 3, 0, 0, 0, 0, [27], []), (24, 1, 2, 0, (-2), (-2), 0, [], []), (26, 66, 1, 1, 0, 0, 0, [], []), (27, 11, 1, 0, 0, 0, 0, [], []), (28, 54, 3, 29, 0, 0, 0, [5, 3, 250], []), (31, 11, 1, 0, 0, 0, 0, [], []), (32, 54, 3, 19, 0, 0, 0, [5, 1, 248], []), (35, 7, 1, 1, 0, 0, 0, [], []), (36, 64, 3, 137, 0, 0, 0, [62, 3, 3, 561, 562, 563, 51, 564], []), (39, 66, 1, 1, 0, 0, 0, [], [])]
/-- ThawWords$Scene.passHour(LThawWords$Cape;)I -/
def tw_c64 : List (Nat × tw_Op) := [(0, 11, 1, 0, 0, 0, 0, [], []), (1, 0, 1, 0, 0, 0, 0, [], []), (2, 55, 3, 34, 0, 0, 0, [3, 5, 228], []), (5, 11, 1, 0, 0, 0, 0, [], []), (6, 44, 1, 0, 0, 0, 0, [], []), (7, 54, 3, 31, 0, 0, 0, [3, 4, 226], []), (10, 0, 1, 0, 1, 1, 0, [], []), (11, 20, 1, 0, 0, 0, 0, [], []), (12, 55, 3, 31, 0, 0, 0, [3, 4, 226], []), (15, 0, 1, 0, 0, 0, 0, [], []), (16, 13, 1, 2, 0, 0, 0, [], []), (17, 0, 1, 0, 0, 0, 0, [], []), (18, 13, 1, 3, 0, 0, 0, [], []), (19, 7, 1, 3, 0, 0, 0, [], []), (20, 11, 1, 1, 0, 0, 0, [], []), (21, 54, 3, 132, 0, 0, 0, [0, 5, 113], []), (24, 48, 3, 3, 0, 0, 0, [42], []), (27, 7, 1, 2, 0, 0, 0, [], []), (28, 11, 1, 0, 0, 0, 0, [], []), (29, 11, 1, 1, 0, 0, 0, [], []), (30, 7, 1, 3, 0, 0, 0, [], []), (31, 64, 3, 128, 0, 0, 0, [61, 3, 3, 565, 567, 16, 51, 568], []), (34, 20, 1, 0, 0, 0, 0, [], []), (35, 13, 1, 2, 0, 0, 0, [], []), (36, 19, 3, 3, 1, 1, 0, [], []), (39, 51, 3, 0, 0, 0, 0, [19], []), (42, 7, 1, 2, 0, 0, 0, [], []), (43, 66, 1, 1, 0, 0, 0, [], [])]
/-- ThawWords.go(I)I -/
def tw_c65 : List (Nat × tw_Op) := [(0, 7, 1, 1, 0, 0, 0, [], []), (1, 0, 1, 0, 1, 1, 0, [], []), (2, 48, 3, 2, 0, 0, 0, [11], []), (5, 7, 1, 1, 0, 0, 0, [], []), (6, 1, 2, 0, 99, 99, 0, [], []), (8, 48, 3, 5, 0, 0, 0, [13], []), (11, 0, 1, 0, (-1), (-1), 0, [], []), (12, 66, 1, 1, 0, 0, 0, [], []), (13, 11, 1, 0, 0, 0, 0, [], []), (14, 54, 3, 29, 0, 0, 0, [5, 3, 250], []), (17, 54, 3, 79, 0, 0, 0, [3, 4, 227], []), (20, 1, 2, 0, 99, 99, 0, [], []), (22, 48, 3, 2, 0, 0, 0, [28], []), (25, 1, 2, 0, (-2), (-2), 0, [], []), (27, 66, 1, 1, 0, 0, 0, [], []), (28, 0, 1, 0, 0, 0, 0, [], []), (29, 13, 1, 2, 0, 0, 0, [], []), (30, 0, 1, 0, 0, 0, 0, [], []), (31, 13, 1, 3, 0, 0, 0, [], []), (32, 7, 1, 3, 0, 0, 0, [], []), (33, 7, 1, 1, 0, 0, 0, [], []), (34, 48, 3, 3, 0, 0, 0, [69], []), (37, 11, 1, 0, 0, 0, 0, [], []), (38, 54, 3, 29, 0, 0, 0, [5, 3, 250], []), (41, 54, 3, 79, 0, 0, 0, [3, 4, 227], []), (44, 1, 2, 0, 99, 99, 0, [], []), (46, 48, 3, 3, 0, 0, 0, [69], []), (49, 7, 1, 2, 0, 0, 0, [], []), (50, 11, 1, 0, 0, 0, 0, [], []), (51, 54, 3, 29, 0, 0, 0, [5, 3, 250], []), (54, 11, 1, 0, 0, 0, 0, [], []), (55, 54, 3, 19, 0, 0, 0, [5, 1, 248], []), (58, 64, 3, 141, 0, 0, 0, [64, 2, 3, 573, 574, 575, 51, 576], []), (61, 20, 1, 0, 0, 0, 0, [], []), (62, 13, 1, 2, 0, 0, 0, [], []), (63, 19, 3, 3, 1, 1, 0, [], []), (66, 51, 3, 0, 0, 0, 0, [32], []), (69, 7, 1, 2, 0, 0, 0, [], []), (70, 66, 1, 1, 0, 0, 0, [], [])]
/-- ThawWords.saying(II)I -/
def tw_c66 : List (Nat × tw_Op) := [(0, 11, 1, 0, 0, 0, 0, [], []), (1, 54, 3, 29, 0, 0, 0, [5, 3, 250], []), (4, 7, 1, 1, 0, 0, 0, [], []), (5, 64, 3, 144, 0, 0, 0, [40, 2, 3, 581, 473, 474, 51, 475], []), (8, 17, 1, 3, 0, 0, 0, [], []), (9, 11, 1, 3, 0, 0, 0, [], []), (10, 50, 3, 0, 0, 0, 0, [15], []), (13, 0, 1, 0, (-1), (-1), 0, [], []), (14, 66, 1, 1, 0, 0, 0, [], []), (15, 7, 1, 2, 0, 0, 0, [], []), (16, 52, 40, 6, 0, 0, 0, [86], [(0, 56), (1, 61), (2, 66), (3, 71), (4, 76), (5, 81)]), (56, 11, 1, 3, 0, 0, 0, [], []), (57, 54, 3, 148, 0, 0, 0, [2, 3, 171], []), (60, 66, 1, 1, 0, 0, 0, [], []), (61, 11, 1, 3, 0, 0, 0, [], []), (62, 54, 3, 153, 0, 0, 0, [2, 4, 174], []), (65, 66, 1, 1, 0, 0, 0, [], []), (66, 11, 1, 3, 0, 0, 0, [], []), (67, 54, 3, 156, 0, 0, 0, [2, 5, 177], []), (70, 66, 1, 1, 0, 0, 0, [], []), (71, 11, 1, 3, 0, 0, 0, [], []), (72, 54, 3, 157, 0, 0, 0, [2, 6, 180], []), (75, 66, 1, 1, 0, 0, 0, [], []), (76, 11, 1, 3, 0, 0, 0, [], []), (77, 54, 3, 160, 0, 0, 0, [2, 2, 167], []), (80, 66, 1, 1, 0, 0, 0, [], []), (81, 11, 1, 3, 0, 0, 0, [], []), (82, 64, 3, 161, 0, 0, 0, [42, 1, 2, 582, 477, 478, 52, 479], []), (85, 66, 1, 1, 0, 0, 0, [], []), (86, 0, 1, 0, (-1), (-1), 0, [], []), (87, 66, 1, 1, 0, 0, 0, [], [])]
/-- ThawWords.soundOf(II)I -/
def tw_c67 : List (Nat × tw_Op) := [(0, 11, 1, 0, 0, 0, 0, [], []), (1, 54, 3, 29, 0, 0, 0, [5, 3, 250], []), (4, 7, 1, 1, 0, 0, 0, [], []), (5, 64, 3, 144, 0, 0, 0, [40, 2, 3, 581, 473, 474, 51, 475], []), (8, 17, 1, 3, 0, 0, 0, [], []), (9, 11, 1, 3, 0, 0, 0, [], []), (10, 49, 3, 0, 0, 0, 0, [17], []), (13, 7, 1, 2, 0, 0, 0, [], []), (14, 47, 3, 3, 0, 0, 0, [19], []), (17, 0, 1, 0, (-1), (-1), 0, [], []), (18, 66, 1, 1, 0, 0, 0, [], []), (19, 7, 1, 2, 0, 0, 0, [], []), (20, 11, 1, 3, 0, 0, 0, [], []), (21, 54, 3, 160, 0, 0, 0, [2, 2, 167], []), (24, 48, 3, 3, 0, 0, 0, [38], []), (27, 11, 1, 3, 0, 0, 0, [], []), (28, 54, 3, 165, 0, 0, 0, [2, 0, 160], []), (31, 7, 1, 2, 0, 0, 0, [], []), (32, 65, 3, 75, 0, 0, 0, [6, 2, 0, 444, 308, 48, 309], []), (35, 51, 3, 0, 0, 0, 0, [40], []), (38, 1, 2, 0, (-5), (-5), 0, [], []), (40, 66, 1, 1, 0, 0, 0, [], [])]
/-- ThawWords.heard(III)I -/
def tw_c68 : List (Nat × tw_Op) := [(0, 11, 1, 0, 0, 0, 0, [], []), (1, 7, 1, 1, 0, 0, 0, [], []), (2, 64, 3, 105, 0, 0, 0, [50, 2, 5, 506, 508, 11, 48, 509], []), (5, 18, 2, 4, 0, 0, 0, [], []), (7, 12, 2, 4, 0, 0, 0, [], []), (9, 49, 3, 0, 0, 0, 0, [25], []), (12, 7, 1, 2, 0, 0, 0, [], []), (13, 47, 3, 2, 0, 0, 0, [25], []), (16, 7, 1, 3, 0, 0, 0, [], []), (17, 47, 3, 2, 0, 0, 0, [25], []), (20, 7, 1, 3, 0, 0, 0, [], []), (21, 0, 1, 0, 1, 1, 0, [], []), (22, 48, 3, 5, 0, 0, 0, [27], []), (25, 0, 1, 0, (-1), (-1), 0, [], []), (26, 66, 1, 1, 0, 0, 0, [], []), (27, 7, 1, 2, 0, 0, 0, [], []), (28, 12, 2, 4, 0, 0, 0, [], []), (30, 54, 3, 115, 0, 0, 0, [1, 2, 212], []), (33, 48, 3, 2, 0, 0, 0, [39], []), (36, 1, 2, 0, (-5), (-5), 0, [], []), (38, 66, 1, 1, 0, 0, 0, [], []), (39, 7, 1, 3, 0, 0, 0, [], []), (40, 47, 3, 1, 0, 0, 0, [55], []), (43, 12, 2, 4, 0, 0, 0, [], []), (45, 54, 3, 168, 0, 0, 0, [1, 0, 207], []), (48, 7, 1, 2, 0, 0, 0, [], []), (49, 65, 3, 75, 0, 0, 0, [6, 2, 0, 444, 308, 48, 309], []), (52, 51, 3, 0, 0, 0, 0, [64], []), (55, 12, 2, 4, 0, 0, 0, [], []), (57, 54, 3, 171, 0, 0, 0, [1, 1, 209], []), (60, 7, 1, 2, 0, 0, 0, [], []), (61, 65, 3, 75, 0, 0, 0, [6, 2, 0, 444, 308, 48, 309], []), (64, 66, 1, 1, 0, 0, 0, [], [])]
/-- ThawWords$Scene.hanging()I -/
def tw_c69 : List (Nat × tw_Op) := [(0, 0, 1, 0, 0, 0, 0, [], []), (1, 13, 1, 1, 0, 0, 0, [], []), (2, 0, 1, 0, 0, 0, 0, [], []), (3, 13, 1, 2, 0, 0, 0, [], []), (4, 7, 1, 2, 0, 0, 0, [], []), (5, 0, 1, 0, 4, 4, 0, [], []), (6, 48, 3, 3, 0, 0, 0, [23], []), (9, 7, 1, 1, 0, 0, 0, [], []), (10, 11, 1, 0, 0, 0, 0, [], []), (11, 7, 1, 2, 0, 0, 0, [], []), (12, 64, 3, 100, 0, 0, 0, [43, 2, 3, 599, 469, 470, 51, 471], []), (15, 20, 1, 0, 0, 0, 0, [], []), (16, 13, 1, 1, 0, 0, 0, [], []), (17, 19, 3, 2, 1, 1, 0, [], []), (20, 51, 3, 0, 0, 0, 0, [4], []), (23, 7, 1, 1, 0, 0, 0, [], []), (24, 66, 1, 1, 0, 0, 0, [], [])]
/-- ThawWords.now(I)I -/
def tw_c70 : List (Nat × tw_Op) := [(0, 7, 1, 1, 0, 0, 0, [], []), (1, 52, 31, 4, 0, 0, 0, [64], [(0, 32), (1, 40), (2, 48), (3, 56)]), (32, 11, 1, 0, 0, 0, 0, [], []), (33, 54, 3, 29, 0, 0, 0, [5, 3, 250], []), (36, 54, 3, 79, 0, 0, 0, [3, 4, 227], []), (39, 66, 1, 1, 0, 0, 0, [], []), (40, 11, 1, 0, 0, 0, 0, [], []), (41, 54, 3, 29, 0, 0, 0, [5, 3, 250], []), (44, 64, 3, 172, 0, 0, 0, [69, 1, 3, 595, 596, 597, 51, 598], []), (47, 66, 1, 1, 0, 0, 0, [], []), (48, 11, 1, 0, 0, 0, 0, [], []), (49, 54, 3, 29, 0, 0, 0, [5, 3, 250], []), (52, 54, 3, 126, 0, 0, 0, [3, 3, 225], []), (55, 66, 1, 1, 0, 0, 0, [], []), (56, 11, 1, 0, 0, 0, 0, [], []), (57, 54, 3, 29, 0, 0, 0, [5, 3, 250], []), (60, 54, 3, 173, 0, 0, 0, [3, 5, 229], []), (63, 66, 1, 1, 0, 0, 0, [], []), (64, 0, 1, 0, (-1), (-1), 0, [], []), (65, 66, 1, 1, 0, 0, 0, [], [])]
/-- ThawWords.anew()I -/
def tw_c71 : List (Nat × tw_Op) := [(0, 11, 1, 0, 0, 0, 0, [], []), (1, 54, 3, 29, 0, 0, 0, [5, 3, 250], []), (4, 54, 3, 79, 0, 0, 0, [3, 4, 227], []), (7, 13, 1, 1, 0, 0, 0, [], []), (8, 11, 1, 0, 0, 0, 0, [], []), (9, 54, 3, 29, 0, 0, 0, [5, 3, 250], []), (12, 11, 1, 0, 0, 0, 0, [], []), (13, 54, 3, 19, 0, 0, 0, [5, 1, 248], []), (16, 64, 3, 59, 0, 0, 0, [32, 2, 3, 424, 425, 426, 51, 427], []), (19, 7, 1, 1, 0, 0, 0, [], []), (20, 66, 1, 1, 0, 0, 0, [], [])]
/-- ThawWords$Scene.isThawing(LThawWords$Cape;III)Z -/
def tw_c72 : List (Nat × tw_Op) := [(0, 11, 1, 1, 0, 0, 0, [], []), (1, 54, 3, 144, 0, 0, 0, [0, 2, 106], []), (4, 7, 1, 2, 0, 0, 0, [], []), (5, 74, 3, 52, 0, 0, 0, [6, 2, 8, 308, 48, 309], []), (8, 11, 1, 0, 0, 0, 0, [], []), (9, 11, 1, 1, 0, 0, 0, [], []), (10, 7, 1, 3, 0, 0, 0, [], []), (11, 8, 2, 4, 0, 0, 0, [], []), (13, 64, 3, 121, 0, 0, 0, [39, 4, 3, 536, 446, 447, 51, 448], []), (16, 48, 3, 4, 0, 0, 0, [23], []), (19, 0, 1, 0, 1, 1, 0, [], []), (20, 51, 3, 0, 0, 0, 0, [24], []), (23, 0, 1, 0, 0, 0, 0, [], []), (24, 75, 1, 3, 0, 0, 0, [], [])]
/-- ThawWords$Scene.hourOfHearing(LThawWords$Cape;LThawWords$Saying;I)I -/
def tw_c73 : List (Nat × tw_Op) := [(0, 11, 1, 2, 0, 0, 0, [], []), (1, 7, 1, 3, 0, 0, 0, [], []), (2, 64, 3, 141, 0, 0, 0, [41, 2, 2, 541, 481, 482, 52, 483], []), (5, 47, 3, 1, 0, 0, 0, [17], []), (8, 11, 1, 2, 0, 0, 0, [], []), (9, 54, 3, 147, 0, 0, 0, [2, 1, 163], []), (12, 7, 1, 3, 0, 0, 0, [], []), (13, 74, 3, 52, 0, 0, 0, [6, 2, 8, 308, 48, 309], []), (16, 66, 1, 1, 0, 0, 0, [], []), (17, 11, 1, 0, 0, 0, 0, [], []), (18, 54, 3, 31, 0, 0, 0, [3, 4, 226], []), (21, 0, 1, 0, 1, 1, 0, [], []), (22, 20, 1, 0, 0, 0, 0, [], []), (23, 14, 2, 4, 0, 0, 0, [], []), (25, 8, 2, 4, 0, 0, 0, [], []), (27, 1, 2, 0, 99, 99, 0, [], []), (29, 48, 3, 4, 0, 0, 0, [63], []), (32, 11, 1, 0, 0, 0, 0, [], []), (33, 11, 1, 1, 0, 0, 0, [], []), (34, 11, 1, 2, 0, 0, 0, [], []), (35, 54, 3, 138, 0, 0, 0, [2, 0, 161], []), (38, 7, 1, 3, 0, 0, 0, [], []), (39, 74, 3, 52, 0, 0, 0, [6, 2, 8, 308, 48, 309], []), (42, 11, 1, 2, 0, 0, 0, [], []), (43, 54, 3, 93, 0, 0, 0, [2, 4, 173], []), (46, 8, 2, 4, 0, 0, 0, [], []), (48, 64, 3, 158, 0, 0, 0, [72, 5, 3, 612, 613, 614, 51, 615], []), (51, 47, 3, 0, 0, 0, 0, [57], []), (54, 8, 2, 4, 0, 0, 0, [], []), (56, 66, 1, 1, 0, 0, 0, [], []), (57, 19, 3, 4, 1, 1, 0, [], []), (60, 51, 3, 0, 0, 0, 0, [25], []), (63, 1, 2, 0, (-9), (-9), 0, [], []), (65, 66, 1, 1, 0, 0, 0, [], [])]
/-- ThawWords.when(II)I -/
def tw_c74 : List (Nat × tw_Op) := [(0, 11, 1, 0, 0, 0, 0, [], []), (1, 54, 3, 29, 0, 0, 0, [5, 3, 250], []), (4, 7, 1, 1, 0, 0, 0, [], []), (5, 64, 3, 144, 0, 0, 0, [40, 2, 3, 581, 473, 474, 51, 475], []), (8, 17, 1, 3, 0, 0, 0, [], []), (9, 11, 1, 3, 0, 0, 0, [], []), (10, 49, 3, 0, 0, 0, 0, [25], []), (13, 7, 1, 2, 0, 0, 0, [], []), (14, 47, 3, 2, 0, 0, 0, [25], []), (17, 7, 1, 2, 0, 0, 0, [], []), (18, 11, 1, 3, 0, 0, 0, [], []), (19, 54, 3, 160, 0, 0, 0, [2, 2, 167], []), (22, 48, 3, 2, 0, 0, 0, [27], []), (25, 0, 1, 0, (-1), (-1), 0, [], []), (26, 66, 1, 1, 0, 0, 0, [], []), (27, 11, 1, 0, 0, 0, 0, [], []), (28, 54, 3, 29, 0, 0, 0, [5, 3, 250], []), (31, 11, 1, 0, 0, 0, 0, [], []), (32, 54, 3, 19, 0, 0, 0, [5, 1, 248], []), (35, 11, 1, 3, 0, 0, 0, [], []), (36, 7, 1, 2, 0, 0, 0, [], []), (37, 64, 3, 176, 0, 0, 0, [73, 4, 3, 608, 609, 610, 51, 611], []), (40, 66, 1, 1, 0, 0, 0, [], [])]
/-- ThawWords.whole(I)I -/
def tw_c75 : List (Nat × tw_Op) := [(0, 11, 1, 0, 0, 0, 0, [], []), (1, 54, 3, 29, 0, 0, 0, [5, 3, 250], []), (4, 7, 1, 1, 0, 0, 0, [], []), (5, 64, 3, 144, 0, 0, 0, [40, 2, 3, 581, 473, 474, 51, 475], []), (8, 17, 1, 2, 0, 0, 0, [], []), (9, 11, 1, 2, 0, 0, 0, [], []), (10, 50, 3, 0, 0, 0, 0, [15], []), (13, 0, 1, 0, (-1), (-1), 0, [], []), (14, 66, 1, 1, 0, 0, 0, [], []), (15, 0, 1, 0, 0, 0, 0, [], []), (16, 13, 1, 3, 0, 0, 0, [], []), (17, 0, 1, 0, 0, 0, 0, [], []), (18, 14, 2, 4, 0, 0, 0, [], []), (20, 8, 2, 4, 0, 0, 0, [], []), (22, 11, 1, 2, 0, 0, 0, [], []), (23, 54, 3, 160, 0, 0, 0, [2, 2, 167], []), (26, 48, 3, 3, 0, 0, 0, [68], []), (29, 11, 1, 0, 0, 0, 0, [], []), (30, 54, 3, 29, 0, 0, 0, [5, 3, 250], []), (33, 11, 1, 0, 0, 0, 0, [], []), (34, 54, 3, 19, 0, 0, 0, [5, 1, 248], []), (37, 11, 1, 2, 0, 0, 0, [], []), (38, 8, 2, 4, 0, 0, 0, [], []), (40, 64, 3, 176, 0, 0, 0, [73, 4, 3, 608, 609, 610, 51, 611], []), (43, 14, 2, 5, 0, 0, 0, [], []), (45, 8, 2, 5, 0, 0, 0, [], []), (47, 1, 2, 0, (-9), (-9), 0, [], []), (49, 48, 3, 1, 0, 0, 0, [55], []), (52, 1, 2, 0, (-9), (-9), 0, [], []), (54, 66, 1, 1, 0, 0, 0, [], []), (55, 7, 1, 3, 0, 0, 0, [], []), (56, 8, 2, 5, 0, 0, 0, [], []), (58, 76, 3, 180, 0, 0, 0, [620, 305, 55, 306], []), (61, 13, 1, 3, 0, 0, 0, [], []), (62, 19, 3, 4, 1, 1, 0, [], []), (65, 51, 3, 0, 0, 0, 0, [20], []), (68, 7, 1, 3, 0, 0, 0, [], []), (69, 66, 1, 1, 0, 0, 0, [], [])]
/-- ThawWords.hours(III)I -/
def tw_c76 : List (Nat × tw_Op) := [(0, 11, 1, 0, 0, 0, 0, [], []), (1, 54, 3, 19, 0, 0, 0, [5, 1, 248], []), (4, 7, 1, 1, 0, 0, 0, [], []), (5, 64, 3, 99, 0, 0, 0, [47, 2, 0, 498, 499, 500, 50, 501], []), (8, 47, 3, 0, 0, 0, 0, [29], []), (11, 11, 1, 0, 0, 0, 0, [], []), (12, 54, 3, 19, 0, 0, 0, [5, 1, 248], []), (15, 7, 1, 2, 0, 0, 0, [], []), (16, 64, 3, 66, 0, 0, 0, [34, 2, 0, 439, 440, 441, 50, 442], []), (19, 47, 3, 0, 0, 0, 0, [29], []), (22, 7, 1, 3, 0, 0, 0, [], []), (23, 65, 3, 93, 0, 0, 0, [45, 1, 0, 490, 491, 48, 492], []), (26, 47, 3, 1, 0, 0, 0, [31], []), (29, 0, 1, 0, (-1), (-1), 0, [], []), (30, 66, 1, 1, 0, 0, 0, [], []), (31, 0, 1, 0, 0, 0, 0, [], []), (32, 14, 2, 4, 0, 0, 0, [], []), (34, 7, 1, 3, 0, 0, 0, [], []), (35, 14, 2, 5, 0, 0, 0, [], []), (37, 8, 2, 5, 0, 0, 0, [], []), (39, 11, 1, 0, 0, 0, 0, [], []), (40, 54, 3, 29, 0, 0, 0, [5, 3, 250], []), (43, 54, 3, 79, 0, 0, 0, [3, 4, 227], []), (46, 48, 3, 2, 0, 0, 0, [123], []), (49, 11, 1, 0, 0, 0, 0, [], []), (50, 54, 3, 29, 0, 0, 0, [5, 3, 250], []), (53, 11, 1, 0, 0, 0, 0, [], []), (54, 54, 3, 19, 0, 0, 0, [5, 1, 248], []), (57, 7, 1, 1, 0, 0, 0, [], []), (58, 7, 1, 2, 0, 0, 0, [], []), (59, 8, 2, 5, 0, 0, 0, [], []), (61, 64, 3, 186, 0, 0, 0, [72, 5, 3, 625, 613, 614, 51, 615], []), (64, 14, 2, 6, 0, 0, 0, [], []), (66, 8, 2, 6, 0, 0, 0, [], []), (68, 8, 2, 5, 0, 0, 0, [], []), (70, 7, 1, 3, 0, 0, 0, [], []), (71, 48, 3, 1, 0, 0, 0, [78], []), (74, 0, 1, 0, 1, 1, 0, [], []), (75, 51, 3, 0, 0, 0, 0, [79], []), (78, 0, 1, 0, 0, 0, 0, [], []), (79, 48, 3, 0, 0, 0, 0, [85], []), (82, 8, 2, 4, 0, 0, 0, [], []), (84, 66, 1, 1, 0, 0, 0, [], []), (85, 8, 2, 5, 0, 0, 0, [], []), (87, 11, 1, 0, 0, 0, 0, [], []), (88, 54, 3, 29, 0, 0, 0, [5, 3, 250], []), (91, 54, 3, 79, 0, 0, 0, [3, 4, 227], []), (94, 21, 1, 0, 0, 0, 0, [], []), (95, 1, 2, 0, 24, 24, 0, [], []), (97, 48, 3, 3, 0, 0, 0, [117], []), (100, 8, 2, 4, 0, 0, 0, [], []), (102, 0, 1, 0, 1, 1, 0, [], []), (103, 8, 2, 5, 0, 0, 0, [], []), (105, 11, 1, 0, 0, 0, 0, [], []), (106, 54, 3, 29, 0, 0, 0, [5, 3, 250], []), (109, 54, 3, 79, 0, 0, 0, [3, 4, 227], []), (112, 21, 1, 0, 0, 0, 0, [], []), (113, 28, 1, 0, 0, 0, 0, [], []), (114, 26, 1, 0, 0, 0, 0, [], []), (115, 14, 2, 4, 0, 0, 0, [], []), (117, 19, 3, 5, (-1), (-1), 0, [], []), (120, 51, 3, 0, 0, 0, 0, [37], []), (123, 8, 2, 4, 0, 0, 0, [], []), (125, 66, 1, 1, 0, 0, 0, [], [])]
/-- ThawWords$Ear.holds(LThawWords$Saying;)Z -/
def tw_c77 : List (Nat × tw_Op) := [(0, 0, 1, 0, 0, 0, 0, [], []), (1, 13, 1, 2, 0, 0, 0, [], []), (2, 0, 1, 0, 0, 0, 0, [], []), (3, 13, 1, 3, 0, 0, 0, [], []), (4, 7, 1, 3, 0, 0, 0, [], []), (5, 11, 1, 0, 0, 0, 0, [], []), (6, 54, 3, 18, 0, 0, 0, [1, 2, 210], []), (9, 48, 3, 3, 0, 0, 0, [48], []), (12, 7, 1, 2, 0, 0, 0, [], []), (13, 11, 1, 1, 0, 0, 0, [], []), (14, 54, 3, 30, 0, 0, 0, [2, 2, 166], []), (17, 48, 3, 3, 0, 0, 0, [48], []), (20, 11, 1, 0, 0, 0, 0, [], []), (21, 54, 3, 15, 0, 0, 0, [1, 1, 208], []), (24, 7, 1, 3, 0, 0, 0, [], []), (25, 74, 3, 35, 0, 0, 0, [6, 2, 15, 308, 48, 309], []), (28, 11, 1, 1, 0, 0, 0, [], []), (29, 54, 3, 39, 0, 0, 0, [2, 0, 159], []), (32, 7, 1, 2, 0, 0, 0, [], []), (33, 74, 3, 35, 0, 0, 0, [6, 2, 15, 308, 48, 309], []), (36, 48, 3, 1, 0, 0, 0, [42], []), (39, 19, 3, 2, 1, 1, 0, [], []), (42, 19, 3, 3, 1, 1, 0, [], []), (45, 51, 3, 0, 0, 0, 0, [4], []), (48, 7, 1, 2, 0, 0, 0, [], []), (49, 11, 1, 1, 0, 0, 0, [], []), (50, 54, 3, 30, 0, 0, 0, [2, 2, 166], []), (53, 48, 3, 1, 0, 0, 0, [60], []), (56, 0, 1, 0, 1, 1, 0, [], []), (57, 51, 3, 0, 0, 0, 0, [61], []), (60, 0, 1, 0, 0, 0, 0, [], []), (61, 75, 1, 3, 0, 0, 0, [], [])]
/-- ThawWords.fits(I)I -/
def tw_c78 : List (Nat × tw_Op) := [(0, 11, 1, 0, 0, 0, 0, [], []), (1, 7, 1, 1, 0, 0, 0, [], []), (2, 64, 3, 105, 0, 0, 0, [50, 2, 5, 506, 508, 11, 48, 509], []), (5, 17, 1, 2, 0, 0, 0, [], []), (6, 11, 1, 2, 0, 0, 0, [], []), (7, 50, 3, 0, 0, 0, 0, [12], []), (10, 0, 1, 0, (-1), (-1), 0, [], []), (11, 66, 1, 1, 0, 0, 0, [], []), (12, 0, 1, 0, 0, 0, 0, [], []), (13, 13, 1, 3, 0, 0, 0, [], []), (14, 0, 1, 0, 0, 0, 0, [], []), (15, 14, 2, 4, 0, 0, 0, [], []), (17, 8, 2, 4, 0, 0, 0, [], []), (19, 11, 1, 0, 0, 0, 0, [], []), (20, 54, 3, 29, 0, 0, 0, [5, 3, 250], []), (23, 54, 3, 126, 0, 0, 0, [3, 3, 225], []), (26, 48, 3, 3, 0, 0, 0, [67], []), (29, 11, 1, 0, 0, 0, 0, [], []), (30, 54, 3, 29, 0, 0, 0, [5, 3, 250], []), (33, 8, 2, 4, 0, 0, 0, [], []), (35, 64, 3, 144, 0, 0, 0, [40, 2, 3, 581, 473, 474, 51, 475], []), (38, 18, 2, 5, 0, 0, 0, [], []), (40, 12, 2, 5, 0, 0, 0, [], []), (42, 49, 3, 0, 0, 0, 0, [61], []), (45, 11, 1, 2, 0, 0, 0, [], []), (46, 12, 2, 5, 0, 0, 0, [], []), (48, 64, 3, 190, 0, 0, 0, [77, 2, 1, 630, 631, 632, 53, 633], []), (51, 47, 3, 0, 0, 0, 0, [61], []), (54, 7, 1, 3, 0, 0, 0, [], []), (55, 0, 1, 0, 1, 1, 0, [], []), (56, 8, 2, 4, 0, 0, 0, [], []), (58, 28, 1, 0, 0, 0, 0, [], []), (59, 26, 1, 0, 0, 0, 0, [], []), (60, 13, 1, 3, 0, 0, 0, [], []), (61, 19, 3, 4, 1, 1, 0, [], []), (64, 51, 3, 0, 0, 0, 0, [17], []), (67, 7, 1, 3, 0, 0, 0, [], []), (68, 66, 1, 1, 0, 0, 0, [], [])]
/-- ThawWords$Scene.placesOfHanging(I)I -/
def tw_c79 : List (Nat × tw_Op) := [(0, 0, 1, 0, 0, 0, 0, [], []), (1, 13, 1, 2, 0, 0, 0, [], []), (2, 0, 1, 0, 0, 0, 0, [], []), (3, 13, 1, 3, 0, 0, 0, [], []), (4, 7, 1, 3, 0, 0, 0, [], []), (5, 11, 1, 0, 0, 0, 0, [], []), (6, 54, 3, 27, 0, 0, 0, [3, 3, 224], []), (9, 48, 3, 3, 0, 0, 0, [56], []), (12, 11, 1, 0, 0, 0, 0, [], []), (13, 7, 1, 3, 0, 0, 0, [], []), (14, 64, 3, 67, 0, 0, 0, [40, 2, 3, 472, 473, 474, 51, 475], []), (17, 18, 2, 4, 0, 0, 0, [], []), (19, 12, 2, 4, 0, 0, 0, [], []), (21, 49, 3, 0, 0, 0, 0, [50], []), (24, 7, 1, 1, 0, 0, 0, [], []), (25, 7, 1, 3, 0, 0, 0, [], []), (26, 74, 3, 82, 0, 0, 0, [37, 2, 11, 466, 48, 467], []), (29, 47, 3, 0, 0, 0, 0, [50], []), (32, 12, 2, 4, 0, 0, 0, [], []), (34, 64, 3, 96, 0, 0, 0, [42, 1, 2, 476, 477, 478, 52, 479], []), (37, 47, 3, 5, 0, 0, 0, [50], []), (40, 7, 1, 2, 0, 0, 0, [], []), (41, 0, 1, 0, 1, 1, 0, [], []), (42, 12, 2, 4, 0, 0, 0, [], []), (44, 54, 3, 93, 0, 0, 0, [2, 4, 173], []), (47, 28, 1, 0, 0, 0, 0, [], []), (48, 26, 1, 0, 0, 0, 0, [], []), (49, 13, 1, 2, 0, 0, 0, [], []), (50, 19, 3, 3, 1, 1, 0, [], []), (53, 51, 3, 0, 0, 0, 0, [4], []), (56, 7, 1, 2, 0, 0, 0, [], []), (57, 66, 1, 1, 0, 0, 0, [], [])]
/-- ThawWords$Scene.thawingByLantern(LThawWords$Cape;LThawWords$Saying;)I -/
def tw_c80 : List (Nat × tw_Op) := [(0, 11, 1, 0, 0, 0, 0, [], []), (1, 11, 1, 1, 0, 0, 0, [], []), (2, 11, 1, 2, 0, 0, 0, [], []), (3, 54, 3, 93, 0, 0, 0, [2, 4, 173], []), (6, 11, 1, 0, 0, 0, 0, [], []), (7, 54, 3, 31, 0, 0, 0, [3, 4, 226], []), (10, 64, 3, 121, 0, 0, 0, [39, 4, 3, 536, 446, 447, 51, 448], []), (13, 0, 1, 0, 5, 5, 0, [], []), (14, 20, 1, 0, 0, 0, 0, [], []), (15, 13, 1, 3, 0, 0, 0, [], []), (16, 0, 1, 0, 0, 0, 0, [], []), (17, 14, 2, 4, 0, 0, 0, [], []), (19, 0, 1, 0, 0, 0, 0, [], []), (20, 14, 2, 5, 0, 0, 0, [], []), (22, 8, 2, 5, 0, 0, 0, [], []), (24, 11, 1, 2, 0, 0, 0, [], []), (25, 54, 3, 135, 0, 0, 0, [2, 2, 168], []), (28, 48, 3, 3, 0, 0, 0, [69], []), (31, 11, 1, 2, 0, 0, 0, [], []), (32, 8, 2, 5, 0, 0, 0, [], []), (34, 64, 3, 141, 0, 0, 0, [41, 2, 2, 541, 481, 482, 52, 483], []), (37, 47, 3, 0, 0, 0, 0, [63], []), (40, 11, 1, 1, 0, 0, 0, [], []), (41, 54, 3, 144, 0, 0, 0, [0, 2, 106], []), (44, 11, 1, 2, 0, 0, 0, [], []), (45, 54, 3, 138, 0, 0, 0, [2, 0, 161], []), (48, 8, 2, 5, 0, 0, 0, [], []), (50, 74, 3, 52, 0, 0, 0, [6, 2, 8, 308, 48, 309], []), (53, 74, 3, 52, 0, 0, 0, [6, 2, 8, 308, 48, 309], []), (56, 7, 1, 3, 0, 0, 0, [], []), (57, 48, 3, 4, 0, 0, 0, [63], []), (60, 19, 3, 4, 1, 1, 0, [], []), (63, 19, 3, 5, 1, 1, 0, [], []), (66, 51, 3, 0, 0, 0, 0, [22], []), (69, 8, 2, 4, 0, 0, 0, [], []), (71, 66, 1, 1, 0, 0, 0, [], [])]
/-- ThawWords.lanterns(II)I -/
def tw_c81 : List (Nat × tw_Op) := [(0, 11, 1, 0, 0, 0, 0, [], []), (1, 54, 3, 29, 0, 0, 0, [5, 3, 250], []), (4, 7, 1, 1, 0, 0, 0, [], []), (5, 64, 3, 194, 0, 0, 0, [79, 2, 3, 639, 640, 641, 51, 642], []), (8, 13, 1, 3, 0, 0, 0, [], []), (9, 7, 1, 3, 0, 0, 0, [], []), (10, 11, 1, 0, 0, 0, 0, [], []), (11, 54, 3, 29, 0, 0, 0, [5, 3, 250], []), (14, 54, 3, 173, 0, 0, 0, [3, 5, 229], []), (17, 25, 1, 0, 0, 0, 0, [], []), (18, 47, 3, 0, 0, 0, 0, [24], []), (21, 1, 2, 0, (-9), (-9), 0, [], []), (23, 66, 1, 1, 0, 0, 0, [], []), (24, 0, 1, 0, 0, 0, 0, [], []), (25, 14, 2, 4, 0, 0, 0, [], []), (27, 8, 2, 4, 0, 0, 0, [], []), (29, 11, 1, 0, 0, 0, 0, [], []), (30, 54, 3, 29, 0, 0, 0, [5, 3, 250], []), (33, 54, 3, 126, 0, 0, 0, [3, 3, 225], []), (36, 48, 3, 3, 0, 0, 0, [130], []), (39, 11, 1, 0, 0, 0, 0, [], []), (40, 54, 3, 29, 0, 0, 0, [5, 3, 250], []), (43, 8, 2, 4, 0, 0, 0, [], []), (45, 64, 3, 144, 0, 0, 0, [40, 2, 3, 581, 473, 474, 51, 475], []), (48, 18, 2, 5, 0, 0, 0, [], []), (50, 12, 2, 5, 0, 0, 0, [], []), (52, 49, 3, 0, 0, 0, 0, [124], []), (55, 7, 1, 3, 0, 0, 0, [], []), (56, 12, 2, 5, 0, 0, 0, [], []), (58, 54, 3, 153, 0, 0, 0, [2, 4, 174], []), (61, 65, 3, 197, 0, 0, 0, [37, 2, 0, 643, 466, 48, 467], []), (64, 47, 3, 1, 0, 0, 0, [70], []), (67, 51, 3, 0, 0, 0, 0, [124], []), (70, 11, 1, 0, 0, 0, 0, [], []), (71, 54, 3, 29, 0, 0, 0, [5, 3, 250], []), (74, 11, 1, 0, 0, 0, 0, [], []), (75, 54, 3, 19, 0, 0, 0, [5, 1, 248], []), (78, 12, 2, 5, 0, 0, 0, [], []), (80, 64, 3, 201, 0, 0, 0, [80, 3, 3, 644, 645, 646, 51, 647], []), (83, 14, 2, 6, 0, 0, 0, [], []), (85, 7, 1, 1, 0, 0, 0, [], []), (86, 8, 2, 4, 0, 0, 0, [], []), (88, 65, 3, 197, 0, 0, 0, [37, 2, 0, 643, 466, 48, 467], []), (91, 47, 3, 0, 0, 0, 0, [107], []), (94, 8, 2, 6, 0, 0, 0, [], []), (96, 12, 2, 5, 0, 0, 0, [], []), (98, 64, 3, 161, 0, 0, 0, [42, 1, 2, 582, 477, 478, 52, 479], []), (101, 48, 3, 3, 0, 0, 0, [107], []), (104, 1, 2, 0, (-9), (-9), 0, [], []), (106, 66, 1, 1, 0, 0, 0, [], []), (107, 7, 1, 2, 0, 0, 0, [], []), (108, 8, 2, 4, 0, 0, 0, [], []), (110, 65, 3, 197, 0, 0, 0, [37, 2, 0, 643, 466, 48, 467], []), (113, 47, 3, 0, 0, 0, 0, [124], []), (116, 8, 2, 6, 0, 0, 0, [], []), (118, 47, 3, 5, 0, 0, 0, [124], []), (121, 1, 2, 0, (-9), (-9), 0, [], []), (123, 66, 1, 1, 0, 0, 0, [], []), (124, 19, 3, 4, 1, 1, 0, [], []), (127, 51, 3, 0, 0, 0, 0, [27], []), (130, 7, 1, 3, 0, 0, 0, [], []), (131, 66, 1, 1, 0, 0, 0, [], [])]
/-- ThawWords.answers(II)I -/
def tw_c82 : List (Nat × tw_Op) := [(0, 11, 1, 0, 0, 0, 0, [], []), (1, 54, 3, 29, 0, 0, 0, [5, 3, 250], []), (4, 7, 1, 1, 0, 0, 0, [], []), (5, 64, 3, 144, 0, 0, 0, [40, 2, 3, 581, 473, 474, 51, 475], []), (8, 17, 1, 3, 0, 0, 0, [], []), (9, 11, 1, 0, 0, 0, 0, [], []), (10, 54, 3, 29, 0, 0, 0, [5, 3, 250], []), (13, 7, 1, 2, 0, 0, 0, [], []), (14, 64, 3, 144, 0, 0, 0, [40, 2, 3, 581, 473, 474, 51, 475], []), (17, 18, 2, 4, 0, 0, 0, [], []), (19, 11, 1, 3, 0, 0, 0, [], []), (20, 49, 3, 0, 0, 0, 0, [33], []), (23, 12, 2, 4, 0, 0, 0, [], []), (25, 49, 3, 0, 0, 0, 0, [33], []), (28, 7, 1, 1, 0, 0, 0, [], []), (29, 7, 1, 2, 0, 0, 0, [], []), (30, 48, 3, 1, 0, 0, 0, [35], []), (33, 0, 1, 0, (-1), (-1), 0, [], []), (34, 66, 1, 1, 0, 0, 0, [], []), (35, 0, 1, 0, 0, 0, 0, [], []), (36, 14, 2, 5, 0, 0, 0, [], []), (38, 8, 2, 5, 0, 0, 0, [], []), (40, 12, 2, 4, 0, 0, 0, [], []), (42, 54, 3, 160, 0, 0, 0, [2, 2, 167], []), (45, 48, 3, 3, 0, 0, 0, [83], []), (48, 12, 2, 4, 0, 0, 0, [], []), (50, 8, 2, 5, 0, 0, 0, [], []), (52, 64, 3, 205, 0, 0, 0, [41, 2, 2, 652, 481, 482, 52, 483], []), (55, 47, 3, 1, 0, 0, 0, [75], []), (58, 12, 2, 4, 0, 0, 0, [], []), (60, 54, 3, 208, 0, 0, 0, [2, 1, 164], []), (63, 8, 2, 5, 0, 0, 0, [], []), (65, 65, 3, 75, 0, 0, 0, [6, 2, 0, 444, 308, 48, 309], []), (68, 11, 1, 3, 0, 0, 0, [], []), (69, 54, 3, 156, 0, 0, 0, [2, 5, 177], []), (72, 48, 3, 2, 0, 0, 0, [77], []), (75, 0, 1, 0, 0, 0, 0, [], []), (76, 66, 1, 1, 0, 0, 0, [], []), (77, 19, 3, 5, 1, 1, 0, [], []), (80, 51, 3, 0, 0, 0, 0, [38], []), (83, 0, 1, 0, 1, 1, 0, [], []), (84, 66, 1, 1, 0, 0, 0, [], [])]
/-- ThawWords.spoke(I)I -/
def tw_c83 : List (Nat × tw_Op) := [(0, 11, 1, 0, 0, 0, 0, [], []), (1, 54, 3, 29, 0, 0, 0, [5, 3, 250], []), (4, 7, 1, 1, 0, 0, 0, [], []), (5, 64, 3, 144, 0, 0, 0, [40, 2, 3, 581, 473, 474, 51, 475], []), (8, 17, 1, 2, 0, 0, 0, [], []), (9, 11, 1, 2, 0, 0, 0, [], []), (10, 50, 3, 0, 0, 0, 0, [15], []), (13, 0, 1, 0, (-1), (-1), 0, [], []), (14, 66, 1, 1, 0, 0, 0, [], []), (15, 11, 1, 0, 0, 0, 0, [], []), (16, 54, 3, 19, 0, 0, 0, [5, 1, 248], []), (19, 54, 3, 109, 0, 0, 0, [0, 3, 108], []), (22, 11, 1, 2, 0, 0, 0, [], []), (23, 54, 3, 148, 0, 0, 0, [2, 3, 171], []), (26, 65, 3, 75, 0, 0, 0, [6, 2, 0, 444, 308, 48, 309], []), (29, 13, 1, 3, 0, 0, 0, [], []), (30, 0, 1, 0, 0, 0, 0, [], []), (31, 14, 2, 4, 0, 0, 0, [], []), (33, 0, 1, 0, 0, 0, 0, [], []), (34, 14, 2, 5, 0, 0, 0, [], []), (36, 8, 2, 5, 0, 0, 0, [], []), (38, 11, 1, 0, 0, 0, 0, [], []), (39, 54, 3, 19, 0, 0, 0, [5, 1, 248], []), (42, 54, 3, 211, 0, 0, 0, [0, 8, 123], []), (45, 48, 3, 3, 0, 0, 0, [108], []), (48, 11, 1, 0, 0, 0, 0, [], []), (49, 54, 3, 19, 0, 0, 0, [5, 1, 248], []), (52, 54, 3, 109, 0, 0, 0, [0, 3, 108], []), (55, 8, 2, 5, 0, 0, 0, [], []), (57, 65, 3, 75, 0, 0, 0, [6, 2, 0, 444, 308, 48, 309], []), (60, 7, 1, 3, 0, 0, 0, [], []), (61, 21, 1, 0, 0, 0, 0, [], []), (62, 78, 3, 214, 0, 0, 0, [657, 658, 55, 659], []), (65, 0, 1, 0, 1, 1, 0, [], []), (66, 48, 3, 4, 0, 0, 0, [73], []), (69, 0, 1, 0, 1, 1, 0, [], []), (70, 51, 3, 0, 0, 0, 0, [74], []), (73, 0, 1, 0, 0, 0, 0, [], []), (74, 14, 2, 6, 0, 0, 0, [], []), (76, 8, 2, 6, 0, 0, 0, [], []), (78, 47, 3, 0, 0, 0, 0, [102], []), (81, 11, 1, 2, 0, 0, 0, [], []), (82, 54, 3, 217, 0, 0, 0, [2, 7, 183], []), (85, 8, 2, 5, 0, 0, 0, [], []), (87, 65, 3, 197, 0, 0, 0, [37, 2, 0, 643, 466, 48, 467], []), (90, 47, 3, 0, 0, 0, 0, [102], []), (93, 8, 2, 4, 0, 0, 0, [], []), (95, 0, 1, 0, 1, 1, 0, [], []), (96, 8, 2, 5, 0, 0, 0, [], []), (98, 28, 1, 0, 0, 0, 0, [], []), (99, 26, 1, 0, 0, 0, 0, [], []), (100, 14, 2, 4, 0, 0, 0, [], []), (102, 19, 3, 5, 1, 1, 0, [], []), (105, 51, 3, 0, 0, 0, 0, [36], []), (108, 8, 2, 4, 0, 0, 0, [], []), (110, 66, 1, 1, 0, 0, 0, [], [])]
/-- ThawWords$Cape.frozenCases(IIII)I -/
def tw_c84 : List (Nat × tw_Op) := [(0, 11, 1, 0, 0, 0, 0, [], []), (1, 54, 3, 18, 0, 0, 0, [0, 2, 104], []), (4, 7, 1, 1, 0, 0, 0, [], []), (5, 74, 3, 54, 0, 0, 0, [6, 2, 10, 308, 48, 309], []), (8, 11, 1, 0, 0, 0, 0, [], []), (9, 7, 1, 2, 0, 0, 0, [], []), (10, 8, 2, 4, 0, 0, 0, [], []), (12, 64, 3, 62, 0, 0, 0, [36, 3, 0, 669, 450, 451, 50, 452], []), (15, 21, 1, 0, 0, 0, 0, [], []), (16, 14, 2, 5, 0, 0, 0, [], []), (18, 0, 1, 0, 0, 0, 0, [], []), (19, 14, 2, 6, 0, 0, 0, [], []), (21, 7, 1, 3, 0, 0, 0, [], []), (22, 30, 1, 0, 0, 0, 0, [], []), (23, 14, 2, 7, 0, 0, 0, [], []), (25, 8, 2, 7, 0, 0, 0, [], []), (27, 7, 1, 3, 0, 0, 0, [], []), (28, 48, 3, 4, 0, 0, 0, [47], []), (31, 8, 2, 7, 0, 0, 0, [], []), (33, 8, 2, 5, 0, 0, 0, [], []), (35, 48, 3, 3, 0, 0, 0, [41], []), (38, 19, 3, 6, 1, 1, 0, [], []), (41, 19, 3, 7, 1, 1, 0, [], []), (44, 51, 3, 0, 0, 0, 0, [25], []), (47, 8, 2, 6, 0, 0, 0, [], []), (49, 66, 1, 1, 0, 0, 0, [], [])]
/-- ThawWords.greatestDivisor(JJ)J -/
def tw_c85 : List (Nat × tw_Op) := [(0, 9, 1, 0, 0, 0, 0, [], []), (1, 16, 2, 4, 0, 0, 0, [], []), (3, 9, 1, 2, 0, 0, 0, [], []), (4, 16, 2, 6, 0, 0, 0, [], []), (6, 0, 1, 0, 0, 0, 0, [], []), (7, 14, 2, 8, 0, 0, 0, [], []), (9, 10, 2, 6, 0, 0, 0, [], []), (11, 4, 1, 0, 0, 0, 0, [], []), (12, 40, 1, 0, 0, 0, 0, [], []), (13, 47, 3, 0, 0, 0, 0, [44], []), (16, 8, 2, 8, 0, 0, 0, [], []), (18, 1, 2, 0, 100, 100, 0, [], []), (20, 48, 3, 3, 0, 0, 0, [44], []), (23, 10, 2, 4, 0, 0, 0, [], []), (25, 10, 2, 6, 0, 0, 0, [], []), (27, 35, 1, 0, 0, 0, 0, [], []), (28, 16, 2, 9, 0, 0, 0, [], []), (30, 10, 2, 6, 0, 0, 0, [], []), (32, 16, 2, 4, 0, 0, 0, [], []), (34, 10, 2, 9, 0, 0, 0, [], []), (36, 16, 2, 6, 0, 0, 0, [], []), (38, 19, 3, 8, 1, 1, 0, [], []), (41, 51, 3, 0, 0, 0, 0, [9], []), (44, 10, 2, 4, 0, 0, 0, [], []), (46, 67, 1, 0, 0, 0, 0, [], [])]
/-- ThawWords.odds(IIIII)J -/
def tw_c86 : List (Nat × tw_Op) := [(0, 11, 1, 0, 0, 0, 0, [], []), (1, 54, 3, 19, 0, 0, 0, [5, 1, 248], []), (4, 7, 1, 1, 0, 0, 0, [], []), (5, 64, 3, 99, 0, 0, 0, [47, 2, 0, 498, 499, 500, 50, 501], []), (8, 47, 3, 0, 0, 0, 0, [33], []), (11, 11, 1, 0, 0, 0, 0, [], []), (12, 54, 3, 19, 0, 0, 0, [5, 1, 248], []), (15, 7, 1, 2, 0, 0, 0, [], []), (16, 64, 3, 66, 0, 0, 0, [34, 2, 0, 439, 440, 441, 50, 442], []), (19, 47, 3, 0, 0, 0, 0, [33], []), (22, 8, 2, 5, 0, 0, 0, [], []), (24, 47, 3, 2, 0, 0, 0, [33], []), (27, 8, 2, 5, 0, 0, 0, [], []), (29, 0, 1, 0, 1, 1, 0, [], []), (30, 48, 3, 5, 0, 0, 0, [37], []), (33, 5, 3, 220, 0, 0, (-1000000), [664], []), (36, 67, 1, 0, 0, 0, 0, [], []), (37, 7, 1, 3, 0, 0, 0, [], []), (38, 47, 3, 2, 0, 0, 0, [59], []), (41, 7, 1, 3, 0, 0, 0, [], []), (42, 0, 1, 0, 3, 3, 0, [], []), (43, 48, 3, 4, 0, 0, 0, [59], []), (46, 8, 2, 4, 0, 0, 0, [], []), (48, 0, 1, 0, 1, 1, 0, [], []), (49, 48, 3, 2, 0, 0, 0, [59], []), (52, 8, 2, 4, 0, 0, 0, [], []), (54, 1, 2, 0, 6, 6, 0, [], []), (56, 48, 3, 5, 0, 0, 0, [63], []), (59, 5, 3, 220, 0, 0, (-1000000), [664], []), (62, 67, 1, 0, 0, 0, 0, [], []), (63, 4, 1, 1, 0, 0, 1, [], []), (64, 16, 2, 6, 0, 0, 0, [], []), (66, 4, 1, 1, 0, 0, 1, [], []), (67, 16, 2, 8, 0, 0, 0, [], []), (69, 0, 1, 0, 1, 1, 0, [], []), (70, 14, 2, 10, 0, 0, 0, [], []), (72, 8, 2, 10, 0, 0, 0, [], []), (74, 8, 2, 4, 0, 0, 0, [], []), (76, 48, 3, 4, 0, 0, 0, [122], []), (79, 10, 2, 6, 0, 0, 0, [], []), (81, 0, 1, 0, 2, 2, 0, [], []), (82, 7, 1, 3, 0, 0, 0, [], []), (83, 22, 1, 0, 0, 0, 0, [], []), (84, 0, 1, 0, 1, 1, 0, [], []), (85, 20, 1, 0, 0, 0, 0, [], []), (86, 41, 1, 0, 0, 0, 0, [], []), (87, 33, 1, 0, 0, 0, 0, [], []), (88, 16, 2, 6, 0, 0, 0, [], []), (90, 10, 2, 8, 0, 0, 0, [], []), (92, 11, 1, 0, 0, 0, 0, [], []), (93, 54, 3, 19, 0, 0, 0, [5, 1, 248], []), (96, 7, 1, 1, 0, 0, 0, [], []), (97, 7, 1, 2, 0, 0, 0, [], []), (98, 7, 1, 3, 0, 0, 0, [], []), (99, 11, 1, 0, 0, 0, 0, [], []), (100, 54, 3, 29, 0, 0, 0, [5, 3, 250], []), (103, 54, 3, 79, 0, 0, 0, [3, 4, 227], []), (106, 8, 2, 10, 0, 0, 0, [], []), (108, 20, 1, 0, 0, 0, 0, [], []), (109, 64, 3, 222, 0, 0, 0, [84, 5, 0, 665, 666, 667, 50, 668], []), (112, 41, 1, 0, 0, 0, 0, [], []), (113, 33, 1, 0, 0, 0, 0, [], []), (114, 16, 2, 8, 0, 0, 0, [], []), (116, 19, 3, 10, 1, 1, 0, [], []), (119, 51, 3, 0, 0, 0, 0, [72], []), (122, 10, 2, 6, 0, 0, 0, [], []), (124, 10, 2, 6, 0, 0, 0, [], []), (126, 10, 2, 8, 0, 0, 0, [], []), (128, 32, 1, 0, 0, 0, 0, [], []), (129, 65, 3, 226, 0, 0, 0, [85, 2, 0, 670, 671, 48, 672], []), (132, 16, 2, 10, 0, 0, 0, [], []), (134, 10, 2, 10, 0, 0, 0, [], []), (136, 4, 1, 1, 0, 0, 1, [], []), (137, 40, 1, 0, 0, 0, 0, [], []), (138, 47, 3, 3, 0, 0, 0, [145], []), (141, 5, 3, 220, 0, 0, (-1000000), [664], []), (144, 67, 1, 0, 0, 0, 0, [], []), (145, 8, 2, 5, 0, 0, 0, [], []), (147, 47, 3, 1, 0, 0, 0, [158], []), (150, 10, 2, 6, 0, 0, 0, [], []), (152, 10, 2, 8, 0, 0, 0, [], []), (154, 32, 1, 0, 0, 0, 0, [], []), (155, 51, 3, 0, 0, 0, 0, [160], []), (158, 10, 2, 6, 0, 0, 0, [], []), (160, 10, 2, 10, 0, 0, 0, [], []), (162, 34, 1, 0, 0, 0, 0, [], []), (163, 67, 1, 0, 0, 0, 0, [], [])]
/-- ThawWords.rateAsSaying(LThawWords$Saying;)I -/
def tw_c87 : List (Nat × tw_Op) := [(0, 11, 1, 0, 0, 0, 0, [], []), (1, 44, 1, 0, 0, 0, 0, [], []), (2, 54, 3, 39, 0, 0, 0, [5, 6, 253], []), (5, 4, 1, 1, 0, 0, 1, [], []), (6, 31, 1, 0, 0, 0, 0, [], []), (7, 55, 3, 39, 0, 0, 0, [5, 6, 253], []), (10, 11, 1, 1, 0, 0, 0, [], []), (11, 54, 3, 160, 0, 0, 0, [2, 2, 167], []), (14, 66, 1, 1, 0, 0, 0, [], [])]
/-- ThawWords.rateAsLow(LThawWords$Saying;)I -/
def tw_c88 : List (Nat × tw_Op) := [(0, 11, 1, 0, 0, 0, 0, [], []), (1, 44, 1, 0, 0, 0, 0, [], []), (2, 54, 3, 39, 0, 0, 0, [5, 6, 253], []), (5, 5, 3, 265, 0, 0, 10, [685], []), (8, 31, 1, 0, 0, 0, 0, [], []), (9, 55, 3, 39, 0, 0, 0, [5, 6, 253], []), (12, 11, 1, 0, 0, 0, 0, [], []), (13, 11, 1, 1, 0, 0, 0, [], []), (14, 64, 3, 230, 0, 0, 0, [87, 2, 5, 677, 679, 17, 48, 680], []), (17, 11, 1, 1, 0, 0, 0, [], []), (18, 54, 3, 157, 0, 0, 0, [2, 6, 180], []), (21, 21, 1, 0, 0, 0, 0, [], []), (22, 66, 1, 1, 0, 0, 0, [], [])]
/-- ThawWords.rateAsSung(LThawWords$Saying;)I -/
def tw_c89 : List (Nat × tw_Op) := [(0, 11, 1, 0, 0, 0, 0, [], []), (1, 44, 1, 0, 0, 0, 0, [], []), (2, 54, 3, 39, 0, 0, 0, [5, 6, 253], []), (5, 5, 3, 267, 0, 0, 100, [690], []), (8, 31, 1, 0, 0, 0, 0, [], []), (9, 55, 3, 39, 0, 0, 0, [5, 6, 253], []), (12, 11, 1, 0, 0, 0, 0, [], []), (13, 11, 1, 1, 0, 0, 0, [], []), (14, 64, 3, 230, 0, 0, 0, [87, 2, 5, 677, 679, 17, 48, 680], []), (17, 11, 1, 1, 0, 0, 0, [], []), (18, 64, 3, 161, 0, 0, 0, [42, 1, 2, 582, 477, 478, 52, 479], []), (21, 20, 1, 0, 0, 0, 0, [], []), (22, 66, 1, 1, 0, 0, 0, [], [])]
/-- ThawWords.rateAsMixed(LThawWords$Saying;)I -/
def tw_c90 : List (Nat × tw_Op) := [(0, 11, 1, 0, 0, 0, 0, [], []), (1, 44, 1, 0, 0, 0, 0, [], []), (2, 54, 3, 39, 0, 0, 0, [5, 6, 253], []), (5, 5, 3, 269, 0, 0, 1000, [695], []), (8, 31, 1, 0, 0, 0, 0, [], []), (9, 55, 3, 39, 0, 0, 0, [5, 6, 253], []), (12, 0, 1, 0, 2, 2, 0, [], []), (13, 11, 1, 0, 0, 0, 0, [], []), (14, 11, 1, 1, 0, 0, 0, [], []), (15, 64, 3, 234, 0, 0, 0, [88, 2, 5, 681, 683, 18, 48, 684], []), (18, 22, 1, 0, 0, 0, 0, [], []), (19, 66, 1, 1, 0, 0, 0, [], [])]
/-- ThawWords.rateAsChilds(LThawWords$Saying;)I -/
def tw_c91 : List (Nat × tw_Op) := [(0, 11, 1, 0, 0, 0, 0, [], []), (1, 44, 1, 0, 0, 0, 0, [], []), (2, 54, 3, 39, 0, 0, 0, [5, 6, 253], []), (5, 5, 3, 271, 0, 0, 10000, [700], []), (8, 31, 1, 0, 0, 0, 0, [], []), (9, 55, 3, 39, 0, 0, 0, [5, 6, 253], []), (12, 11, 1, 0, 0, 0, 0, [], []), (13, 11, 1, 1, 0, 0, 0, [], []), (14, 64, 3, 237, 0, 0, 0, [89, 2, 5, 686, 688, 19, 48, 689], []), (17, 11, 1, 1, 0, 0, 0, [], []), (18, 54, 3, 156, 0, 0, 0, [2, 5, 177], []), (21, 20, 1, 0, 0, 0, 0, [], []), (22, 66, 1, 1, 0, 0, 0, [], [])]
/-- ThawWords.rateAsSworn(LThawWords$Saying;)I -/
def tw_c92 : List (Nat × tw_Op) := [(0, 11, 1, 0, 0, 0, 0, [], []), (1, 44, 1, 0, 0, 0, 0, [], []), (2, 54, 3, 39, 0, 0, 0, [5, 6, 253], []), (5, 5, 3, 273, 0, 0, 100000, [705], []), (8, 31, 1, 0, 0, 0, 0, [], []), (9, 55, 3, 39, 0, 0, 0, [5, 6, 253], []), (12, 11, 1, 0, 0, 0, 0, [], []), (13, 11, 1, 1, 0, 0, 0, [], []), (14, 64, 3, 230, 0, 0, 0, [87, 2, 5, 677, 679, 17, 48, 680], []), (17, 11, 1, 1, 0, 0, 0, [], []), (18, 54, 3, 153, 0, 0, 0, [2, 4, 174], []), (21, 21, 1, 0, 0, 0, 0, [], []), (22, 66, 1, 1, 0, 0, 0, [], [])]
/-- ThawWords.rate(II)I -/
def tw_c93 : List (Nat × tw_Op) := [(0, 11, 1, 0, 0, 0, 0, [], []), (1, 54, 3, 29, 0, 0, 0, [5, 3, 250], []), (4, 7, 1, 2, 0, 0, 0, [], []), (5, 64, 3, 144, 0, 0, 0, [40, 2, 3, 581, 473, 474, 51, 475], []), (8, 17, 1, 3, 0, 0, 0, [], []), (9, 11, 1, 3, 0, 0, 0, [], []), (10, 50, 3, 0, 0, 0, 0, [16], []), (13, 3, 2, 70, 0, (-1000000), 0, [443], []), (15, 66, 1, 1, 0, 0, 0, [], []), (16, 7, 1, 1, 0, 0, 0, [], []), (17, 52, 39, 6, 0, 0, 0, [92], [(0, 56), (1, 62), (2, 68), (3, 74), (4, 80), (5, 86)]), (56, 11, 1, 0, 0, 0, 0, [], []), (57, 11, 1, 3, 0, 0, 0, [], []), (58, 64, 3, 230, 0, 0, 0, [87, 2, 5, 677, 679, 17, 48, 680], []), (61, 66, 1, 1, 0, 0, 0, [], []), (62, 11, 1, 0, 0, 0, 0, [], []), (63, 11, 1, 3, 0, 0, 0, [], []), (64, 64, 3, 234, 0, 0, 0, [88, 2, 5, 681, 683, 18, 48, 684], []), (67, 66, 1, 1, 0, 0, 0, [], []), (68, 11, 1, 0, 0, 0, 0, [], []), (69, 11, 1, 3, 0, 0, 0, [], []), (70, 64, 3, 237, 0, 0, 0, [89, 2, 5, 686, 688, 19, 48, 689], []), (73, 66, 1, 1, 0, 0, 0, [], []), (74, 11, 1, 0, 0, 0, 0, [], []), (75, 11, 1, 3, 0, 0, 0, [], []), (76, 64, 3, 240, 0, 0, 0, [90, 2, 5, 691, 693, 20, 48, 694], []), (79, 66, 1, 1, 0, 0, 0, [], []), (80, 11, 1, 0, 0, 0, 0, [], []), (81, 11, 1, 3, 0, 0, 0, [], []), (82, 64, 3, 243, 0, 0, 0, [91, 2, 5, 696, 698, 21, 48, 699], []), (85, 66, 1, 1, 0, 0, 0, [], []), (86, 11, 1, 0, 0, 0, 0, [], []), (87, 11, 1, 3, 0, 0, 0, [], []), (88, 64, 3, 246, 0, 0, 0, [92, 2, 5, 701, 703, 22, 48, 704], []), (91, 66, 1, 1, 0, 0, 0, [], []), (92, 3, 2, 70, 0, (-1000000), 0, [443], []), (94, 66, 1, 1, 0, 0, 0, [], [])]
/-- ThawWords.imageOf(I)LThawWords$Scene; -/
def tw_c94 : List (Nat × tw_Op) := [(0, 7, 1, 1, 0, 0, 0, [], []), (1, 53, 27, 0, 0, 0, 0, [38], [(0, 28), (1, 33)]), (28, 11, 1, 0, 0, 0, 0, [], []), (29, 54, 3, 33, 0, 0, 0, [5, 4, 251], []), (32, 68, 1, 0, 0, 0, 0, [], []), (33, 11, 1, 0, 0, 0, 0, [], []), (34, 54, 3, 36, 0, 0, 0, [5, 5, 252], []), (37, 68, 1, 0, 0, 0, 0, [], []), (38, 6, 1, 0, 0, 0, 0, [], []), (39, 68, 1, 0, 0, 0, 0, [], [])]
/-- ThawWords$Saying.become(LThawWords$Saying;)V -/
def tw_c95 : List (Nat × tw_Op) := [(0, 11, 1, 1, 0, 0, 0, [], []), (1, 54, 3, 9, 0, 0, 0, [2, 0, 158], []), (4, 11, 1, 0, 0, 0, 0, [], []), (5, 54, 3, 9, 0, 0, 0, [2, 0, 158], []), (8, 74, 3, 37, 0, 0, 0, [29, 2, 17, 422, 48, 423], []), (11, 11, 1, 1, 0, 0, 0, [], []), (12, 54, 3, 15, 0, 0, 0, [2, 1, 162], []), (15, 11, 1, 0, 0, 0, 0, [], []), (16, 54, 3, 15, 0, 0, 0, [2, 1, 162], []), (19, 74, 3, 37, 0, 0, 0, [29, 2, 17, 422, 48, 423], []), (22, 11, 1, 0, 0, 0, 0, [], []), (23, 11, 1, 1, 0, 0, 0, [], []), (24, 54, 3, 18, 0, 0, 0, [2, 2, 165], []), (27, 55, 3, 18, 0, 0, 0, [2, 2, 165], []), (30, 11, 1, 0, 0, 0, 0, [], []), (31, 11, 1, 1, 0, 0, 0, [], []), (32, 54, 3, 22, 0, 0, 0, [2, 3, 169], []), (35, 55, 3, 22, 0, 0, 0, [2, 3, 169], []), (38, 11, 1, 0, 0, 0, 0, [], []), (39, 11, 1, 1, 0, 0, 0, [], []), (40, 54, 3, 25, 0, 0, 0, [2, 4, 172], []), (43, 55, 3, 25, 0, 0, 0, [2, 4, 172], []), (46, 11, 1, 0, 0, 0, 0, [], []), (47, 11, 1, 1, 0, 0, 0, [], []), (48, 54, 3, 28, 0, 0, 0, [2, 5, 175], []), (51, 55, 3, 28, 0, 0, 0, [2, 5, 175], []), (54, 11, 1, 0, 0, 0, 0, [], []), (55, 11, 1, 1, 0, 0, 0, [], []), (56, 54, 3, 31, 0, 0, 0, [2, 6, 178], []), (59, 55, 3, 31, 0, 0, 0, [2, 6, 178], []), (62, 11, 1, 0, 0, 0, 0, [], []), (63, 11, 1, 1, 0, 0, 0, [], []), (64, 54, 3, 34, 0, 0, 0, [2, 7, 181], []), (67, 55, 3, 34, 0, 0, 0, [2, 7, 181], []), (70, 69, 1, 0, 0, 0, 0, [], [])]
/-- ThawWords$Ear.become(LThawWords$Ear;)V -/
def tw_c96 : List (Nat × tw_Op) := [(0, 11, 1, 1, 0, 0, 0, [], []), (1, 54, 3, 9, 0, 0, 0, [1, 0, 206], []), (4, 11, 1, 0, 0, 0, 0, [], []), (5, 54, 3, 9, 0, 0, 0, [1, 0, 206], []), (8, 74, 3, 22, 0, 0, 0, [29, 2, 18, 422, 48, 423], []), (11, 11, 1, 1, 0, 0, 0, [], []), (12, 54, 3, 15, 0, 0, 0, [1, 1, 208], []), (15, 11, 1, 0, 0, 0, 0, [], []), (16, 54, 3, 15, 0, 0, 0, [1, 1, 208], []), (19, 74, 3, 22, 0, 0, 0, [29, 2, 18, 422, 48, 423], []), (22, 11, 1, 0, 0, 0, 0, [], []), (23, 11, 1, 1, 0, 0, 0, [], []), (24, 54, 3, 18, 0, 0, 0, [1, 2, 210], []), (27, 55, 3, 18, 0, 0, 0, [1, 2, 210], []), (30, 69, 1, 0, 0, 0, 0, [], [])]
/-- ThawWords$Scene.become(LThawWords$Scene;)V -/
def tw_c97 : List (Nat × tw_Op) := [(0, 11, 1, 0, 0, 0, 0, [], []), (1, 11, 1, 1, 0, 0, 0, [], []), (2, 54, 3, 31, 0, 0, 0, [3, 4, 226], []), (5, 55, 3, 31, 0, 0, 0, [3, 4, 226], []), (8, 11, 1, 0, 0, 0, 0, [], []), (9, 11, 1, 1, 0, 0, 0, [], []), (10, 54, 3, 34, 0, 0, 0, [3, 5, 228], []), (13, 55, 3, 34, 0, 0, 0, [3, 5, 228], []), (16, 11, 1, 0, 0, 0, 0, [], []), (17, 11, 1, 1, 0, 0, 0, [], []), (18, 54, 3, 27, 0, 0, 0, [3, 3, 224], []), (21, 55, 3, 27, 0, 0, 0, [3, 3, 224], []), (24, 11, 1, 1, 0, 0, 0, [], []), (25, 54, 3, 23, 0, 0, 0, [3, 2, 222], []), (28, 11, 1, 0, 0, 0, 0, [], []), (29, 54, 3, 23, 0, 0, 0, [3, 2, 222], []), (32, 74, 3, 63, 0, 0, 0, [29, 2, 16, 422, 48, 423], []), (35, 0, 1, 0, 0, 0, 0, [], []), (36, 13, 1, 2, 0, 0, 0, [], []), (37, 7, 1, 2, 0, 0, 0, [], []), (38, 11, 1, 0, 0, 0, 0, [], []), (39, 54, 3, 11, 0, 0, 0, [3, 0, 220], []), (42, 61, 1, 0, 0, 0, 0, [], []), (43, 48, 3, 3, 0, 0, 0, [81], []), (46, 11, 1, 0, 0, 0, 0, [], []), (47, 54, 3, 11, 0, 0, 0, [3, 0, 220], []), (50, 7, 1, 2, 0, 0, 0, [], []), (51, 60, 1, 0, 0, 0, 0, [], []), (52, 17, 1, 3, 0, 0, 0, [], []), (53, 11, 1, 1, 0, 0, 0, [], []), (54, 7, 1, 2, 0, 0, 0, [], []), (55, 64, 3, 67, 0, 0, 0, [40, 2, 3, 472, 473, 474, 51, 475], []), (58, 18, 2, 4, 0, 0, 0, [], []), (60, 11, 1, 3, 0, 0, 0, [], []), (61, 49, 3, 0, 0, 0, 0, [75], []), (64, 12, 2, 4, 0, 0, 0, [], []), (66, 49, 3, 0, 0, 0, 0, [75], []), (69, 11, 1, 3, 0, 0, 0, [], []), (70, 12, 2, 4, 0, 0, 0, [], []), (72, 64, 3, 71, 0, 0, 0, [95, 2, 2, 719, 720, 721, 52, 722], []), (75, 19, 3, 2, 1, 1, 0, [], []), (78, 51, 3, 0, 0, 0, 0, [37], []), (81, 0, 1, 0, 0, 0, 0, [], []), (82, 13, 1, 2, 0, 0, 0, [], []), (83, 7, 1, 2, 0, 0, 0, [], []), (84, 11, 1, 0, 0, 0, 0, [], []), (85, 54, 3, 19, 0, 0, 0, [3, 1, 221], []), (88, 61, 1, 0, 0, 0, 0, [], []), (89, 48, 3, 3, 0, 0, 0, [127], []), (92, 11, 1, 0, 0, 0, 0, [], []), (93, 54, 3, 19, 0, 0, 0, [3, 1, 221], []), (96, 7, 1, 2, 0, 0, 0, [], []), (97, 60, 1, 0, 0, 0, 0, [], []), (98, 17, 1, 3, 0, 0, 0, [], []), (99, 11, 1, 1, 0, 0, 0, [], []), (100, 7, 1, 2, 0, 0, 0, [], []), (101, 64, 3, 75, 0, 0, 0, [49, 2, 3, 546, 512, 513, 51, 514], []), (104, 18, 2, 4, 0, 0, 0, [], []), (106, 11, 1, 3, 0, 0, 0, [], []), (107, 49, 3, 0, 0, 0, 0, [121], []), (110, 12, 2, 4, 0, 0, 0, [], []), (112, 49, 3, 0, 0, 0, 0, [121], []), (115, 11, 1, 3, 0, 0, 0, [], []), (116, 12, 2, 4, 0, 0, 0, [], []), (118, 64, 3, 79, 0, 0, 0, [96, 2, 1, 724, 725, 726, 53, 727], []), (121, 19, 3, 2, 1, 1, 0, [], []), (124, 51, 3, 0, 0, 0, 0, [83], []), (127, 69, 1, 0, 0, 0, 0, [], [])]
/-- ThawWords.keep(I)I -/
def tw_c98 : List (Nat × tw_Op) := [(0, 11, 1, 0, 0, 0, 0, [], []), (1, 7, 1, 1, 0, 0, 0, [], []), (2, 64, 3, 249, 0, 0, 0, [94, 2, 5, 710, 712, 23, 48, 713], []), (5, 17, 1, 2, 0, 0, 0, [], []), (6, 11, 1, 2, 0, 0, 0, [], []), (7, 50, 3, 0, 0, 0, 0, [12], []), (10, 0, 1, 0, (-1), (-1), 0, [], []), (11, 66, 1, 1, 0, 0, 0, [], []), (12, 11, 1, 2, 0, 0, 0, [], []), (13, 11, 1, 0, 0, 0, 0, [], []), (14, 54, 3, 29, 0, 0, 0, [5, 3, 250], []), (17, 64, 3, 253, 0, 0, 0, [97, 2, 3, 714, 715, 716, 51, 717], []), (20, 11, 1, 2, 0, 0, 0, [], []), (21, 0, 1, 0, 1, 1, 0, [], []), (22, 55, 3, 62, 0, 0, 0, [3, 6, 231], []), (25, 11, 1, 0, 0, 0, 0, [], []), (26, 54, 3, 29, 0, 0, 0, [5, 3, 250], []), (29, 54, 3, 79, 0, 0, 0, [3, 4, 227], []), (32, 66, 1, 1, 0, 0, 0, [], [])]
/-- ThawWords.back(I)I -/
def tw_c99 : List (Nat × tw_Op) := [(0, 11, 1, 0, 0, 0, 0, [], []), (1, 7, 1, 1, 0, 0, 0, [], []), (2, 64, 3, 249, 0, 0, 0, [94, 2, 5, 710, 712, 23, 48, 713], []), (5, 17, 1, 2, 0, 0, 0, [], []), (6, 11, 1, 2, 0, 0, 0, [], []), (7, 50, 3, 0, 0, 0, 0, [12], []), (10, 0, 1, 0, (-1), (-1), 0, [], []), (11, 66, 1, 1, 0, 0, 0, [], []), (12, 11, 1, 2, 0, 0, 0, [], []), (13, 54, 3, 62, 0, 0, 0, [3, 6, 231], []), (16, 47, 3, 1, 0, 0, 0, [22], []), (19, 1, 2, 0, (-2), (-2), 0, [], []), (21, 66, 1, 1, 0, 0, 0, [], []), (22, 11, 1, 0, 0, 0, 0, [], []), (23, 54, 3, 29, 0, 0, 0, [5, 3, 250], []), (26, 11, 1, 2, 0, 0, 0, [], []), (27, 64, 3, 253, 0, 0, 0, [97, 2, 3, 714, 715, 716, 51, 717], []), (30, 11, 1, 0, 0, 0, 0, [], []), (31, 54, 3, 29, 0, 0, 0, [5, 3, 250], []), (34, 54, 3, 79, 0, 0, 0, [3, 4, 227], []), (37, 66, 1, 1, 0, 0, 0, [], [])]
/-- ThawWords.count(I)I -/
def tw_c100 : List (Nat × tw_Op) := [(0, 7, 1, 1, 0, 0, 0, [], []), (1, 52, 35, 5, 0, 0, 0, [76], [(0, 36), (1, 44), (2, 52), (3, 60), (4, 68)]), (36, 11, 1, 0, 0, 0, 0, [], []), (37, 54, 3, 19, 0, 0, 0, [5, 1, 248], []), (40, 54, 3, 256, 0, 0, 0, [0, 5, 114], []), (43, 66, 1, 1, 0, 0, 0, [], []), (44, 11, 1, 0, 0, 0, 0, [], []), (45, 54, 3, 19, 0, 0, 0, [5, 1, 248], []), (48, 54, 3, 259, 0, 0, 0, [0, 6, 117], []), (51, 66, 1, 1, 0, 0, 0, [], []), (52, 11, 1, 0, 0, 0, 0, [], []), (53, 54, 3, 19, 0, 0, 0, [5, 1, 248], []), (56, 54, 3, 262, 0, 0, 0, [0, 7, 120], []), (59, 66, 1, 1, 0, 0, 0, [], []), (60, 11, 1, 0, 0, 0, 0, [], []), (61, 54, 3, 19, 0, 0, 0, [5, 1, 248], []), (64, 54, 3, 211, 0, 0, 0, [0, 8, 123], []), (67, 66, 1, 1, 0, 0, 0, [], []), (68, 11, 1, 0, 0, 0, 0, [], []), (69, 54, 3, 10, 0, 0, 0, [5, 0, 247], []), (72, 54, 3, 43, 0, 0, 0, [4, 1, 76], []), (75, 66, 1, 1, 0, 0, 0, [], []), (76, 0, 1, 0, (-1), (-1), 0, [], []), (77, 66, 1, 1, 0, 0, 0, [], [])]
/-- ThawWords.trace()J -/
def tw_c101 : List (Nat × tw_Op) := [(0, 11, 1, 0, 0, 0, 0, [], []), (1, 54, 3, 39, 0, 0, 0, [5, 6, 253], []), (4, 67, 1, 0, 0, 0, 0, [], [])]
/-- ThawWordsModel.begins()V -/
def tw_c102 : List (Nat × tw_Op) := [(0, 0, 1, 0, 0, 0, 0, [], []), (1, 13, 1, 1, 0, 0, 0, [], []), (2, 7, 1, 1, 0, 0, 0, [], []), (3, 2, 3, 0, 363, 363, 0, [], []), (6, 48, 3, 3, 0, 0, 0, [22], []), (9, 11, 1, 0, 0, 0, 0, [], []), (10, 54, 3, 28, 0, 0, 0, [6, 22, 773], []), (13, 7, 1, 1, 0, 0, 0, [], []), (14, 0, 1, 0, 0, 0, 0, [], []), (15, 57, 1, 0, 0, 0, 0, [], []), (16, 19, 3, 1, 1, 1, 0, [], []), (19, 51, 3, 0, 0, 0, 0, [2], []), (22, 0, 1, 0, 0, 0, 0, [], []), (23, 13, 1, 1, 0, 0, 0, [], []), (24, 7, 1, 1, 0, 0, 0, [], []), (25, 11, 1, 0, 0, 0, 0, [], []), (26, 54, 3, 131, 0, 0, 0, [6, 17, 768], []), (29, 48, 3, 3, 0, 0, 0, [52], []), (32, 11, 1, 0, 0, 0, 0, [], []), (33, 54, 3, 28, 0, 0, 0, [6, 22, 773], []), (36, 0, 1, 0, 3, 3, 0, [], []), (37, 7, 1, 1, 0, 0, 0, [], []), (38, 20, 1, 0, 0, 0, 0, [], []), (39, 11, 1, 0, 0, 0, 0, [], []), (40, 54, 3, 25, 0, 0, 0, [6, 13, 764], []), (43, 7, 1, 1, 0, 0, 0, [], []), (44, 56, 1, 0, 0, 0, 0, [], []), (45, 57, 1, 0, 0, 0, 0, [], []), (46, 19, 3, 1, 1, 1, 0, [], []), (49, 51, 3, 0, 0, 0, 0, [24], []), (52, 69, 1, 0, 0, 0, 0, [], [])]
/-- ThawWordsModel.in(III)Z -/
def tw_c103 : List (Nat × tw_Op) := [(0, 7, 1, 0, 0, 0, 0, [], []), (1, 7, 1, 1, 0, 0, 0, [], []), (2, 48, 3, 2, 0, 0, 0, [14], []), (5, 7, 1, 0, 0, 0, 0, [], []), (6, 7, 1, 2, 0, 0, 0, [], []), (7, 48, 3, 4, 0, 0, 0, [14], []), (10, 0, 1, 0, 1, 1, 0, [], []), (11, 51, 3, 0, 0, 0, 0, [15], []), (14, 0, 1, 0, 0, 0, 0, [], []), (15, 75, 1, 3, 0, 0, 0, [], [])]
/-- ThawWordsModel.type(JI)I -/
def tw_c104 : List (Nat × tw_Op) := [(0, 11, 1, 0, 0, 0, 0, [], []), (1, 0, 1, 0, 0, 0, 0, [], []), (2, 55, 3, 41, 0, 0, 0, [6, 0, 751], []), (5, 7, 1, 3, 0, 0, 0, [], []), (6, 0, 1, 0, 1, 1, 0, [], []), (7, 1, 2, 0, 8, 8, 0, [], []), (9, 65, 3, 45, 0, 0, 0, [103, 3, 0, 832, 833, 54, 834], []), (12, 47, 3, 1, 0, 0, 0, [17], []), (15, 0, 1, 0, (-1), (-1), 0, [], []), (16, 66, 1, 1, 0, 0, 0, [], []), (17, 11, 1, 0, 0, 0, 0, [], []), (18, 54, 3, 49, 0, 0, 0, [6, 3, 754], []), (21, 7, 1, 3, 0, 0, 0, [], []), (22, 20, 1, 0, 0, 0, 0, [], []), (23, 2, 3, 0, 300, 300, 0, [], []), (26, 48, 3, 5, 0, 0, 0, [32], []), (29, 1, 2, 0, (-3), (-3), 0, [], []), (31, 66, 1, 1, 0, 0, 0, [], []), (32, 7, 1, 3, 0, 0, 0, [], []), (33, 0, 1, 0, 1, 1, 0, [], []), (34, 21, 1, 0, 0, 0, 0, [], []), (35, 14, 2, 4, 0, 0, 0, [], []), (37, 8, 2, 4, 0, 0, 0, [], []), (39, 47, 3, 2, 0, 0, 0, [79], []), (42, 11, 1, 0, 0, 0, 0, [], []), (43, 54, 3, 7, 0, 0, 0, [6, 2, 753], []), (46, 11, 1, 0, 0, 0, 0, [], []), (47, 54, 3, 49, 0, 0, 0, [6, 3, 754], []), (50, 9, 1, 1, 0, 0, 0, [], []), (51, 1, 2, 0, 8, 8, 0, [], []), (53, 8, 2, 4, 0, 0, 0, [], []), (55, 22, 1, 0, 0, 0, 0, [], []), (56, 39, 1, 0, 0, 0, 0, [], []), (57, 5, 3, 52, 0, 0, 255, [835], []), (60, 36, 1, 0, 0, 0, 0, [], []), (61, 42, 1, 0, 0, 0, 0, [], []), (62, 57, 1, 0, 0, 0, 0, [], []), (63, 11, 1, 0, 0, 0, 0, [], []), (64, 44, 1, 0, 0, 0, 0, [], []), (65, 54, 3, 49, 0, 0, 0, [6, 3, 754], []), (68, 0, 1, 0, 1, 1, 0, [], []), (69, 20, 1, 0, 0, 0, 0, [], []), (70, 55, 3, 49, 0, 0, 0, [6, 3, 754], []), (73, 19, 3, 4, (-1), (-1), 0, [], []), (76, 51, 3, 0, 0, 0, 0, [37], []), (79, 11, 1, 0, 0, 0, 0, [], []), (80, 54, 3, 49, 0, 0, 0, [6, 3, 754], []), (83, 66, 1, 1, 0, 0, 0, [], [])]
/-- ThawWordsModel.clear()I -/
def tw_c105 : List (Nat × tw_Op) := [(0, 11, 1, 0, 0, 0, 0, [], []), (1, 0, 1, 0, 0, 0, 0, [], []), (2, 55, 3, 41, 0, 0, 0, [6, 0, 751], []), (5, 11, 1, 0, 0, 0, 0, [], []), (6, 54, 3, 49, 0, 0, 0, [6, 3, 754], []), (9, 13, 1, 1, 0, 0, 0, [], []), (10, 11, 1, 0, 0, 0, 0, [], []), (11, 0, 1, 0, 0, 0, 0, [], []), (12, 55, 3, 49, 0, 0, 0, [6, 3, 754], []), (15, 7, 1, 1, 0, 0, 0, [], []), (16, 66, 1, 1, 0, 0, 0, [], [])]
/-- ThawWordsModel.byteAt(I)I -/
def tw_c106 : List (Nat × tw_Op) := [(0, 7, 1, 1, 0, 0, 0, [], []), (1, 11, 1, 0, 0, 0, 0, [], []), (2, 54, 3, 49, 0, 0, 0, [6, 3, 754], []), (5, 48, 3, 3, 0, 0, 0, [17], []), (8, 11, 1, 0, 0, 0, 0, [], []), (9, 54, 3, 7, 0, 0, 0, [6, 2, 753], []), (12, 7, 1, 1, 0, 0, 0, [], []), (13, 56, 1, 0, 0, 0, 0, [], []), (14, 51, 3, 0, 0, 0, 0, [18], []), (17, 0, 1, 0, (-1), (-1), 0, [], []), (18, 66, 1, 1, 0, 0, 0, [], [])]
/-- ThawWordsModel.add(JI)J -/
def tw_c107 : List (Nat × tw_Op) := [(0, 7, 1, 2, 0, 0, 0, [], []), (1, 47, 3, 1, 0, 0, 0, [8], []), (4, 9, 1, 0, 0, 0, 0, [], []), (5, 51, 3, 0, 0, 0, 0, [16], []), (8, 5, 3, 54, 0, 0, 256, [855], []), (11, 9, 1, 0, 0, 0, 0, [], []), (12, 33, 1, 0, 0, 0, 0, [], []), (13, 7, 1, 2, 0, 0, 0, [], []), (14, 41, 1, 0, 0, 0, 0, [], []), (15, 31, 1, 0, 0, 0, 0, [], []), (16, 67, 1, 0, 0, 0, 0, [], [])]
/-- ThawWordsModel.named(IIIIII)J -/
def tw_c108 : List (Nat × tw_Op) := [(0, 4, 1, 0, 0, 0, 0, [], []), (1, 7, 1, 0, 0, 0, 0, [], []), (2, 65, 3, 56, 0, 0, 0, [107, 2, 0, 852, 853, 54, 854], []), (5, 7, 1, 1, 0, 0, 0, [], []), (6, 65, 3, 56, 0, 0, 0, [107, 2, 0, 852, 853, 54, 854], []), (9, 7, 1, 2, 0, 0, 0, [], []), (10, 65, 3, 56, 0, 0, 0, [107, 2, 0, 852, 853, 54, 854], []), (13, 7, 1, 3, 0, 0, 0, [], []), (14, 65, 3, 56, 0, 0, 0, [107, 2, 0, 852, 853, 54, 854], []), (17, 8, 2, 4, 0, 0, 0, [], []), (19, 65, 3, 56, 0, 0, 0, [107, 2, 0, 852, 853, 54, 854], []), (22, 8, 2, 5, 0, 0, 0, [], []), (24, 65, 3, 56, 0, 0, 0, [107, 2, 0, 852, 853, 54, 854], []), (27, 67, 1, 0, 0, 0, 0, [], [])]
/-- ThawWordsModel.wordOf(J)I -/
def tw_c109 : List (Nat × tw_Op) := [(0, 9, 1, 0, 0, 0, 0, [], []), (1, 1, 2, 0, 112, 112, 0, [], []), (3, 1, 2, 0, 108, 108, 0, [], []), (5, 1, 2, 0, 97, 97, 0, [], []), (7, 1, 2, 0, 99, 99, 0, [], []), (9, 1, 2, 0, 101, 101, 0, [], []), (11, 0, 1, 0, 0, 0, 0, [], []), (12, 65, 3, 60, 0, 0, 0, [108, 6, 0, 859, 860, 54, 861], []), (15, 40, 1, 0, 0, 0, 0, [], []), (16, 47, 3, 1, 0, 0, 0, [23], []), (19, 0, 1, 0, 0, 0, 0, [], []), (20, 51, 3, 0, 0, 0, 0, [70], []), (23, 9, 1, 0, 0, 0, 0, [], []), (24, 1, 2, 0, 102, 102, 0, [], []), (26, 1, 2, 0, 114, 114, 0, [], []), (28, 1, 2, 0, 111, 111, 0, [], []), (30, 1, 2, 0, 115, 115, 0, [], []), (32, 1, 2, 0, 116, 116, 0, [], []), (34, 0, 1, 0, 0, 0, 0, [], []), (35, 65, 3, 60, 0, 0, 0, [108, 6, 0, 859, 860, 54, 861], []), (38, 40, 1, 0, 0, 0, 0, [], []), (39, 47, 3, 1, 0, 0, 0, [46], []), (42, 0, 1, 0, 1, 1, 0, [], []), (43, 51, 3, 0, 0, 0, 0, [70], []), (46, 9, 1, 0, 0, 0, 0, [], []), (47, 1, 2, 0, 119, 119, 0, [], []), (49, 1, 2, 0, 97, 97, 0, [], []), (51, 1, 2, 0, 114, 114, 0, [], []), (53, 1, 2, 0, 109, 109, 0, [], []), (55, 0, 1, 0, 0, 0, 0, [], []), (56, 0, 1, 0, 0, 0, 0, [], []), (57, 65, 3, 60, 0, 0, 0, [108, 6, 0, 859, 860, 54, 861], []), (60, 40, 1, 0, 0, 0, 0, [], []), (61, 47, 3, 1, 0, 0, 0, [68], []), (64, 0, 1, 0, 2, 2, 0, [], []), (65, 51, 3, 0, 0, 0, 0, [70], []), (68, 1, 2, 0, (-9), (-9), 0, [], []), (70, 13, 1, 2, 0, 0, 0, [], []), (71, 7, 1, 2, 0, 0, 0, [], []), (72, 1, 2, 0, (-9), (-9), 0, [], []), (74, 48, 3, 0, 0, 0, 0, [79], []), (77, 7, 1, 2, 0, 0, 0, [], []), (78, 66, 1, 1, 0, 0, 0, [], []), (79, 9, 1, 0, 0, 0, 0, [], []), (80, 1, 2, 0, 99, 99, 0, [], []), (82, 1, 2, 0, 111, 111, 0, [], []), (84, 1, 2, 0, 108, 108, 0, [], []), (86, 1, 2, 0, 100, 100, 0, [], []), (88, 0, 1, 0, 0, 0, 0, [], []), (89, 0, 1, 0, 0, 0, 0, [], []), (90, 65, 3, 60, 0, 0, 0, [108, 6, 0, 859, 860, 54, 861], []), (93, 40, 1, 0, 0, 0, 0, [], []), (94, 47, 3, 1, 0, 0, 0, [101], []), (97, 0, 1, 0, 3, 3, 0, [], []), (98, 51, 3, 0, 0, 0, 0, [150], []), (101, 9, 1, 0, 0, 0, 0, [], []), (102, 1, 2, 0, 115, 115, 0, [], []), (104, 1, 2, 0, 111, 111, 0, [], []), (106, 1, 2, 0, 117, 117, 0, [], []), (108, 1, 2, 0, 110, 110, 0, [], []), (110, 1, 2, 0, 100, 100, 0, [], []), (112, 0, 1, 0, 0, 0, 0, [], []), (113, 65, 3, 60, 0, 0, 0, [108, 6, 0, 859, 860, 54, 861], []), (116, 40, 1, 0, 0, 0, 0, [], []), (117, 47, 3, 1, 0, 0, 0, [124], []), (120, 0, 1, 0, 4, 4, 0, [], []), (121, 51, 3, 0, 0, 0, 0, [150], []), (124, 9, 1, 0, 0, 0, 0, [], []), (125, 1, 2, 0, 112, 112, 0, [], []), (127, 1, 2, 0, 101, 101, 0, [], []), (129, 1, 2, 0, 114, 114, 0, [], []), (131, 1, 2, 0, 115, 115, 0, [], []), (133, 1, 2, 0, 111, 111, 0, [], []), (135, 1, 2, 0, 110, 110, 0, [], []), (137, 65, 3, 60, 0, 0, 0, [108, 6, 0, 859, 860, 54, 861], []), (140, 40, 1, 0, 0, 0, 0, [], []), (141, 47, 3, 1, 0, 0, 0, [148], []), (144, 0, 1, 0, 5, 5, 0, [], []), (145, 51, 3, 0, 0, 0, 0, [150], []), (148, 1, 2, 0, (-9), (-9), 0, [], []), (150, 66, 1, 1, 0, 0, 0, [], [])]
/-- ThawWordsModel.advances()V -/
def tw_c110 : List (Nat × tw_Op) := [(0, 11, 1, 0, 0, 0, 0, [], []), (1, 11, 1, 0, 0, 0, 0, [], []), (2, 54, 3, 64, 0, 0, 0, [6, 4, 755], []), (5, 64, 3, 67, 0, 0, 0, [106, 2, 6, 848, 850, 26, 54, 851], []), (8, 1, 2, 0, 32, 32, 0, [], []), (10, 48, 3, 1, 0, 0, 0, [26], []), (13, 11, 1, 0, 0, 0, 0, [], []), (14, 44, 1, 0, 0, 0, 0, [], []), (15, 54, 3, 64, 0, 0, 0, [6, 4, 755], []), (18, 0, 1, 0, 1, 1, 0, [], []), (19, 20, 1, 0, 0, 0, 0, [], []), (20, 55, 3, 64, 0, 0, 0, [6, 4, 755], []), (23, 51, 3, 0, 0, 0, 0, [0], []), (26, 11, 1, 0, 0, 0, 0, [], []), (27, 11, 1, 0, 0, 0, 0, [], []), (28, 54, 3, 64, 0, 0, 0, [6, 4, 755], []), (31, 55, 3, 71, 0, 0, 0, [6, 6, 757], []), (34, 11, 1, 0, 0, 0, 0, [], []), (35, 11, 1, 0, 0, 0, 0, [], []), (36, 54, 3, 64, 0, 0, 0, [6, 4, 755], []), (39, 64, 3, 67, 0, 0, 0, [106, 2, 6, 848, 850, 26, 54, 851], []), (42, 13, 1, 1, 0, 0, 0, [], []), (43, 7, 1, 1, 0, 0, 0, [], []), (44, 47, 3, 3, 0, 0, 0, [55], []), (47, 11, 1, 0, 0, 0, 0, [], []), (48, 0, 1, 0, 0, 0, 0, [], []), (49, 55, 3, 74, 0, 0, 0, [6, 5, 756], []), (52, 51, 3, 0, 0, 0, 0, [310], []), (55, 7, 1, 1, 0, 0, 0, [], []), (56, 1, 2, 0, 97, 97, 0, [], []), (58, 1, 2, 0, 122, 122, 0, [], []), (60, 65, 3, 45, 0, 0, 0, [103, 3, 0, 832, 833, 54, 834], []), (63, 47, 3, 0, 0, 0, 0, [159], []), (66, 4, 1, 0, 0, 0, 0, [], []), (67, 15, 1, 2, 0, 0, 0, [], []), (68, 11, 1, 0, 0, 0, 0, [], []), (69, 11, 1, 0, 0, 0, 0, [], []), (70, 54, 3, 64, 0, 0, 0, [6, 4, 755], []), (73, 64, 3, 67, 0, 0, 0, [106, 2, 6, 848, 850, 26, 54, 851], []), (76, 1, 2, 0, 97, 97, 0, [], []), (78, 1, 2, 0, 122, 122, 0, [], []), (80, 65, 3, 45, 0, 0, 0, [103, 3, 0, 832, 833, 54, 834], []), (83, 47, 3, 0, 0, 0, 0, [130], []), (86, 11, 1, 0, 0, 0, 0, [], []), (87, 54, 3, 64, 0, 0, 0, [6, 4, 755], []), (90, 11, 1, 0, 0, 0, 0, [], []), (91, 54, 3, 71, 0, 0, 0, [6, 6, 757], []), (94, 21, 1, 0, 0, 0, 0, [], []), (95, 1, 2, 0, 7, 7, 0, [], []), (97, 48, 3, 3, 0, 0, 0, [115], []), (100, 9, 1, 2, 0, 0, 0, [], []), (101, 11, 1, 0, 0, 0, 0, [], []), (102, 11, 1, 0, 0, 0, 0, [], []), (103, 54, 3, 64, 0, 0, 0, [6, 4, 755], []), (106, 64, 3, 67, 0, 0, 0, [106, 2, 6, 848, 850, 26, 54, 851], []), (109, 65, 3, 56, 0, 0, 0, [107, 2, 0, 852, 853, 54, 854], []), (112, 51, 3, 0, 0, 0, 0, [116], []), (115, 9, 1, 2, 0, 0, 0, [], []), (116, 15, 1, 2, 0, 0, 0, [], []), (117, 11, 1, 0, 0, 0, 0, [], []), (118, 44, 1, 0, 0, 0, 0, [], []), (119, 54, 3, 64, 0, 0, 0, [6, 4, 755], []), (122, 0, 1, 0, 1, 1, 0, [], []), (123, 20, 1, 0, 0, 0, 0, [], []), (124, 55, 3, 64, 0, 0, 0, [6, 4, 755], []), (127, 51, 3, 0, 0, 0, 0, [68], []), (130, 11, 1, 0, 0, 0, 0, [], []), (131, 9, 1, 2, 0, 0, 0, [], []), (132, 65, 3, 77, 0, 0, 0, [109, 1, 0, 856, 857, 54, 858], []), (135, 55, 3, 81, 0, 0, 0, [6, 7, 758], []), (138, 11, 1, 0, 0, 0, 0, [], []), (139, 11, 1, 0, 0, 0, 0, [], []), (140, 54, 3, 81, 0, 0, 0, [6, 7, 758], []), (143, 1, 2, 0, (-9), (-9), 0, [], []), (145, 48, 3, 1, 0, 0, 0, [152], []), (148, 0, 1, 0, 4, 4, 0, [], []), (149, 51, 3, 0, 0, 0, 0, [153], []), (152, 0, 1, 0, 1, 1, 0, [], []), (153, 55, 3, 74, 0, 0, 0, [6, 5, 756], []), (156, 51, 3, 0, 0, 0, 0, [310], []), (159, 7, 1, 1, 0, 0, 0, [], []), (160, 1, 2, 0, 48, 48, 0, [], []), (162, 1, 2, 0, 57, 57, 0, [], []), (164, 65, 3, 45, 0, 0, 0, [103, 3, 0, 832, 833, 54, 834], []), (167, 47, 3, 0, 0, 0, 0, [285], []), (170, 11, 1, 0, 0, 0, 0, [], []), (171, 0, 1, 0, 0, 0, 0, [], []), (172, 55, 3, 81, 0, 0, 0, [6, 7, 758], []), (175, 11, 1, 0, 0, 0, 0, [], []), (176, 11, 1, 0, 0, 0, 0, [], []), (177, 54, 3, 64, 0, 0, 0, [6, 4, 755], []), (180, 64, 3, 67, 0, 0, 0, [106, 2, 6, 848, 850, 26, 54, 851], []), (183, 1, 2, 0, 48, 48, 0, [], []), (185, 1, 2, 0, 57, 57, 0, [], []), (187, 65, 3, 45, 0, 0, 0, [103, 3, 0, 832, 833, 54, 834], []), (190, 47, 3, 0, 0, 0, 0, [245], []), (193, 11, 1, 0, 0, 0, 0, [], []), (194, 11, 1, 0, 0, 0, 0, [], []), (195, 54, 3, 81, 0, 0, 0, [6, 7, 758], []), (198, 1, 2, 0, 99, 99, 0, [], []), (200, 48, 3, 5, 0, 0, 0, [210], []), (203, 11, 1, 0, 0, 0, 0, [], []), (204, 54, 3, 81, 0, 0, 0, [6, 7, 758], []), (207, 51, 3, 0, 0, 0, 0, [229], []), (210, 1, 2, 0, 10, 10, 0, [], []), (212, 11, 1, 0, 0, 0, 0, [], []), (213, 54, 3, 81, 0, 0, 0, [6, 7, 758], []), (216, 22, 1, 0, 0, 0, 0, [], []), (217, 11, 1, 0, 0, 0, 0, [], []), (218, 11, 1, 0, 0, 0, 0, [], []), (219, 54, 3, 64, 0, 0, 0, [6, 4, 755], []), (222, 64, 3, 67, 0, 0, 0, [106, 2, 6, 848, 850, 26, 54, 851], []), (225, 20, 1, 0, 0, 0, 0, [], []), (226, 1, 2, 0, 48, 48, 0, [], []), (228, 21, 1, 0, 0, 0, 0, [], []), (229, 55, 3, 81, 0, 0, 0, [6, 7, 758], []), (232, 11, 1, 0, 0, 0, 0, [], []), (233, 44, 1, 0, 0, 0, 0, [], []), (234, 54, 3, 64, 0, 0, 0, [6, 4, 755], []), (237, 0, 1, 0, 1, 1, 0, [], []), (238, 20, 1, 0, 0, 0, 0, [], []), (239, 55, 3, 64, 0, 0, 0, [6, 4, 755], []), (242, 51, 3, 0, 0, 0, 0, [175], []), (245, 11, 1, 0, 0, 0, 0, [], []), (246, 11, 1, 0, 0, 0, 0, [], []), (247, 54, 3, 81, 0, 0, 0, [6, 7, 758], []), (250, 1, 2, 0, 99, 99, 0, [], []), (252, 48, 3, 4, 0, 0, 0, [274], []), (255, 7, 1, 1, 0, 0, 0, [], []), (256, 1, 2, 0, 48, 48, 0, [], []), (258, 48, 3, 1, 0, 0, 0, [278], []), (261, 11, 1, 0, 0, 0, 0, [], []), (262, 54, 3, 64, 0, 0, 0, [6, 4, 755], []), (265, 11, 1, 0, 0, 0, 0, [], []), (266, 54, 3, 71, 0, 0, 0, [6, 6, 757], []), (269, 21, 1, 0, 0, 0, 0, [], []), (270, 0, 1, 0, 1, 1, 0, [], []), (271, 48, 3, 5, 0, 0, 0, [278], []), (274, 0, 1, 0, 4, 4, 0, [], []), (275, 51, 3, 0, 0, 0, 0, [279], []), (278, 0, 1, 0, 2, 2, 0, [], []), (279, 55, 3, 74, 0, 0, 0, [6, 5, 756], []), (282, 51, 3, 0, 0, 0, 0, [310], []), (285, 11, 1, 0, 0, 0, 0, [], []), (286, 44, 1, 0, 0, 0, 0, [], []), (287, 54, 3, 64, 0, 0, 0, [6, 4, 755], []), (290, 0, 1, 0, 1, 1, 0, [], []), (291, 20, 1, 0, 0, 0, 0, [], []), (292, 55, 3, 64, 0, 0, 0, [6, 4, 755], []), (295, 11, 1, 0, 0, 0, 0, [], []), (296, 7, 1, 1, 0, 0, 0, [], []), (297, 1, 2, 0, 59, 59, 0, [], []), (299, 48, 3, 1, 0, 0, 0, [306], []), (302, 0, 1, 0, 3, 3, 0, [], []), (303, 51, 3, 0, 0, 0, 0, [307], []), (306, 0, 1, 0, 4, 4, 0, [], []), (307, 55, 3, 74, 0, 0, 0, [6, 5, 756], []), (310, 69, 1, 0, 0, 0, 0, [], [])]
/-- ThawWordsModel.isWell()Z -/
def tw_c111 : List (Nat × tw_Op) := [(0, 11, 1, 0, 0, 0, 0, [], []), (1, 54, 3, 84, 0, 0, 0, [6, 8, 759], []), (4, 47, 3, 3, 0, 0, 0, [11], []), (7, 0, 1, 0, 1, 1, 0, [], []), (8, 51, 3, 0, 0, 0, 0, [12], []), (11, 0, 1, 0, 0, 0, 0, [], []), (12, 75, 1, 3, 0, 0, 0, [], [])]
/-- ThawWordsModel.mayBegin(I)Z -/
def tw_c112 : List (Nat × tw_Op) := [(0, 7, 1, 1, 0, 0, 0, [], []), (1, 47, 3, 1, 0, 0, 0, [18], []), (4, 11, 1, 0, 0, 0, 0, [], []), (5, 54, 3, 98, 0, 0, 0, [6, 18, 769], []), (8, 0, 1, 0, 4, 4, 0, [], []), (9, 48, 3, 3, 0, 0, 0, [16], []), (12, 0, 1, 0, 1, 1, 0, [], []), (13, 51, 3, 0, 0, 0, 0, [17], []), (16, 0, 1, 0, 0, 0, 0, [], []), (17, 75, 1, 3, 0, 0, 0, [], []), (18, 7, 1, 1, 0, 0, 0, [], []), (19, 0, 1, 0, 5, 5, 0, [], []), (20, 48, 3, 1, 0, 0, 0, [39], []), (23, 11, 1, 0, 0, 0, 0, [], []), (24, 54, 3, 101, 0, 0, 0, [6, 21, 772], []), (27, 0, 1, 0, 4, 4, 0, [], []), (28, 48, 3, 3, 0, 0, 0, [35], []), (31, 0, 1, 0, 1, 1, 0, [], []), (32, 51, 3, 0, 0, 0, 0, [66], []), (35, 0, 1, 0, 0, 0, 0, [], []), (36, 51, 3, 0, 0, 0, 0, [66], []), (39, 7, 1, 1, 0, 0, 0, [], []), (40, 0, 1, 0, 3, 3, 0, [], []), (41, 48, 3, 0, 0, 0, 0, [49], []), (44, 7, 1, 1, 0, 0, 0, [], []), (45, 0, 1, 0, 4, 4, 0, [], []), (46, 48, 3, 1, 0, 0, 0, [65], []), (49, 11, 1, 0, 0, 0, 0, [], []), (50, 54, 3, 104, 0, 0, 0, [6, 20, 771], []), (53, 0, 1, 0, 5, 5, 0, [], []), (54, 48, 3, 3, 0, 0, 0, [61], []), (57, 0, 1, 0, 1, 1, 0, [], []), (58, 51, 3, 0, 0, 0, 0, [66], []), (61, 0, 1, 0, 0, 0, 0, [], []), (62, 51, 3, 0, 0, 0, 0, [66], []), (65, 0, 1, 0, 1, 1, 0, [], []), (66, 75, 1, 3, 0, 0, 0, [], [])]
/-- ThawWordsModel.takes(Z)I -/
def tw_c113 : List (Nat × tw_Op) := [(0, 11, 1, 0, 0, 0, 0, [], []), (1, 64, 3, 87, 0, 0, 0, [111, 1, 6, 862, 864, 27, 54, 865], []), (4, 47, 3, 1, 0, 0, 0, [9], []), (7, 0, 1, 0, 0, 0, 0, [], []), (8, 66, 1, 1, 0, 0, 0, [], []), (9, 7, 1, 1, 0, 0, 0, [], []), (10, 47, 3, 1, 0, 0, 0, [23], []), (13, 11, 1, 0, 0, 0, 0, [], []), (14, 11, 1, 0, 0, 0, 0, [], []), (15, 54, 3, 71, 0, 0, 0, [6, 6, 757], []), (18, 55, 3, 84, 0, 0, 0, [6, 8, 759], []), (21, 0, 1, 0, 0, 0, 0, [], []), (22, 66, 1, 1, 0, 0, 0, [], []), (23, 11, 1, 0, 0, 0, 0, [], []), (24, 54, 3, 81, 0, 0, 0, [6, 7, 758], []), (27, 13, 1, 2, 0, 0, 0, [], []), (28, 11, 1, 0, 0, 0, 0, [], []), (29, 64, 3, 91, 0, 0, 0, [110, 1, 6, 844, 846, 25, 54, 847], []), (32, 7, 1, 2, 0, 0, 0, [], []), (33, 66, 1, 1, 0, 0, 0, [], [])]
/-- ThawWordsModel.number(II)I -/
def tw_c114 : List (Nat × tw_Op) := [(0, 11, 1, 0, 0, 0, 0, [], []), (1, 11, 1, 0, 0, 0, 0, [], []), (2, 54, 3, 74, 0, 0, 0, [6, 5, 756], []), (5, 0, 1, 0, 2, 2, 0, [], []), (6, 48, 3, 1, 0, 0, 0, [25], []), (9, 11, 1, 0, 0, 0, 0, [], []), (10, 54, 3, 81, 0, 0, 0, [6, 7, 758], []), (13, 7, 1, 1, 0, 0, 0, [], []), (14, 7, 1, 2, 0, 0, 0, [], []), (15, 65, 3, 45, 0, 0, 0, [103, 3, 0, 832, 833, 54, 834], []), (18, 47, 3, 0, 0, 0, 0, [25], []), (21, 0, 1, 0, 1, 1, 0, [], []), (22, 51, 3, 0, 0, 0, 0, [26], []), (25, 0, 1, 0, 0, 0, 0, [], []), (26, 64, 3, 94, 0, 0, 0, [113, 2, 6, 870, 872, 29, 54, 873], []), (29, 66, 1, 1, 0, 0, 0, [], [])]
/-- ThawWordsModel.readsItem(I)V -/
def tw_c115 : List (Nat × tw_Op) := [(0, 7, 1, 1, 0, 0, 0, [], []), (1, 47, 3, 1, 0, 0, 0, [35], []), (4, 11, 1, 0, 0, 0, 0, [], []), (5, 54, 3, 13, 0, 0, 0, [6, 9, 760], []), (8, 0, 1, 0, 4, 4, 0, [], []), (9, 11, 1, 0, 0, 0, 0, [], []), (10, 54, 3, 98, 0, 0, 0, [6, 18, 769], []), (13, 20, 1, 0, 0, 0, 0, [], []), (14, 11, 1, 0, 0, 0, 0, [], []), (15, 0, 1, 0, 0, 0, 0, [], []), (16, 1, 2, 0, 9, 9, 0, [], []), (18, 64, 3, 107, 0, 0, 0, [114, 3, 6, 878, 880, 31, 54, 881], []), (21, 57, 1, 0, 0, 0, 0, [], []), (22, 11, 1, 0, 0, 0, 0, [], []), (23, 44, 1, 0, 0, 0, 0, [], []), (24, 54, 3, 98, 0, 0, 0, [6, 18, 769], []), (27, 0, 1, 0, 1, 1, 0, [], []), (28, 20, 1, 0, 0, 0, 0, [], []), (29, 55, 3, 98, 0, 0, 0, [6, 18, 769], []), (32, 51, 3, 0, 0, 0, 0, [222], []), (35, 7, 1, 1, 0, 0, 0, [], []), (36, 0, 1, 0, 1, 1, 0, [], []), (37, 48, 3, 0, 0, 0, 0, [45], []), (40, 7, 1, 1, 0, 0, 0, [], []), (41, 0, 1, 0, 2, 2, 0, [], []), (42, 48, 3, 1, 0, 0, 0, [124], []), (45, 11, 1, 0, 0, 0, 0, [], []), (46, 0, 1, 0, 0, 0, 0, [], []), (47, 1, 2, 0, 20, 20, 0, [], []), (49, 64, 3, 107, 0, 0, 0, [114, 3, 6, 878, 880, 31, 54, 881], []), (52, 13, 1, 2, 0, 0, 0, [], []), (53, 11, 1, 0, 0, 0, 0, [], []), (54, 0, 1, 0, 1, 1, 0, [], []), (55, 1, 2, 0, 24, 24, 0, [], []), (57, 11, 1, 0, 0, 0, 0, [], []), (58, 54, 3, 111, 0, 0, 0, [6, 19, 770], []), (61, 21, 1, 0, 0, 0, 0, [], []), (62, 64, 3, 107, 0, 0, 0, [114, 3, 6, 878, 880, 31, 54, 881], []), (65, 13, 1, 3, 0, 0, 0, [], []), (66, 0, 1, 0, 0, 0, 0, [], []), (67, 14, 2, 4, 0, 0, 0, [], []), (69, 8, 2, 4, 0, 0, 0, [], []), (71, 7, 1, 3, 0, 0, 0, [], []), (72, 48, 3, 3, 0, 0, 0, [121], []), (75, 11, 1, 0, 0, 0, 0, [], []), (76, 64, 3, 87, 0, 0, 0, [111, 1, 6, 862, 864, 27, 54, 865], []), (79, 47, 3, 0, 0, 0, 0, [121], []), (82, 11, 1, 0, 0, 0, 0, [], []), (83, 54, 3, 16, 0, 0, 0, [6, 10, 761], []), (86, 1, 2, 0, 24, 24, 0, [], []), (88, 11, 1, 0, 0, 0, 0, [], []), (89, 54, 3, 111, 0, 0, 0, [6, 19, 770], []), (92, 20, 1, 0, 0, 0, 0, [], []), (93, 7, 1, 1, 0, 0, 0, [], []), (94, 0, 1, 0, 1, 1, 0, [], []), (95, 48, 3, 1, 0, 0, 0, [103], []), (98, 7, 1, 2, 0, 0, 0, [], []), (99, 30, 1, 0, 0, 0, 0, [], []), (100, 51, 3, 0, 0, 0, 0, [104], []), (103, 7, 1, 2, 0, 0, 0, [], []), (104, 57, 1, 0, 0, 0, 0, [], []), (105, 11, 1, 0, 0, 0, 0, [], []), (106, 44, 1, 0, 0, 0, 0, [], []), (107, 54, 3, 111, 0, 0, 0, [6, 19, 770], []), (110, 0, 1, 0, 1, 1, 0, [], []), (111, 20, 1, 0, 0, 0, 0, [], []), (112, 55, 3, 111, 0, 0, 0, [6, 19, 770], []), (115, 19, 3, 4, 1, 1, 0, [], []), (118, 51, 3, 0, 0, 0, 0, [69], []), (121, 51, 3, 0, 0, 0, 0, [222], []), (124, 7, 1, 1, 0, 0, 0, [], []), (125, 0, 1, 0, 5, 5, 0, [], []), (126, 48, 3, 1, 0, 0, 0, [182], []), (129, 11, 1, 0, 0, 0, 0, [], []), (130, 54, 3, 22, 0, 0, 0, [6, 12, 763], []), (133, 0, 1, 0, 4, 4, 0, [], []), (134, 11, 1, 0, 0, 0, 0, [], []), (135, 54, 3, 101, 0, 0, 0, [6, 21, 772], []), (138, 20, 1, 0, 0, 0, 0, [], []), (139, 11, 1, 0, 0, 0, 0, [], []), (140, 0, 1, 0, 0, 0, 0, [], []), (141, 1, 2, 0, 9, 9, 0, [], []), (143, 64, 3, 107, 0, 0, 0, [114, 3, 6, 878, 880, 31, 54, 881], []), (146, 57, 1, 0, 0, 0, 0, [], []), (147, 11, 1, 0, 0, 0, 0, [], []), (148, 54, 3, 25, 0, 0, 0, [6, 13, 764], []), (151, 0, 1, 0, 4, 4, 0, [], []), (152, 11, 1, 0, 0, 0, 0, [], []), (153, 54, 3, 101, 0, 0, 0, [6, 21, 772], []), (156, 20, 1, 0, 0, 0, 0, [], []), (157, 11, 1, 0, 0, 0, 0, [], []), (158, 0, 1, 0, 0, 0, 0, [], []), (159, 11, 1, 0, 0, 0, 0, [], []), (160, 54, 3, 98, 0, 0, 0, [6, 18, 769], []), (163, 0, 1, 0, 1, 1, 0, [], []), (164, 21, 1, 0, 0, 0, 0, [], []), (165, 64, 3, 107, 0, 0, 0, [114, 3, 6, 878, 880, 31, 54, 881], []), (168, 57, 1, 0, 0, 0, 0, [], []), (169, 11, 1, 0, 0, 0, 0, [], []), (170, 44, 1, 0, 0, 0, 0, [], []), (171, 54, 3, 101, 0, 0, 0, [6, 21, 772], []), (174, 0, 1, 0, 1, 1, 0, [], []), (175, 20, 1, 0, 0, 0, 0, [], []), (176, 55, 3, 101, 0, 0, 0, [6, 21, 772], []), (179, 51, 3, 0, 0, 0, 0, [222], []), (182, 11, 1, 0, 0, 0, 0, [], []), (183, 0, 1, 0, 0, 0, 0, [], []), (184, 1, 2, 0, 9, 9, 0, [], []), (186, 64, 3, 107, 0, 0, 0, [114, 3, 6, 878, 880, 31, 54, 881], []), (189, 13, 1, 2, 0, 0, 0, [], []), (190, 11, 1, 0, 0, 0, 0, [], []), (191, 54, 3, 19, 0, 0, 0, [6, 11, 762], []), (194, 0, 1, 0, 5, 5, 0, [], []), (195, 11, 1, 0, 0, 0, 0, [], []), (196, 54, 3, 104, 0, 0, 0, [6, 20, 771], []), (199, 20, 1, 0, 0, 0, 0, [], []), (200, 7, 1, 1, 0, 0, 0, [], []), (201, 0, 1, 0, 3, 3, 0, [], []), (202, 48, 3, 1, 0, 0, 0, [210], []), (205, 7, 1, 2, 0, 0, 0, [], []), (206, 30, 1, 0, 0, 0, 0, [], []), (207, 51, 3, 0, 0, 0, 0, [211], []), (210, 7, 1, 2, 0, 0, 0, [], []), (211, 57, 1, 0, 0, 0, 0, [], []), (212, 11, 1, 0, 0, 0, 0, [], []), (213, 44, 1, 0, 0, 0, 0, [], []), (214, 54, 3, 104, 0, 0, 0, [6, 20, 771], []), (217, 0, 1, 0, 1, 1, 0, [], []), (218, 20, 1, 0, 0, 0, 0, [], []), (219, 55, 3, 104, 0, 0, 0, [6, 20, 771], []), (222, 69, 1, 0, 0, 0, 0, [], [])]
/-- ThawWordsModel.cape()I -/
def tw_c116 : List (Nat × tw_Op) := [(0, 11, 1, 0, 0, 0, 0, [], []), (1, 0, 1, 0, 0, 0, 0, [], []), (2, 55, 3, 41, 0, 0, 0, [6, 0, 751], []), (5, 11, 1, 0, 0, 0, 0, [], []), (6, 0, 1, 0, (-1), (-1), 0, [], []), (7, 55, 3, 84, 0, 0, 0, [6, 8, 759], []), (10, 11, 1, 0, 0, 0, 0, [], []), (11, 0, 1, 0, 0, 0, 0, [], []), (12, 55, 3, 64, 0, 0, 0, [6, 4, 755], []), (15, 0, 1, 0, 0, 0, 0, [], []), (16, 13, 1, 1, 0, 0, 0, [], []), (17, 11, 1, 0, 0, 0, 0, [], []), (18, 0, 1, 0, 0, 0, 0, [], []), (19, 55, 3, 98, 0, 0, 0, [6, 18, 769], []), (22, 11, 1, 0, 0, 0, 0, [], []), (23, 0, 1, 0, 0, 0, 0, [], []), (24, 55, 3, 111, 0, 0, 0, [6, 19, 770], []), (27, 11, 1, 0, 0, 0, 0, [], []), (28, 0, 1, 0, 0, 0, 0, [], []), (29, 55, 3, 104, 0, 0, 0, [6, 20, 771], []), (32, 11, 1, 0, 0, 0, 0, [], []), (33, 0, 1, 0, 0, 0, 0, [], []), (34, 55, 3, 101, 0, 0, 0, [6, 21, 772], []), (37, 11, 1, 0, 0, 0, 0, [], []), (38, 64, 3, 91, 0, 0, 0, [110, 1, 6, 844, 846, 25, 54, 847], []), (41, 11, 1, 0, 0, 0, 0, [], []), (42, 64, 3, 87, 0, 0, 0, [111, 1, 6, 862, 864, 27, 54, 865], []), (45, 47, 3, 0, 0, 0, 0, [120], []), (48, 11, 1, 0, 0, 0, 0, [], []), (49, 54, 3, 74, 0, 0, 0, [6, 5, 756], []), (52, 47, 3, 0, 0, 0, 0, [120], []), (55, 11, 1, 0, 0, 0, 0, [], []), (56, 11, 1, 0, 0, 0, 0, [], []), (57, 54, 3, 74, 0, 0, 0, [6, 5, 756], []), (60, 0, 1, 0, 1, 1, 0, [], []), (61, 48, 3, 1, 0, 0, 0, [79], []), (64, 11, 1, 0, 0, 0, 0, [], []), (65, 11, 1, 0, 0, 0, 0, [], []), (66, 54, 3, 81, 0, 0, 0, [6, 7, 758], []), (69, 64, 3, 114, 0, 0, 0, [112, 2, 6, 866, 868, 28, 54, 869], []), (72, 47, 3, 0, 0, 0, 0, [79], []), (75, 0, 1, 0, 1, 1, 0, [], []), (76, 51, 3, 0, 0, 0, 0, [80], []), (79, 0, 1, 0, 0, 0, 0, [], []), (80, 64, 3, 94, 0, 0, 0, [113, 2, 6, 870, 872, 29, 54, 873], []), (83, 13, 1, 2, 0, 0, 0, [], []), (84, 11, 1, 0, 0, 0, 0, [], []), (85, 64, 3, 87, 0, 0, 0, [111, 1, 6, 862, 864, 27, 54, 865], []), (88, 47, 3, 0, 0, 0, 0, [96], []), (91, 11, 1, 0, 0, 0, 0, [], []), (92, 7, 1, 2, 0, 0, 0, [], []), (93, 64, 3, 118, 0, 0, 0, [115, 2, 6, 874, 876, 30, 54, 877], []), (96, 11, 1, 0, 0, 0, 0, [], []), (97, 11, 1, 0, 0, 0, 0, [], []), (98, 54, 3, 74, 0, 0, 0, [6, 5, 756], []), (101, 0, 1, 0, 3, 3, 0, [], []), (102, 48, 3, 1, 0, 0, 0, [109], []), (105, 0, 1, 0, 1, 1, 0, [], []), (106, 51, 3, 0, 0, 0, 0, [110], []), (109, 0, 1, 0, 0, 0, 0, [], []), (110, 64, 3, 94, 0, 0, 0, [113, 2, 6, 870, 872, 29, 54, 873], []), (113, 46, 1, 0, 0, 0, 0, [], []), (114, 19, 3, 1, 1, 1, 0, [], []), (117, 51, 3, 0, 0, 0, 0, [41], []), (120, 11, 1, 0, 0, 0, 0, [], []), (121, 64, 3, 87, 0, 0, 0, [111, 1, 6, 862, 864, 27, 54, 865], []), (124, 47, 3, 1, 0, 0, 0, [135], []), (127, 1, 2, 0, (-10), (-10), 0, [], []), (129, 11, 1, 0, 0, 0, 0, [], []), (130, 54, 3, 84, 0, 0, 0, [6, 8, 759], []), (133, 21, 1, 0, 0, 0, 0, [], []), (134, 66, 1, 1, 0, 0, 0, [], []), (135, 11, 1, 0, 0, 0, 0, [], []), (136, 11, 1, 0, 0, 0, 0, [], []), (137, 54, 3, 98, 0, 0, 0, [6, 18, 769], []), (140, 55, 3, 122, 0, 0, 0, [6, 14, 765], []), (143, 11, 1, 0, 0, 0, 0, [], []), (144, 11, 1, 0, 0, 0, 0, [], []), (145, 54, 3, 111, 0, 0, 0, [6, 19, 770], []), (148, 55, 3, 125, 0, 0, 0, [6, 15, 766], []), (151, 11, 1, 0, 0, 0, 0, [], []), (152, 11, 1, 0, 0, 0, 0, [], []), (153, 54, 3, 104, 0, 0, 0, [6, 20, 771], []), (156, 55, 3, 128, 0, 0, 0, [6, 16, 767], []), (159, 11, 1, 0, 0, 0, 0, [], []), (160, 11, 1, 0, 0, 0, 0, [], []), (161, 54, 3, 101, 0, 0, 0, [6, 21, 772], []), (164, 55, 3, 131, 0, 0, 0, [6, 17, 768], []), (167, 0, 1, 0, 0, 0, 0, [], []), (168, 13, 1, 2, 0, 0, 0, [], []), (169, 7, 1, 2, 0, 0, 0, [], []), (170, 1, 2, 0, 24, 24, 0, [], []), (172, 48, 3, 3, 0, 0, 0, [196], []), (175, 11, 1, 0, 0, 0, 0, [], []), (176, 54, 3, 16, 0, 0, 0, [6, 10, 761], []), (179, 7, 1, 2, 0, 0, 0, [], []), (180, 11, 1, 0, 0, 0, 0, [], []), (181, 54, 3, 16, 0, 0, 0, [6, 10, 761], []), (184, 1, 2, 0, 24, 24, 0, [], []), (186, 7, 1, 2, 0, 0, 0, [], []), (187, 20, 1, 0, 0, 0, 0, [], []), (188, 56, 1, 0, 0, 0, 0, [], []), (189, 57, 1, 0, 0, 0, 0, [], []), (190, 19, 3, 2, 1, 1, 0, [], []), (193, 51, 3, 0, 0, 0, 0, [169], []), (196, 0, 1, 0, 0, 0, 0, [], []), (197, 13, 1, 2, 0, 0, 0, [], []), (198, 7, 1, 2, 0, 0, 0, [], []), (199, 0, 1, 0, 5, 5, 0, [], []), (200, 48, 3, 3, 0, 0, 0, [223], []), (203, 11, 1, 0, 0, 0, 0, [], []), (204, 54, 3, 19, 0, 0, 0, [6, 11, 762], []), (207, 7, 1, 2, 0, 0, 0, [], []), (208, 11, 1, 0, 0, 0, 0, [], []), (209, 54, 3, 19, 0, 0, 0, [6, 11, 762], []), (212, 0, 1, 0, 5, 5, 0, [], []), (213, 7, 1, 2, 0, 0, 0, [], []), (214, 20, 1, 0, 0, 0, 0, [], []), (215, 56, 1, 0, 0, 0, 0, [], []), (216, 57, 1, 0, 0, 0, 0, [], []), (217, 19, 3, 2, 1, 1, 0, [], []), (220, 51, 3, 0, 0, 0, 0, [198], []), (223, 0, 1, 0, 0, 0, 0, [], []), (224, 13, 1, 2, 0, 0, 0, [], []), (225, 7, 1, 2, 0, 0, 0, [], []), (226, 0, 1, 0, 4, 4, 0, [], []), (227, 48, 3, 3, 0, 0, 0, [278], []), (230, 11, 1, 0, 0, 0, 0, [], []), (231, 54, 3, 13, 0, 0, 0, [6, 9, 760], []), (234, 7, 1, 2, 0, 0, 0, [], []), (235, 11, 1, 0, 0, 0, 0, [], []), (236, 54, 3, 13, 0, 0, 0, [6, 9, 760], []), (239, 0, 1, 0, 4, 4, 0, [], []), (240, 7, 1, 2, 0, 0, 0, [], []), (241, 20, 1, 0, 0, 0, 0, [], []), (242, 56, 1, 0, 0, 0, 0, [], []), (243, 57, 1, 0, 0, 0, 0, [], []), (244, 11, 1, 0, 0, 0, 0, [], []), (245, 54, 3, 22, 0, 0, 0, [6, 12, 763], []), (248, 7, 1, 2, 0, 0, 0, [], []), (249, 11, 1, 0, 0, 0, 0, [], []), (250, 54, 3, 22, 0, 0, 0, [6, 12, 763], []), (253, 0, 1, 0, 4, 4, 0, [], []), (254, 7, 1, 2, 0, 0, 0, [], []), (255, 20, 1, 0, 0, 0, 0, [], []), (256, 56, 1, 0, 0, 0, 0, [], []), (257, 57, 1, 0, 0, 0, 0, [], []), (258, 11, 1, 0, 0, 0, 0, [], []), (259, 54, 3, 25, 0, 0, 0, [6, 13, 764], []), (262, 7, 1, 2, 0, 0, 0, [], []), (263, 11, 1, 0, 0, 0, 0, [], []), (264, 54, 3, 25, 0, 0, 0, [6, 13, 764], []), (267, 0, 1, 0, 4, 4, 0, [], []), (268, 7, 1, 2, 0, 0, 0, [], []), (269, 20, 1, 0, 0, 0, 0, [], []), (270, 56, 1, 0, 0, 0, 0, [], []), (271, 57, 1, 0, 0, 0, 0, [], []), (272, 19, 3, 2, 1, 1, 0, [], []), (275, 51, 3, 0, 0, 0, 0, [225], []), (278, 11, 1, 0, 0, 0, 0, [], []), (279, 0, 1, 0, 0, 0, 0, [], []), (280, 55, 3, 49, 0, 0, 0, [6, 3, 754], []), (283, 11, 1, 0, 0, 0, 0, [], []), (284, 54, 3, 34, 0, 0, 0, [6, 24, 775], []), (287, 0, 1, 0, 0, 0, 0, [], []), (288, 0, 1, 0, 0, 0, 0, [], []), (289, 59, 1, 0, 0, 0, 0, [], []), (290, 11, 1, 0, 0, 0, 0, [], []), (291, 54, 3, 34, 0, 0, 0, [6, 24, 775], []), (294, 0, 1, 0, 1, 1, 0, [], []), (295, 0, 1, 0, 0, 0, 0, [], []), (296, 59, 1, 0, 0, 0, 0, [], []), (297, 11, 1, 0, 0, 0, 0, [], []), (298, 64, 3, 38, 0, 0, 0, [102, 1, 6, 747, 749, 24, 54, 750], []), (301, 7, 1, 1, 0, 0, 0, [], []), (302, 66, 1, 1, 0, 0, 0, [], [])]
/-- ThawWordsModel.isPlace(I)Z -/
def tw_c117 : List (Nat × tw_Op) := [(0, 7, 1, 1, 0, 0, 0, [], []), (1, 0, 1, 0, 0, 0, 0, [], []), (2, 11, 1, 0, 0, 0, 0, [], []), (3, 54, 3, 122, 0, 0, 0, [6, 14, 765], []), (6, 0, 1, 0, 1, 1, 0, [], []), (7, 21, 1, 0, 0, 0, 0, [], []), (8, 65, 3, 45, 0, 0, 0, [103, 3, 0, 832, 833, 54, 834], []), (11, 75, 1, 3, 0, 0, 0, [], [])]
/-- ThawWordsModel.warmthIn(I)I -/
def tw_c118 : List (Nat × tw_Op) := [(0, 11, 1, 0, 0, 0, 0, [], []), (1, 54, 3, 125, 0, 0, 0, [6, 15, 766], []), (4, 47, 3, 1, 0, 0, 0, [11], []), (7, 0, 1, 0, 0, 0, 0, [], []), (8, 51, 3, 0, 0, 0, 0, [34], []), (11, 11, 1, 0, 0, 0, 0, [], []), (12, 54, 3, 16, 0, 0, 0, [6, 10, 761], []), (15, 7, 1, 1, 0, 0, 0, [], []), (16, 11, 1, 0, 0, 0, 0, [], []), (17, 54, 3, 125, 0, 0, 0, [6, 15, 766], []), (20, 48, 3, 3, 0, 0, 0, [27], []), (23, 7, 1, 1, 0, 0, 0, [], []), (24, 51, 3, 0, 0, 0, 0, [33], []), (27, 11, 1, 0, 0, 0, 0, [], []), (28, 54, 3, 125, 0, 0, 0, [6, 15, 766], []), (31, 0, 1, 0, 1, 1, 0, [], []), (32, 21, 1, 0, 0, 0, 0, [], []), (33, 56, 1, 0, 0, 0, 0, [], []), (34, 66, 1, 1, 0, 0, 0, [], [])]
/-- ThawWordsModel.isLit(I)Z -/
def tw_c119 : List (Nat × tw_Op) := [(0, 11, 1, 0, 0, 0, 0, [], []), (1, 54, 3, 28, 0, 0, 0, [6, 22, 773], []), (4, 0, 1, 0, 1, 1, 0, [], []), (5, 56, 1, 0, 0, 0, 0, [], []), (6, 7, 1, 1, 0, 0, 0, [], []), (7, 29, 1, 0, 0, 0, 0, [], []), (8, 0, 1, 0, 1, 1, 0, [], []), (9, 25, 1, 0, 0, 0, 0, [], []), (10, 0, 1, 0, 1, 1, 0, [], []), (11, 48, 3, 1, 0, 0, 0, [18], []), (14, 0, 1, 0, 1, 1, 0, [], []), (15, 51, 3, 0, 0, 0, 0, [19], []), (18, 0, 1, 0, 0, 0, 0, [], []), (19, 75, 1, 3, 0, 0, 0, [], [])]
/-- ThawWordsModel.air(I)I -/
def tw_c120 : List (Nat × tw_Op) := [(0, 11, 1, 0, 0, 0, 0, [], []), (1, 11, 1, 0, 0, 0, 0, [], []), (2, 54, 3, 28, 0, 0, 0, [6, 22, 773], []), (5, 0, 1, 0, 0, 0, 0, [], []), (6, 56, 1, 0, 0, 0, 0, [], []), (7, 64, 3, 134, 0, 0, 0, [118, 2, 6, 895, 897, 34, 54, 898], []), (10, 11, 1, 0, 0, 0, 0, [], []), (11, 54, 3, 13, 0, 0, 0, [6, 9, 760], []), (14, 7, 1, 1, 0, 0, 0, [], []), (15, 56, 1, 0, 0, 0, 0, [], []), (16, 21, 1, 0, 0, 0, 0, [], []), (17, 11, 1, 0, 0, 0, 0, [], []), (18, 7, 1, 1, 0, 0, 0, [], []), (19, 64, 3, 137, 0, 0, 0, [119, 2, 6, 899, 901, 35, 54, 902], []), (22, 47, 3, 0, 0, 0, 0, [29], []), (25, 0, 1, 0, 5, 5, 0, [], []), (26, 51, 3, 0, 0, 0, 0, [30], []), (29, 0, 1, 0, 0, 0, 0, [], []), (30, 20, 1, 0, 0, 0, 0, [], []), (31, 66, 1, 1, 0, 0, 0, [], [])]
/-- ThawWordsModel.at(II)I -/
def tw_c121 : List (Nat × tw_Op) := [(0, 11, 1, 0, 0, 0, 0, [], []), (1, 54, 3, 28, 0, 0, 0, [6, 22, 773], []), (4, 1, 2, 0, 11, 11, 0, [], []), (6, 1, 2, 0, 14, 14, 0, [], []), (8, 7, 1, 1, 0, 0, 0, [], []), (9, 22, 1, 0, 0, 0, 0, [], []), (10, 20, 1, 0, 0, 0, 0, [], []), (11, 7, 1, 2, 0, 0, 0, [], []), (12, 20, 1, 0, 0, 0, 0, [], []), (13, 56, 1, 0, 0, 0, 0, [], []), (14, 66, 1, 1, 0, 0, 0, [], [])]
/-- ThawWordsModel.hangs(II)Z -/
def tw_c122 : List (Nat × tw_Op) := [(0, 7, 1, 2, 0, 0, 0, [], []), (1, 11, 1, 0, 0, 0, 0, [], []), (2, 7, 1, 1, 0, 0, 0, [], []), (3, 0, 1, 0, 4, 4, 0, [], []), (4, 64, 3, 140, 0, 0, 0, [121, 3, 6, 907, 909, 37, 54, 910], []), (7, 48, 3, 3, 0, 0, 0, [26], []), (10, 11, 1, 0, 0, 0, 0, [], []), (11, 7, 1, 1, 0, 0, 0, [], []), (12, 1, 2, 0, 9, 9, 0, [], []), (14, 7, 1, 2, 0, 0, 0, [], []), (15, 20, 1, 0, 0, 0, 0, [], []), (16, 64, 3, 140, 0, 0, 0, [121, 3, 6, 907, 909, 37, 54, 910], []), (19, 47, 3, 3, 0, 0, 0, [26], []), (22, 0, 1, 0, 1, 1, 0, [], []), (23, 51, 3, 0, 0, 0, 0, [27], []), (26, 0, 1, 0, 0, 0, 0, [], []), (27, 75, 1, 3, 0, 0, 0, [], [])]
/-- ThawWordsModel.hangingOf(I)I -/
def tw_c123 : List (Nat × tw_Op) := [(0, 0, 1, 0, 0, 0, 0, [], []), (1, 13, 1, 2, 0, 0, 0, [], []), (2, 0, 1, 0, 0, 0, 0, [], []), (3, 13, 1, 3, 0, 0, 0, [], []), (4, 7, 1, 3, 0, 0, 0, [], []), (5, 0, 1, 0, 4, 4, 0, [], []), (6, 48, 3, 3, 0, 0, 0, [32], []), (9, 7, 1, 2, 0, 0, 0, [], []), (10, 11, 1, 0, 0, 0, 0, [], []), (11, 7, 1, 1, 0, 0, 0, [], []), (12, 7, 1, 3, 0, 0, 0, [], []), (13, 64, 3, 143, 0, 0, 0, [122, 3, 6, 915, 917, 39, 54, 918], []), (16, 47, 3, 0, 0, 0, 0, [23], []), (19, 0, 1, 0, 1, 1, 0, [], []), (20, 51, 3, 0, 0, 0, 0, [24], []), (23, 0, 1, 0, 0, 0, 0, [], []), (24, 20, 1, 0, 0, 0, 0, [], []), (25, 13, 1, 2, 0, 0, 0, [], []), (26, 19, 3, 3, 1, 1, 0, [], []), (29, 51, 3, 0, 0, 0, 0, [4], []), (32, 7, 1, 2, 0, 0, 0, [], []), (33, 66, 1, 1, 0, 0, 0, [], [])]
/-- ThawWordsModel.hangingAt(I)I -/
def tw_c124 : List (Nat × tw_Op) := [(0, 0, 1, 0, 0, 0, 0, [], []), (1, 13, 1, 2, 0, 0, 0, [], []), (2, 0, 1, 0, 0, 0, 0, [], []), (3, 13, 1, 3, 0, 0, 0, [], []), (4, 7, 1, 3, 0, 0, 0, [], []), (5, 11, 1, 0, 0, 0, 0, [], []), (6, 54, 3, 28, 0, 0, 0, [6, 22, 773], []), (9, 0, 1, 0, 2, 2, 0, [], []), (10, 56, 1, 0, 0, 0, 0, [], []), (11, 48, 3, 3, 0, 0, 0, [46], []), (14, 7, 1, 2, 0, 0, 0, [], []), (15, 7, 1, 1, 0, 0, 0, [], []), (16, 47, 3, 2, 0, 0, 0, [29], []), (19, 11, 1, 0, 0, 0, 0, [], []), (20, 7, 1, 3, 0, 0, 0, [], []), (21, 0, 1, 0, 1, 1, 0, [], []), (22, 64, 3, 140, 0, 0, 0, [121, 3, 6, 907, 909, 37, 54, 910], []), (25, 7, 1, 1, 0, 0, 0, [], []), (26, 48, 3, 1, 0, 0, 0, [37], []), (29, 11, 1, 0, 0, 0, 0, [], []), (30, 7, 1, 3, 0, 0, 0, [], []), (31, 64, 3, 147, 0, 0, 0, [123, 2, 6, 911, 913, 38, 54, 914], []), (34, 51, 3, 0, 0, 0, 0, [38], []), (37, 0, 1, 0, 0, 0, 0, [], []), (38, 20, 1, 0, 0, 0, 0, [], []), (39, 13, 1, 2, 0, 0, 0, [], []), (40, 19, 3, 3, 1, 1, 0, [], []), (43, 51, 3, 0, 0, 0, 0, [4], []), (46, 7, 1, 2, 0, 0, 0, [], []), (47, 66, 1, 1, 0, 0, 0, [], [])]
/-- ThawWordsModel.place(II)I -/
def tw_c125 : List (Nat × tw_Op) := [(0, 11, 1, 0, 0, 0, 0, [], []), (1, 0, 1, 0, 0, 0, 0, [], []), (2, 55, 3, 41, 0, 0, 0, [6, 0, 751], []), (5, 11, 1, 0, 0, 0, 0, [], []), (6, 7, 1, 1, 0, 0, 0, [], []), (7, 64, 3, 150, 0, 0, 0, [117, 2, 6, 886, 888, 32, 54, 889], []), (10, 47, 3, 0, 0, 0, 0, [22], []), (13, 7, 1, 2, 0, 0, 0, [], []), (14, 0, 1, 0, 0, 0, 0, [], []), (15, 0, 1, 0, 3, 3, 0, [], []), (16, 65, 3, 45, 0, 0, 0, [103, 3, 0, 832, 833, 54, 834], []), (19, 47, 3, 1, 0, 0, 0, [25], []), (22, 3, 2, 153, 0, (-1000000), 0, [890], []), (24, 66, 1, 1, 0, 0, 0, [], []), (25, 7, 1, 2, 0, 0, 0, [], []), (26, 47, 3, 1, 0, 0, 0, [38], []), (29, 11, 1, 0, 0, 0, 0, [], []), (30, 54, 3, 13, 0, 0, 0, [6, 9, 760], []), (33, 7, 1, 1, 0, 0, 0, [], []), (34, 56, 1, 0, 0, 0, 0, [], []), (35, 51, 3, 0, 0, 0, 0, [77], []), (38, 7, 1, 2, 0, 0, 0, [], []), (39, 0, 1, 0, 1, 1, 0, [], []), (40, 48, 3, 1, 0, 0, 0, [51], []), (43, 11, 1, 0, 0, 0, 0, [], []), (44, 7, 1, 1, 0, 0, 0, [], []), (45, 64, 3, 154, 0, 0, 0, [120, 2, 6, 891, 893, 33, 54, 894], []), (48, 51, 3, 0, 0, 0, 0, [77], []), (51, 7, 1, 2, 0, 0, 0, [], []), (52, 0, 1, 0, 2, 2, 0, [], []), (53, 48, 3, 1, 0, 0, 0, [64], []), (56, 11, 1, 0, 0, 0, 0, [], []), (57, 7, 1, 1, 0, 0, 0, [], []), (58, 64, 3, 157, 0, 0, 0, [124, 2, 6, 903, 905, 36, 54, 906], []), (61, 51, 3, 0, 0, 0, 0, [77], []), (64, 11, 1, 0, 0, 0, 0, [], []), (65, 7, 1, 1, 0, 0, 0, [], []), (66, 64, 3, 137, 0, 0, 0, [119, 2, 6, 899, 901, 35, 54, 902], []), (69, 47, 3, 0, 0, 0, 0, [76], []), (72, 0, 1, 0, 1, 1, 0, [], []), (73, 51, 3, 0, 0, 0, 0, [77], []), (76, 0, 1, 0, 0, 0, 0, [], []), (77, 66, 1, 1, 0, 0, 0, [], [])]
/-- ThawWordsModel.warmth(I)I -/
def tw_c126 : List (Nat × tw_Op) := [(0, 11, 1, 0, 0, 0, 0, [], []), (1, 0, 1, 0, 0, 0, 0, [], []), (2, 55, 3, 41, 0, 0, 0, [6, 0, 751], []), (5, 7, 1, 1, 0, 0, 0, [], []), (6, 0, 1, 0, 0, 0, 0, [], []), (7, 1, 2, 0, 99, 99, 0, [], []), (9, 65, 3, 45, 0, 0, 0, [103, 3, 0, 832, 833, 54, 834], []), (12, 47, 3, 0, 0, 0, 0, [23], []), (15, 11, 1, 0, 0, 0, 0, [], []), (16, 7, 1, 1, 0, 0, 0, [], []), (17, 64, 3, 134, 0, 0, 0, [118, 2, 6, 895, 897, 34, 54, 898], []), (20, 51, 3, 0, 0, 0, 0, [25], []), (23, 3, 2, 153, 0, (-1000000), 0, [890], []), (25, 66, 1, 1, 0, 0, 0, [], [])]
/-- ThawWordsModel.isSound(I)Z -/
def tw_c127 : List (Nat × tw_Op) := [(0, 7, 1, 1, 0, 0, 0, [], []), (1, 0, 1, 0, 0, 0, 0, [], []), (2, 11, 1, 0, 0, 0, 0, [], []), (3, 54, 3, 128, 0, 0, 0, [6, 16, 767], []), (6, 0, 1, 0, 1, 1, 0, [], []), (7, 21, 1, 0, 0, 0, 0, [], []), (8, 65, 3, 45, 0, 0, 0, [103, 3, 0, 832, 833, 54, 834], []), (11, 75, 1, 3, 0, 0, 0, [], [])]
/-- ThawWordsModel.melts(I)I -/
def tw_c128 : List (Nat × tw_Op) := [(0, 11, 1, 0, 0, 0, 0, [], []), (1, 0, 1, 0, 0, 0, 0, [], []), (2, 55, 3, 41, 0, 0, 0, [6, 0, 751], []), (5, 11, 1, 0, 0, 0, 0, [], []), (6, 7, 1, 1, 0, 0, 0, [], []), (7, 64, 3, 160, 0, 0, 0, [127, 2, 6, 927, 929, 40, 54, 930], []), (10, 47, 3, 0, 0, 0, 0, [22], []), (13, 11, 1, 0, 0, 0, 0, [], []), (14, 54, 3, 19, 0, 0, 0, [6, 11, 762], []), (17, 7, 1, 1, 0, 0, 0, [], []), (18, 56, 1, 0, 0, 0, 0, [], []), (19, 51, 3, 0, 0, 0, 0, [24], []), (22, 3, 2, 153, 0, (-1000000), 0, [890], []), (24, 66, 1, 1, 0, 0, 0, [], [])]
/-- ThawWordsModel.isPerson(I)Z -/
def tw_c129 : List (Nat × tw_Op) := [(0, 7, 1, 1, 0, 0, 0, [], []), (1, 0, 1, 0, 0, 0, 0, [], []), (2, 11, 1, 0, 0, 0, 0, [], []), (3, 54, 3, 131, 0, 0, 0, [6, 17, 768], []), (6, 0, 1, 0, 1, 1, 0, [], []), (7, 21, 1, 0, 0, 0, 0, [], []), (8, 65, 3, 45, 0, 0, 0, [103, 3, 0, 832, 833, 54, 834], []), (11, 75, 1, 3, 0, 0, 0, [], [])]
/-- ThawWordsModel.person(II)I -/
def tw_c130 : List (Nat × tw_Op) := [(0, 11, 1, 0, 0, 0, 0, [], []), (1, 0, 1, 0, 0, 0, 0, [], []), (2, 55, 3, 41, 0, 0, 0, [6, 0, 751], []), (5, 11, 1, 0, 0, 0, 0, [], []), (6, 7, 1, 1, 0, 0, 0, [], []), (7, 64, 3, 163, 0, 0, 0, [129, 2, 6, 935, 937, 41, 54, 938], []), (10, 47, 3, 0, 0, 0, 0, [22], []), (13, 7, 1, 2, 0, 0, 0, [], []), (14, 0, 1, 0, 0, 0, 0, [], []), (15, 0, 1, 0, 2, 2, 0, [], []), (16, 65, 3, 45, 0, 0, 0, [103, 3, 0, 832, 833, 54, 834], []), (19, 47, 3, 1, 0, 0, 0, [24], []), (22, 0, 1, 0, (-1), (-1), 0, [], []), (23, 66, 1, 1, 0, 0, 0, [], []), (24, 7, 1, 2, 0, 0, 0, [], []), (25, 47, 3, 1, 0, 0, 0, [37], []), (28, 11, 1, 0, 0, 0, 0, [], []), (29, 54, 3, 22, 0, 0, 0, [6, 12, 763], []), (32, 7, 1, 1, 0, 0, 0, [], []), (33, 56, 1, 0, 0, 0, 0, [], []), (34, 51, 3, 0, 0, 0, 0, [62], []), (37, 7, 1, 2, 0, 0, 0, [], []), (38, 0, 1, 0, 1, 1, 0, [], []), (39, 48, 3, 1, 0, 0, 0, [53], []), (42, 11, 1, 0, 0, 0, 0, [], []), (43, 54, 3, 28, 0, 0, 0, [6, 22, 773], []), (46, 0, 1, 0, 3, 3, 0, [], []), (47, 7, 1, 1, 0, 0, 0, [], []), (48, 20, 1, 0, 0, 0, 0, [], []), (49, 56, 1, 0, 0, 0, 0, [], []), (50, 51, 3, 0, 0, 0, 0, [62], []), (53, 11, 1, 0, 0, 0, 0, [], []), (54, 54, 3, 28, 0, 0, 0, [6, 22, 773], []), (57, 1, 2, 0, 7, 7, 0, [], []), (59, 7, 1, 1, 0, 0, 0, [], []), (60, 20, 1, 0, 0, 0, 0, [], []), (61, 56, 1, 0, 0, 0, 0, [], []), (62, 66, 1, 1, 0, 0, 0, [], [])]
/-- ThawWordsModel.isHeard(II)V -/
def tw_c131 : List (Nat × tw_Op) := [(0, 11, 1, 0, 0, 0, 0, [], []), (1, 54, 3, 28, 0, 0, 0, [6, 22, 773], []), (4, 1, 2, 0, 11, 11, 0, [], []), (6, 1, 2, 0, 14, 14, 0, [], []), (8, 7, 1, 1, 0, 0, 0, [], []), (9, 22, 1, 0, 0, 0, 0, [], []), (10, 20, 1, 0, 0, 0, 0, [], []), (11, 1, 2, 0, 9, 9, 0, [], []), (13, 20, 1, 0, 0, 0, 0, [], []), (14, 7, 1, 2, 0, 0, 0, [], []), (15, 20, 1, 0, 0, 0, 0, [], []), (16, 11, 1, 0, 0, 0, 0, [], []), (17, 54, 3, 28, 0, 0, 0, [6, 22, 773], []), (20, 0, 1, 0, 0, 0, 0, [], []), (21, 56, 1, 0, 0, 0, 0, [], []), (22, 57, 1, 0, 0, 0, 0, [], []), (23, 0, 1, 0, 0, 0, 0, [], []), (24, 13, 1, 3, 0, 0, 0, [], []), (25, 7, 1, 3, 0, 0, 0, [], []), (26, 11, 1, 0, 0, 0, 0, [], []), (27, 54, 3, 131, 0, 0, 0, [6, 17, 768], []), (30, 48, 3, 3, 0, 0, 0, [118], []), (33, 11, 1, 0, 0, 0, 0, [], []), (34, 54, 3, 28, 0, 0, 0, [6, 22, 773], []), (37, 0, 1, 0, 3, 3, 0, [], []), (38, 7, 1, 3, 0, 0, 0, [], []), (39, 20, 1, 0, 0, 0, 0, [], []), (40, 56, 1, 0, 0, 0, 0, [], []), (41, 11, 1, 0, 0, 0, 0, [], []), (42, 7, 1, 1, 0, 0, 0, [], []), (43, 0, 1, 0, 1, 1, 0, [], []), (44, 64, 3, 140, 0, 0, 0, [121, 3, 6, 907, 909, 37, 54, 910], []), (47, 48, 3, 1, 0, 0, 0, [112], []), (50, 11, 1, 0, 0, 0, 0, [], []), (51, 54, 3, 28, 0, 0, 0, [6, 22, 773], []), (54, 1, 2, 0, 7, 7, 0, [], []), (56, 7, 1, 3, 0, 0, 0, [], []), (57, 20, 1, 0, 0, 0, 0, [], []), (58, 56, 1, 0, 0, 0, 0, [], []), (59, 1, 2, 0, 60, 60, 0, [], []), (61, 48, 3, 3, 0, 0, 0, [112], []), (64, 11, 1, 0, 0, 0, 0, [], []), (65, 54, 3, 28, 0, 0, 0, [6, 22, 773], []), (68, 1, 2, 0, 123, 123, 0, [], []), (70, 1, 2, 0, 60, 60, 0, [], []), (72, 7, 1, 3, 0, 0, 0, [], []), (73, 22, 1, 0, 0, 0, 0, [], []), (74, 20, 1, 0, 0, 0, 0, [], []), (75, 11, 1, 0, 0, 0, 0, [], []), (76, 54, 3, 28, 0, 0, 0, [6, 22, 773], []), (79, 1, 2, 0, 7, 7, 0, [], []), (81, 7, 1, 3, 0, 0, 0, [], []), (82, 20, 1, 0, 0, 0, 0, [], []), (83, 56, 1, 0, 0, 0, 0, [], []), (84, 20, 1, 0, 0, 0, 0, [], []), (85, 1, 2, 0, 8, 8, 0, [], []), (87, 7, 1, 1, 0, 0, 0, [], []), (88, 22, 1, 0, 0, 0, 0, [], []), (89, 11, 1, 0, 0, 0, 0, [], []), (90, 7, 1, 1, 0, 0, 0, [], []), (91, 0, 1, 0, 5, 5, 0, [], []), (92, 7, 1, 2, 0, 0, 0, [], []), (93, 20, 1, 0, 0, 0, 0, [], []), (94, 64, 3, 140, 0, 0, 0, [121, 3, 6, 907, 909, 37, 54, 910], []), (97, 20, 1, 0, 0, 0, 0, [], []), (98, 57, 1, 0, 0, 0, 0, [], []), (99, 11, 1, 0, 0, 0, 0, [], []), (100, 54, 3, 28, 0, 0, 0, [6, 22, 773], []), (103, 1, 2, 0, 7, 7, 0, [], []), (105, 7, 1, 3, 0, 0, 0, [], []), (106, 20, 1, 0, 0, 0, 0, [], []), (107, 45, 1, 0, 0, 0, 0, [], []), (108, 56, 1, 0, 0, 0, 0, [], []), (109, 0, 1, 0, 1, 1, 0, [], []), (110, 20, 1, 0, 0, 0, 0, [], []), (111, 57, 1, 0, 0, 0, 0, [], []), (112, 19, 3, 3, 1, 1, 0, [], []), (115, 51, 3, 0, 0, 0, 0, [25], []), (118, 69, 1, 0, 0, 0, 0, [], [])]
/-- ThawWordsModel.says(III)I -/
def tw_c132 : List (Nat × tw_Op) := [(0, 11, 1, 0, 0, 0, 0, [], []), (1, 0, 1, 0, 0, 0, 0, [], []), (2, 55, 3, 41, 0, 0, 0, [6, 0, 751], []), (5, 11, 1, 0, 0, 0, 0, [], []), (6, 7, 1, 1, 0, 0, 0, [], []), (7, 64, 3, 163, 0, 0, 0, [129, 2, 6, 935, 937, 41, 54, 938], []), (10, 47, 3, 0, 0, 0, 0, [38], []), (13, 7, 1, 2, 0, 0, 0, [], []), (14, 0, 1, 0, 1, 1, 0, [], []), (15, 1, 2, 0, 9, 9, 0, [], []), (17, 65, 3, 45, 0, 0, 0, [103, 3, 0, 832, 833, 54, 834], []), (20, 47, 3, 0, 0, 0, 0, [38], []), (23, 7, 1, 3, 0, 0, 0, [], []), (24, 0, 1, 0, 1, 1, 0, [], []), (25, 2, 3, 0, 9999, 9999, 0, [], []), (28, 65, 3, 45, 0, 0, 0, [103, 3, 0, 832, 833, 54, 834], []), (31, 47, 3, 0, 0, 0, 0, [38], []), (34, 0, 1, 0, 1, 1, 0, [], []), (35, 51, 3, 0, 0, 0, 0, [39], []), (38, 0, 1, 0, 0, 0, 0, [], []), (39, 14, 2, 4, 0, 0, 0, [], []), (41, 0, 1, 0, 0, 0, 0, [], []), (42, 14, 2, 5, 0, 0, 0, [], []), (44, 7, 1, 3, 0, 0, 0, [], []), (45, 14, 2, 6, 0, 0, 0, [], []), (47, 8, 2, 6, 0, 0, 0, [], []), (49, 47, 3, 5, 0, 0, 0, [83], []), (52, 8, 2, 4, 0, 0, 0, [], []), (54, 47, 3, 0, 0, 0, 0, [83], []), (57, 11, 1, 0, 0, 0, 0, [], []), (58, 8, 2, 6, 0, 0, 0, [], []), (60, 1, 2, 0, 10, 10, 0, [], []), (62, 24, 1, 0, 0, 0, 0, [], []), (63, 0, 1, 0, 1, 1, 0, [], []), (64, 21, 1, 0, 0, 0, 0, [], []), (65, 64, 3, 160, 0, 0, 0, [127, 2, 6, 927, 929, 40, 54, 930], []), (68, 14, 2, 4, 0, 0, 0, [], []), (70, 19, 3, 5, 1, 1, 0, [], []), (73, 8, 2, 6, 0, 0, 0, [], []), (75, 1, 2, 0, 10, 10, 0, [], []), (77, 23, 1, 0, 0, 0, 0, [], []), (78, 14, 2, 6, 0, 0, 0, [], []), (80, 51, 3, 0, 0, 0, 0, [47], []), (83, 8, 2, 4, 0, 0, 0, [], []), (85, 47, 3, 1, 0, 0, 0, [90], []), (88, 0, 1, 0, (-1), (-1), 0, [], []), (89, 66, 1, 1, 0, 0, 0, [], []), (90, 11, 1, 0, 0, 0, 0, [], []), (91, 54, 3, 28, 0, 0, 0, [6, 22, 773], []), (94, 0, 1, 0, 2, 2, 0, [], []), (95, 56, 1, 0, 0, 0, 0, [], []), (96, 1, 2, 0, 8, 8, 0, [], []), (98, 48, 3, 1, 0, 0, 0, [104], []), (101, 1, 2, 0, (-3), (-3), 0, [], []), (103, 66, 1, 1, 0, 0, 0, [], []), (104, 11, 1, 0, 0, 0, 0, [], []), (105, 54, 3, 28, 0, 0, 0, [6, 22, 773], []), (108, 0, 1, 0, 2, 2, 0, [], []), (109, 56, 1, 0, 0, 0, 0, [], []), (110, 14, 2, 6, 0, 0, 0, [], []), (112, 1, 2, 0, 11, 11, 0, [], []), (114, 1, 2, 0, 14, 14, 0, [], []), (116, 8, 2, 6, 0, 0, 0, [], []), (118, 22, 1, 0, 0, 0, 0, [], []), (119, 20, 1, 0, 0, 0, 0, [], []), (120, 14, 2, 7, 0, 0, 0, [], []), (122, 11, 1, 0, 0, 0, 0, [], []), (123, 54, 3, 28, 0, 0, 0, [6, 22, 773], []), (126, 8, 2, 7, 0, 0, 0, [], []), (128, 0, 1, 0, 0, 0, 0, [], []), (129, 20, 1, 0, 0, 0, 0, [], []), (130, 7, 1, 1, 0, 0, 0, [], []), (131, 57, 1, 0, 0, 0, 0, [], []), (132, 11, 1, 0, 0, 0, 0, [], []), (133, 54, 3, 28, 0, 0, 0, [6, 22, 773], []), (136, 8, 2, 7, 0, 0, 0, [], []), (138, 0, 1, 0, 1, 1, 0, [], []), (139, 20, 1, 0, 0, 0, 0, [], []), (140, 11, 1, 0, 0, 0, 0, [], []), (141, 54, 3, 28, 0, 0, 0, [6, 22, 773], []), (144, 0, 1, 0, 3, 3, 0, [], []), (145, 7, 1, 1, 0, 0, 0, [], []), (146, 20, 1, 0, 0, 0, 0, [], []), (147, 56, 1, 0, 0, 0, 0, [], []), (148, 57, 1, 0, 0, 0, 0, [], []), (149, 11, 1, 0, 0, 0, 0, [], []), (150, 54, 3, 28, 0, 0, 0, [6, 22, 773], []), (153, 8, 2, 7, 0, 0, 0, [], []), (155, 0, 1, 0, 2, 2, 0, [], []), (156, 20, 1, 0, 0, 0, 0, [], []), (157, 11, 1, 0, 0, 0, 0, [], []), (158, 54, 3, 28, 0, 0, 0, [6, 22, 773], []), (161, 0, 1, 0, 0, 0, 0, [], []), (162, 56, 1, 0, 0, 0, 0, [], []), (163, 57, 1, 0, 0, 0, 0, [], []), (164, 11, 1, 0, 0, 0, 0, [], []), (165, 54, 3, 28, 0, 0, 0, [6, 22, 773], []), (168, 8, 2, 7, 0, 0, 0, [], []), (170, 0, 1, 0, 3, 3, 0, [], []), (171, 20, 1, 0, 0, 0, 0, [], []), (172, 7, 1, 2, 0, 0, 0, [], []), (173, 57, 1, 0, 0, 0, 0, [], []), (174, 11, 1, 0, 0, 0, 0, [], []), (175, 54, 3, 28, 0, 0, 0, [6, 22, 773], []), (178, 8, 2, 7, 0, 0, 0, [], []), (180, 0, 1, 0, 4, 4, 0, [], []), (181, 20, 1, 0, 0, 0, 0, [], []), (182, 8, 2, 5, 0, 0, 0, [], []), (184, 57, 1, 0, 0, 0, 0, [], []), (185, 7, 1, 3, 0, 0, 0, [], []), (186, 14, 2, 8, 0, 0, 0, [], []), (188, 8, 2, 5, 0, 0, 0, [], []), (190, 0, 1, 0, 1, 1, 0, [], []), (191, 21, 1, 0, 0, 0, 0, [], []), (192, 14, 2, 9, 0, 0, 0, [], []), (194, 8, 2, 9, 0, 0, 0, [], []), (196, 47, 3, 2, 0, 0, 0, [245], []), (199, 11, 1, 0, 0, 0, 0, [], []), (200, 54, 3, 28, 0, 0, 0, [6, 22, 773], []), (203, 8, 2, 7, 0, 0, 0, [], []), (205, 0, 1, 0, 5, 5, 0, [], []), (206, 20, 1, 0, 0, 0, 0, [], []), (207, 8, 2, 9, 0, 0, 0, [], []), (209, 20, 1, 0, 0, 0, 0, [], []), (210, 8, 2, 8, 0, 0, 0, [], []), (212, 1, 2, 0, 10, 10, 0, [], []), (214, 24, 1, 0, 0, 0, 0, [], []), (215, 0, 1, 0, 1, 1, 0, [], []), (216, 21, 1, 0, 0, 0, 0, [], []), (217, 57, 1, 0, 0, 0, 0, [], []), (218, 11, 1, 0, 0, 0, 0, [], []), (219, 54, 3, 28, 0, 0, 0, [6, 22, 773], []), (222, 8, 2, 7, 0, 0, 0, [], []), (224, 1, 2, 0, 9, 9, 0, [], []), (226, 20, 1, 0, 0, 0, 0, [], []), (227, 8, 2, 9, 0, 0, 0, [], []), (229, 20, 1, 0, 0, 0, 0, [], []), (230, 0, 1, 0, (-1), (-1), 0, [], []), (231, 57, 1, 0, 0, 0, 0, [], []), (232, 8, 2, 8, 0, 0, 0, [], []), (234, 1, 2, 0, 10, 10, 0, [], []), (236, 23, 1, 0, 0, 0, 0, [], []), (237, 14, 2, 8, 0, 0, 0, [], []), (239, 19, 3, 9, (-1), (-1), 0, [], []), (242, 51, 3, 0, 0, 0, 0, [194], []), (245, 11, 1, 0, 0, 0, 0, [], []), (246, 54, 3, 28, 0, 0, 0, [6, 22, 773], []), (249, 8, 2, 7, 0, 0, 0, [], []), (251, 1, 2, 0, 13, 13, 0, [], []), (253, 20, 1, 0, 0, 0, 0, [], []), (254, 0, 1, 0, 0, 0, 0, [], []), (255, 57, 1, 0, 0, 0, 0, [], []), (256, 0, 1, 0, 0, 0, 0, [], []), (257, 14, 2, 9, 0, 0, 0, [], []), (259, 8, 2, 9, 0, 0, 0, [], []), (261, 11, 1, 0, 0, 0, 0, [], []), (262, 54, 3, 131, 0, 0, 0, [6, 17, 768], []), (265, 48, 3, 3, 0, 0, 0, [315], []), (268, 11, 1, 0, 0, 0, 0, [], []), (269, 54, 3, 28, 0, 0, 0, [6, 22, 773], []), (272, 8, 2, 7, 0, 0, 0, [], []), (274, 1, 2, 0, 13, 13, 0, [], []), (276, 20, 1, 0, 0, 0, 0, [], []), (277, 45, 1, 0, 0, 0, 0, [], []), (278, 56, 1, 0, 0, 0, 0, [], []), (279, 11, 1, 0, 0, 0, 0, [], []), (280, 54, 3, 28, 0, 0, 0, [6, 22, 773], []), (283, 0, 1, 0, 3, 3, 0, [], []), (284, 8, 2, 9, 0, 0, 0, [], []), (286, 20, 1, 0, 0, 0, 0, [], []), (287, 56, 1, 0, 0, 0, 0, [], []), (288, 11, 1, 0, 0, 0, 0, [], []), (289, 54, 3, 28, 0, 0, 0, [6, 22, 773], []), (292, 0, 1, 0, 3, 3, 0, [], []), (293, 7, 1, 1, 0, 0, 0, [], []), (294, 20, 1, 0, 0, 0, 0, [], []), (295, 56, 1, 0, 0, 0, 0, [], []), (296, 48, 3, 1, 0, 0, 0, [306], []), (299, 0, 1, 0, 1, 1, 0, [], []), (300, 8, 2, 9, 0, 0, 0, [], []), (302, 28, 1, 0, 0, 0, 0, [], []), (303, 51, 3, 0, 0, 0, 0, [307], []), (306, 0, 1, 0, 0, 0, 0, [], []), (307, 26, 1, 0, 0, 0, 0, [], []), (308, 57, 1, 0, 0, 0, 0, [], []), (309, 19, 3, 9, 1, 1, 0, [], []), (312, 51, 3, 0, 0, 0, 0, [259], []), (315, 11, 1, 0, 0, 0, 0, [], []), (316, 54, 3, 28, 0, 0, 0, [6, 22, 773], []), (319, 0, 1, 0, 2, 2, 0, [], []), (320, 45, 1, 0, 0, 0, 0, [], []), (321, 56, 1, 0, 0, 0, 0, [], []), (322, 0, 1, 0, 1, 1, 0, [], []), (323, 20, 1, 0, 0, 0, 0, [], []), (324, 57, 1, 0, 0, 0, 0, [], []), (325, 0, 1, 0, 0, 0, 0, [], []), (326, 14, 2, 9, 0, 0, 0, [], []), (328, 8, 2, 9, 0, 0, 0, [], []), (330, 8, 2, 5, 0, 0, 0, [], []), (332, 48, 3, 3, 0, 0, 0, [379], []), (335, 11, 1, 0, 0, 0, 0, [], []), (336, 54, 3, 19, 0, 0, 0, [6, 11, 762], []), (339, 11, 1, 0, 0, 0, 0, [], []), (340, 8, 2, 6, 0, 0, 0, [], []), (342, 0, 1, 0, 5, 5, 0, [], []), (343, 8, 2, 9, 0, 0, 0, [], []), (345, 20, 1, 0, 0, 0, 0, [], []), (346, 64, 3, 140, 0, 0, 0, [121, 3, 6, 907, 909, 37, 54, 910], []), (349, 56, 1, 0, 0, 0, 0, [], []), (350, 11, 1, 0, 0, 0, 0, [], []), (351, 11, 1, 0, 0, 0, 0, [], []), (352, 54, 3, 28, 0, 0, 0, [6, 22, 773], []), (355, 0, 1, 0, 3, 3, 0, [], []), (356, 7, 1, 1, 0, 0, 0, [], []), (357, 20, 1, 0, 0, 0, 0, [], []), (358, 56, 1, 0, 0, 0, 0, [], []), (359, 64, 3, 154, 0, 0, 0, [120, 2, 6, 891, 893, 33, 54, 894], []), (362, 48, 3, 4, 0, 0, 0, [373], []), (365, 11, 1, 0, 0, 0, 0, [], []), (366, 8, 2, 6, 0, 0, 0, [], []), (368, 8, 2, 9, 0, 0, 0, [], []), (370, 64, 3, 166, 0, 0, 0, [131, 3, 6, 943, 945, 42, 54, 946], []), (373, 19, 3, 9, 1, 1, 0, [], []), (376, 51, 3, 0, 0, 0, 0, [328], []), (379, 8, 2, 6, 0, 0, 0, [], []), (381, 66, 1, 1, 0, 0, 0, [], [])]
/-- ThawWordsModel.goes(II)I -/
def tw_c133 : List (Nat × tw_Op) := [(0, 11, 1, 0, 0, 0, 0, [], []), (1, 0, 1, 0, 0, 0, 0, [], []), (2, 55, 3, 41, 0, 0, 0, [6, 0, 751], []), (5, 11, 1, 0, 0, 0, 0, [], []), (6, 7, 1, 1, 0, 0, 0, [], []), (7, 64, 3, 163, 0, 0, 0, [129, 2, 6, 935, 937, 41, 54, 938], []), (10, 47, 3, 0, 0, 0, 0, [21], []), (13, 11, 1, 0, 0, 0, 0, [], []), (14, 7, 1, 2, 0, 0, 0, [], []), (15, 64, 3, 150, 0, 0, 0, [117, 2, 6, 886, 888, 32, 54, 889], []), (18, 47, 3, 1, 0, 0, 0, [23], []), (21, 0, 1, 0, (-1), (-1), 0, [], []), (22, 66, 1, 1, 0, 0, 0, [], []), (23, 11, 1, 0, 0, 0, 0, [], []), (24, 54, 3, 28, 0, 0, 0, [6, 22, 773], []), (27, 0, 1, 0, 3, 3, 0, [], []), (28, 7, 1, 1, 0, 0, 0, [], []), (29, 20, 1, 0, 0, 0, 0, [], []), (30, 56, 1, 0, 0, 0, 0, [], []), (31, 7, 1, 2, 0, 0, 0, [], []), (32, 48, 3, 1, 0, 0, 0, [38], []), (35, 1, 2, 0, (-2), (-2), 0, [], []), (37, 66, 1, 1, 0, 0, 0, [], []), (38, 11, 1, 0, 0, 0, 0, [], []), (39, 54, 3, 28, 0, 0, 0, [6, 22, 773], []), (42, 0, 1, 0, 3, 3, 0, [], []), (43, 7, 1, 1, 0, 0, 0, [], []), (44, 20, 1, 0, 0, 0, 0, [], []), (45, 56, 1, 0, 0, 0, 0, [], []), (46, 13, 1, 3, 0, 0, 0, [], []), (47, 11, 1, 0, 0, 0, 0, [], []), (48, 54, 3, 28, 0, 0, 0, [6, 22, 773], []), (51, 0, 1, 0, 3, 3, 0, [], []), (52, 7, 1, 1, 0, 0, 0, [], []), (53, 20, 1, 0, 0, 0, 0, [], []), (54, 7, 1, 2, 0, 0, 0, [], []), (55, 57, 1, 0, 0, 0, 0, [], []), (56, 7, 1, 3, 0, 0, 0, [], []), (57, 66, 1, 1, 0, 0, 0, [], [])]
/-- ThawWordsModel.melting(I)I -/
def tw_c134 : List (Nat × tw_Op) := [(0, 0, 1, 0, 0, 0, 0, [], []), (1, 13, 1, 2, 0, 0, 0, [], []), (2, 1, 2, 0, 9, 9, 0, [], []), (4, 13, 1, 3, 0, 0, 0, [], []), (5, 7, 1, 3, 0, 0, 0, [], []), (6, 47, 3, 5, 0, 0, 0, [117], []), (9, 0, 1, 0, 0, 0, 0, [], []), (10, 14, 2, 4, 0, 0, 0, [], []), (12, 8, 2, 4, 0, 0, 0, [], []), (14, 11, 1, 0, 0, 0, 0, [], []), (15, 54, 3, 28, 0, 0, 0, [6, 22, 773], []), (18, 0, 1, 0, 2, 2, 0, [], []), (19, 56, 1, 0, 0, 0, 0, [], []), (20, 48, 3, 3, 0, 0, 0, [111], []), (23, 0, 1, 0, 0, 0, 0, [], []), (24, 14, 2, 5, 0, 0, 0, [], []), (26, 8, 2, 5, 0, 0, 0, [], []), (28, 0, 1, 0, 4, 4, 0, [], []), (29, 48, 3, 3, 0, 0, 0, [105], []), (32, 11, 1, 0, 0, 0, 0, [], []), (33, 8, 2, 4, 0, 0, 0, [], []), (35, 0, 1, 0, 3, 3, 0, [], []), (36, 64, 3, 140, 0, 0, 0, [121, 3, 6, 907, 909, 37, 54, 910], []), (39, 7, 1, 3, 0, 0, 0, [], []), (40, 48, 3, 1, 0, 0, 0, [99], []), (43, 11, 1, 0, 0, 0, 0, [], []), (44, 8, 2, 4, 0, 0, 0, [], []), (46, 0, 1, 0, 1, 1, 0, [], []), (47, 64, 3, 140, 0, 0, 0, [121, 3, 6, 907, 909, 37, 54, 910], []), (50, 7, 1, 1, 0, 0, 0, [], []), (51, 48, 3, 1, 0, 0, 0, [99], []), (54, 11, 1, 0, 0, 0, 0, [], []), (55, 8, 2, 4, 0, 0, 0, [], []), (57, 8, 2, 5, 0, 0, 0, [], []), (59, 64, 3, 143, 0, 0, 0, [122, 3, 6, 915, 917, 39, 54, 918], []), (62, 47, 3, 0, 0, 0, 0, [99], []), (65, 11, 1, 0, 0, 0, 0, [], []), (66, 54, 3, 19, 0, 0, 0, [6, 11, 762], []), (69, 11, 1, 0, 0, 0, 0, [], []), (70, 8, 2, 4, 0, 0, 0, [], []), (72, 0, 1, 0, 5, 5, 0, [], []), (73, 8, 2, 5, 0, 0, 0, [], []), (75, 20, 1, 0, 0, 0, 0, [], []), (76, 64, 3, 140, 0, 0, 0, [121, 3, 6, 907, 909, 37, 54, 910], []), (79, 56, 1, 0, 0, 0, 0, [], []), (80, 11, 1, 0, 0, 0, 0, [], []), (81, 7, 1, 1, 0, 0, 0, [], []), (82, 64, 3, 154, 0, 0, 0, [120, 2, 6, 891, 893, 33, 54, 894], []), (85, 48, 3, 4, 0, 0, 0, [99], []), (88, 11, 1, 0, 0, 0, 0, [], []), (89, 8, 2, 4, 0, 0, 0, [], []), (91, 8, 2, 5, 0, 0, 0, [], []), (93, 64, 3, 166, 0, 0, 0, [131, 3, 6, 943, 945, 42, 54, 946], []), (96, 19, 3, 2, 1, 1, 0, [], []), (99, 19, 3, 5, 1, 1, 0, [], []), (102, 51, 3, 0, 0, 0, 0, [26], []), (105, 19, 3, 4, 1, 1, 0, [], []), (108, 51, 3, 0, 0, 0, 0, [12], []), (111, 19, 3, 3, (-1), (-1), 0, [], []), (114, 51, 3, 0, 0, 0, 0, [5], []), (117, 7, 1, 2, 0, 0, 0, [], []), (118, 66, 1, 1, 0, 0, 0, [], [])]
/-- ThawWordsModel.lantern(I)I -/
def tw_c135 : List (Nat × tw_Op) := [(0, 11, 1, 0, 0, 0, 0, [], []), (1, 0, 1, 0, 0, 0, 0, [], []), (2, 55, 3, 41, 0, 0, 0, [6, 0, 751], []), (5, 11, 1, 0, 0, 0, 0, [], []), (6, 7, 1, 1, 0, 0, 0, [], []), (7, 64, 3, 150, 0, 0, 0, [117, 2, 6, 886, 888, 32, 54, 889], []), (10, 47, 3, 1, 0, 0, 0, [15], []), (13, 0, 1, 0, (-1), (-1), 0, [], []), (14, 66, 1, 1, 0, 0, 0, [], []), (15, 11, 1, 0, 0, 0, 0, [], []), (16, 7, 1, 1, 0, 0, 0, [], []), (17, 64, 3, 137, 0, 0, 0, [119, 2, 6, 899, 901, 35, 54, 902], []), (20, 47, 3, 0, 0, 0, 0, [26], []), (23, 1, 2, 0, (-2), (-2), 0, [], []), (25, 66, 1, 1, 0, 0, 0, [], []), (26, 11, 1, 0, 0, 0, 0, [], []), (27, 54, 3, 28, 0, 0, 0, [6, 22, 773], []), (30, 0, 1, 0, 1, 1, 0, [], []), (31, 45, 1, 0, 0, 0, 0, [], []), (32, 56, 1, 0, 0, 0, 0, [], []), (33, 0, 1, 0, 1, 1, 0, [], []), (34, 7, 1, 1, 0, 0, 0, [], []), (35, 28, 1, 0, 0, 0, 0, [], []), (36, 26, 1, 0, 0, 0, 0, [], []), (37, 57, 1, 0, 0, 0, 0, [], []), (38, 11, 1, 0, 0, 0, 0, [], []), (39, 7, 1, 1, 0, 0, 0, [], []), (40, 64, 3, 170, 0, 0, 0, [134, 2, 6, 955, 957, 43, 54, 958], []), (43, 66, 1, 1, 0, 0, 0, [], [])]
/-- ThawWordsModel.go(I)I -/
def tw_c136 : List (Nat × tw_Op) := [(0, 11, 1, 0, 0, 0, 0, [], []), (1, 0, 1, 0, 0, 0, 0, [], []), (2, 55, 3, 41, 0, 0, 0, [6, 0, 751], []), (5, 7, 1, 1, 0, 0, 0, [], []), (6, 0, 1, 0, 1, 1, 0, [], []), (7, 1, 2, 0, 99, 99, 0, [], []), (9, 65, 3, 45, 0, 0, 0, [103, 3, 0, 832, 833, 54, 834], []), (12, 47, 3, 1, 0, 0, 0, [17], []), (15, 0, 1, 0, (-1), (-1), 0, [], []), (16, 66, 1, 1, 0, 0, 0, [], []), (17, 11, 1, 0, 0, 0, 0, [], []), (18, 54, 3, 28, 0, 0, 0, [6, 22, 773], []), (21, 0, 1, 0, 0, 0, 0, [], []), (22, 56, 1, 0, 0, 0, 0, [], []), (23, 1, 2, 0, 99, 99, 0, [], []), (25, 48, 3, 1, 0, 0, 0, [31], []), (28, 1, 2, 0, (-2), (-2), 0, [], []), (30, 66, 1, 1, 0, 0, 0, [], []), (31, 0, 1, 0, 0, 0, 0, [], []), (32, 13, 1, 2, 0, 0, 0, [], []), (33, 0, 1, 0, 0, 0, 0, [], []), (34, 13, 1, 3, 0, 0, 0, [], []), (35, 7, 1, 3, 0, 0, 0, [], []), (36, 7, 1, 1, 0, 0, 0, [], []), (37, 48, 3, 3, 0, 0, 0, [101], []), (40, 11, 1, 0, 0, 0, 0, [], []), (41, 54, 3, 28, 0, 0, 0, [6, 22, 773], []), (44, 0, 1, 0, 0, 0, 0, [], []), (45, 56, 1, 0, 0, 0, 0, [], []), (46, 1, 2, 0, 99, 99, 0, [], []), (48, 48, 3, 3, 0, 0, 0, [101], []), (51, 11, 1, 0, 0, 0, 0, [], []), (52, 54, 3, 28, 0, 0, 0, [6, 22, 773], []), (55, 0, 1, 0, 1, 1, 0, [], []), (56, 0, 1, 0, 0, 0, 0, [], []), (57, 57, 1, 0, 0, 0, 0, [], []), (58, 11, 1, 0, 0, 0, 0, [], []), (59, 54, 3, 28, 0, 0, 0, [6, 22, 773], []), (62, 0, 1, 0, 0, 0, 0, [], []), (63, 45, 1, 0, 0, 0, 0, [], []), (64, 56, 1, 0, 0, 0, 0, [], []), (65, 0, 1, 0, 1, 1, 0, [], []), (66, 20, 1, 0, 0, 0, 0, [], []), (67, 57, 1, 0, 0, 0, 0, [], []), (68, 0, 1, 0, 0, 0, 0, [], []), (69, 14, 2, 4, 0, 0, 0, [], []), (71, 8, 2, 4, 0, 0, 0, [], []), (73, 11, 1, 0, 0, 0, 0, [], []), (74, 54, 3, 122, 0, 0, 0, [6, 14, 765], []), (77, 48, 3, 3, 0, 0, 0, [95], []), (80, 7, 1, 2, 0, 0, 0, [], []), (81, 11, 1, 0, 0, 0, 0, [], []), (82, 8, 2, 4, 0, 0, 0, [], []), (84, 64, 3, 170, 0, 0, 0, [134, 2, 6, 955, 957, 43, 54, 958], []), (87, 20, 1, 0, 0, 0, 0, [], []), (88, 13, 1, 2, 0, 0, 0, [], []), (89, 19, 3, 4, 1, 1, 0, [], []), (92, 51, 3, 0, 0, 0, 0, [71], []), (95, 19, 3, 3, 1, 1, 0, [], []), (98, 51, 3, 0, 0, 0, 0, [35], []), (101, 7, 1, 2, 0, 0, 0, [], []), (102, 66, 1, 1, 0, 0, 0, [], [])]
/-- ThawWordsModel.isSaying(I)Z -/
def tw_c137 : List (Nat × tw_Op) := [(0, 7, 1, 1, 0, 0, 0, [], []), (1, 0, 1, 0, 0, 0, 0, [], []), (2, 11, 1, 0, 0, 0, 0, [], []), (3, 54, 3, 28, 0, 0, 0, [6, 22, 773], []), (6, 0, 1, 0, 2, 2, 0, [], []), (7, 56, 1, 0, 0, 0, 0, [], []), (8, 0, 1, 0, 1, 1, 0, [], []), (9, 21, 1, 0, 0, 0, 0, [], []), (10, 65, 3, 45, 0, 0, 0, [103, 3, 0, 832, 833, 54, 834], []), (13, 75, 1, 3, 0, 0, 0, [], [])]
/-- ThawWordsModel.saying(II)I -/
def tw_c138 : List (Nat × tw_Op) := [(0, 11, 1, 0, 0, 0, 0, [], []), (1, 0, 1, 0, 0, 0, 0, [], []), (2, 55, 3, 41, 0, 0, 0, [6, 0, 751], []), (5, 11, 1, 0, 0, 0, 0, [], []), (6, 7, 1, 1, 0, 0, 0, [], []), (7, 64, 3, 173, 0, 0, 0, [137, 2, 6, 967, 969, 44, 54, 970], []), (10, 47, 3, 0, 0, 0, 0, [22], []), (13, 7, 1, 2, 0, 0, 0, [], []), (14, 0, 1, 0, 0, 0, 0, [], []), (15, 0, 1, 0, 5, 5, 0, [], []), (16, 65, 3, 45, 0, 0, 0, [103, 3, 0, 832, 833, 54, 834], []), (19, 47, 3, 1, 0, 0, 0, [24], []), (22, 0, 1, 0, (-1), (-1), 0, [], []), (23, 66, 1, 1, 0, 0, 0, [], []), (24, 7, 1, 2, 0, 0, 0, [], []), (25, 0, 1, 0, 5, 5, 0, [], []), (26, 48, 3, 1, 0, 0, 0, [37], []), (29, 11, 1, 0, 0, 0, 0, [], []), (30, 7, 1, 1, 0, 0, 0, [], []), (31, 64, 3, 147, 0, 0, 0, [123, 2, 6, 911, 913, 38, 54, 914], []), (34, 51, 3, 0, 0, 0, 0, [43], []), (37, 11, 1, 0, 0, 0, 0, [], []), (38, 7, 1, 1, 0, 0, 0, [], []), (39, 7, 1, 2, 0, 0, 0, [], []), (40, 64, 3, 140, 0, 0, 0, [121, 3, 6, 907, 909, 37, 54, 910], []), (43, 66, 1, 1, 0, 0, 0, [], [])]
/-- ThawWordsModel.soundOf(II)I -/
def tw_c139 : List (Nat × tw_Op) := [(0, 11, 1, 0, 0, 0, 0, [], []), (1, 0, 1, 0, 0, 0, 0, [], []), (2, 55, 3, 41, 0, 0, 0, [6, 0, 751], []), (5, 11, 1, 0, 0, 0, 0, [], []), (6, 7, 1, 1, 0, 0, 0, [], []), (7, 64, 3, 173, 0, 0, 0, [137, 2, 6, 967, 969, 44, 54, 970], []), (10, 47, 3, 0, 0, 0, 0, [17], []), (13, 7, 1, 2, 0, 0, 0, [], []), (14, 47, 3, 3, 0, 0, 0, [19], []), (17, 0, 1, 0, (-1), (-1), 0, [], []), (18, 66, 1, 1, 0, 0, 0, [], []), (19, 7, 1, 2, 0, 0, 0, [], []), (20, 11, 1, 0, 0, 0, 0, [], []), (21, 7, 1, 1, 0, 0, 0, [], []), (22, 0, 1, 0, 4, 4, 0, [], []), (23, 64, 3, 140, 0, 0, 0, [121, 3, 6, 907, 909, 37, 54, 910], []), (26, 48, 3, 3, 0, 0, 0, [40], []), (29, 11, 1, 0, 0, 0, 0, [], []), (30, 7, 1, 1, 0, 0, 0, [], []), (31, 0, 1, 0, 5, 5, 0, [], []), (32, 7, 1, 2, 0, 0, 0, [], []), (33, 20, 1, 0, 0, 0, 0, [], []), (34, 64, 3, 140, 0, 0, 0, [121, 3, 6, 907, 909, 37, 54, 910], []), (37, 51, 3, 0, 0, 0, 0, [42], []), (40, 1, 2, 0, (-5), (-5), 0, [], []), (42, 66, 1, 1, 0, 0, 0, [], [])]
/-- ThawWordsModel.heard(III)I -/
def tw_c140 : List (Nat × tw_Op) := [(0, 11, 1, 0, 0, 0, 0, [], []), (1, 0, 1, 0, 0, 0, 0, [], []), (2, 55, 3, 41, 0, 0, 0, [6, 0, 751], []), (5, 11, 1, 0, 0, 0, 0, [], []), (6, 7, 1, 1, 0, 0, 0, [], []), (7, 64, 3, 163, 0, 0, 0, [129, 2, 6, 935, 937, 41, 54, 938], []), (10, 47, 3, 0, 0, 0, 0, [26], []), (13, 7, 1, 2, 0, 0, 0, [], []), (14, 47, 3, 2, 0, 0, 0, [26], []), (17, 7, 1, 3, 0, 0, 0, [], []), (18, 0, 1, 0, 0, 0, 0, [], []), (19, 0, 1, 0, 1, 1, 0, [], []), (20, 65, 3, 45, 0, 0, 0, [103, 3, 0, 832, 833, 54, 834], []), (23, 47, 3, 1, 0, 0, 0, [28], []), (26, 0, 1, 0, (-1), (-1), 0, [], []), (27, 66, 1, 1, 0, 0, 0, [], []), (28, 7, 1, 2, 0, 0, 0, [], []), (29, 11, 1, 0, 0, 0, 0, [], []), (30, 54, 3, 28, 0, 0, 0, [6, 22, 773], []), (33, 1, 2, 0, 7, 7, 0, [], []), (35, 7, 1, 1, 0, 0, 0, [], []), (36, 20, 1, 0, 0, 0, 0, [], []), (37, 56, 1, 0, 0, 0, 0, [], []), (38, 48, 3, 2, 0, 0, 0, [44], []), (41, 1, 2, 0, (-5), (-5), 0, [], []), (43, 66, 1, 1, 0, 0, 0, [], []), (44, 11, 1, 0, 0, 0, 0, [], []), (45, 54, 3, 28, 0, 0, 0, [6, 22, 773], []), (48, 1, 2, 0, 123, 123, 0, [], []), (50, 1, 2, 0, 60, 60, 0, [], []), (52, 7, 1, 1, 0, 0, 0, [], []), (53, 22, 1, 0, 0, 0, 0, [], []), (54, 20, 1, 0, 0, 0, 0, [], []), (55, 7, 1, 2, 0, 0, 0, [], []), (56, 20, 1, 0, 0, 0, 0, [], []), (57, 56, 1, 0, 0, 0, 0, [], []), (58, 14, 2, 4, 0, 0, 0, [], []), (60, 7, 1, 3, 0, 0, 0, [], []), (61, 47, 3, 1, 0, 0, 0, [72], []), (64, 8, 2, 4, 0, 0, 0, [], []), (66, 1, 2, 0, 8, 8, 0, [], []), (68, 23, 1, 0, 0, 0, 0, [], []), (69, 51, 3, 0, 0, 0, 0, [77], []), (72, 8, 2, 4, 0, 0, 0, [], []), (74, 1, 2, 0, 8, 8, 0, [], []), (76, 24, 1, 0, 0, 0, 0, [], []), (77, 66, 1, 1, 0, 0, 0, [], [])]
/-- ThawWordsModel.now(I)I -/
def tw_c141 : List (Nat × tw_Op) := [(0, 11, 1, 0, 0, 0, 0, [], []), (1, 0, 1, 0, 0, 0, 0, [], []), (2, 55, 3, 41, 0, 0, 0, [6, 0, 751], []), (5, 7, 1, 1, 0, 0, 0, [], []), (6, 47, 3, 1, 0, 0, 0, [18], []), (9, 11, 1, 0, 0, 0, 0, [], []), (10, 54, 3, 28, 0, 0, 0, [6, 22, 773], []), (13, 0, 1, 0, 0, 0, 0, [], []), (14, 56, 1, 0, 0, 0, 0, [], []), (15, 51, 3, 0, 0, 0, 0, [60], []), (18, 7, 1, 1, 0, 0, 0, [], []), (19, 0, 1, 0, 1, 1, 0, [], []), (20, 48, 3, 1, 0, 0, 0, [31], []), (23, 11, 1, 0, 0, 0, 0, [], []), (24, 0, 1, 0, (-1), (-1), 0, [], []), (25, 64, 3, 157, 0, 0, 0, [124, 2, 6, 903, 905, 36, 54, 906], []), (28, 51, 3, 0, 0, 0, 0, [60], []), (31, 7, 1, 1, 0, 0, 0, [], []), (32, 0, 1, 0, 2, 2, 0, [], []), (33, 48, 3, 1, 0, 0, 0, [45], []), (36, 11, 1, 0, 0, 0, 0, [], []), (37, 54, 3, 28, 0, 0, 0, [6, 22, 773], []), (40, 0, 1, 0, 2, 2, 0, [], []), (41, 56, 1, 0, 0, 0, 0, [], []), (42, 51, 3, 0, 0, 0, 0, [60], []), (45, 7, 1, 1, 0, 0, 0, [], []), (46, 0, 1, 0, 3, 3, 0, [], []), (47, 48, 3, 1, 0, 0, 0, [59], []), (50, 11, 1, 0, 0, 0, 0, [], []), (51, 54, 3, 28, 0, 0, 0, [6, 22, 773], []), (54, 0, 1, 0, 1, 1, 0, [], []), (55, 56, 1, 0, 0, 0, 0, [], []), (56, 51, 3, 0, 0, 0, 0, [60], []), (59, 0, 1, 0, (-1), (-1), 0, [], []), (60, 66, 1, 1, 0, 0, 0, [], [])]
/-- ThawWordsModel.anew()I -/
def tw_c142 : List (Nat × tw_Op) := [(0, 11, 1, 0, 0, 0, 0, [], []), (1, 0, 1, 0, 0, 0, 0, [], []), (2, 55, 3, 41, 0, 0, 0, [6, 0, 751], []), (5, 11, 1, 0, 0, 0, 0, [], []), (6, 54, 3, 28, 0, 0, 0, [6, 22, 773], []), (9, 0, 1, 0, 0, 0, 0, [], []), (10, 56, 1, 0, 0, 0, 0, [], []), (11, 13, 1, 1, 0, 0, 0, [], []), (12, 11, 1, 0, 0, 0, 0, [], []), (13, 64, 3, 38, 0, 0, 0, [102, 1, 6, 747, 749, 24, 54, 750], []), (16, 7, 1, 1, 0, 0, 0, [], []), (17, 66, 1, 1, 0, 0, 0, [], [])]
/-- ThawWordsModel.hourFrom(III)I -/
def tw_c143 : List (Nat × tw_Op) := [(0, 7, 1, 1, 0, 0, 0, [], []), (1, 14, 2, 4, 0, 0, 0, [], []), (3, 8, 2, 4, 0, 0, 0, [], []), (5, 1, 2, 0, 100, 100, 0, [], []), (7, 48, 3, 3, 0, 0, 0, [64], []), (10, 8, 2, 4, 0, 0, 0, [], []), (12, 11, 1, 0, 0, 0, 0, [], []), (13, 54, 3, 28, 0, 0, 0, [6, 22, 773], []), (16, 0, 1, 0, 0, 0, 0, [], []), (17, 56, 1, 0, 0, 0, 0, [], []), (18, 48, 3, 1, 0, 0, 0, [29], []), (21, 11, 1, 0, 0, 0, 0, [], []), (22, 7, 1, 2, 0, 0, 0, [], []), (23, 64, 3, 154, 0, 0, 0, [120, 2, 6, 891, 893, 33, 54, 894], []), (26, 51, 3, 0, 0, 0, 0, [42], []), (29, 11, 1, 0, 0, 0, 0, [], []), (30, 8, 2, 4, 0, 0, 0, [], []), (32, 64, 3, 134, 0, 0, 0, [118, 2, 6, 895, 897, 34, 54, 898], []), (35, 11, 1, 0, 0, 0, 0, [], []), (36, 54, 3, 13, 0, 0, 0, [6, 9, 760], []), (39, 7, 1, 2, 0, 0, 0, [], []), (40, 56, 1, 0, 0, 0, 0, [], []), (41, 21, 1, 0, 0, 0, 0, [], []), (42, 14, 2, 5, 0, 0, 0, [], []), (44, 11, 1, 0, 0, 0, 0, [], []), (45, 54, 3, 19, 0, 0, 0, [6, 11, 762], []), (48, 7, 1, 3, 0, 0, 0, [], []), (49, 56, 1, 0, 0, 0, 0, [], []), (50, 8, 2, 5, 0, 0, 0, [], []), (52, 48, 3, 4, 0, 0, 0, [58], []), (55, 8, 2, 4, 0, 0, 0, [], []), (57, 66, 1, 1, 0, 0, 0, [], []), (58, 19, 3, 4, 1, 1, 0, [], []), (61, 51, 3, 0, 0, 0, 0, [3], []), (64, 1, 2, 0, (-9), (-9), 0, [], []), (66, 66, 1, 1, 0, 0, 0, [], [])]
/-- ThawWordsModel.whenOf(II)I -/
def tw_c144 : List (Nat × tw_Op) := [(0, 11, 1, 0, 0, 0, 0, [], []), (1, 7, 1, 1, 0, 0, 0, [], []), (2, 1, 2, 0, 9, 9, 0, [], []), (4, 7, 1, 2, 0, 0, 0, [], []), (5, 20, 1, 0, 0, 0, 0, [], []), (6, 64, 3, 140, 0, 0, 0, [121, 3, 6, 907, 909, 37, 54, 910], []), (9, 47, 3, 2, 0, 0, 0, [24], []), (12, 11, 1, 0, 0, 0, 0, [], []), (13, 7, 1, 1, 0, 0, 0, [], []), (14, 1, 2, 0, 9, 9, 0, [], []), (16, 7, 1, 2, 0, 0, 0, [], []), (17, 20, 1, 0, 0, 0, 0, [], []), (18, 64, 3, 140, 0, 0, 0, [121, 3, 6, 907, 909, 37, 54, 910], []), (21, 51, 3, 0, 0, 0, 0, [50], []), (24, 11, 1, 0, 0, 0, 0, [], []), (25, 11, 1, 0, 0, 0, 0, [], []), (26, 54, 3, 28, 0, 0, 0, [6, 22, 773], []), (29, 0, 1, 0, 0, 0, 0, [], []), (30, 56, 1, 0, 0, 0, 0, [], []), (31, 0, 1, 0, 1, 1, 0, [], []), (32, 20, 1, 0, 0, 0, 0, [], []), (33, 11, 1, 0, 0, 0, 0, [], []), (34, 7, 1, 1, 0, 0, 0, [], []), (35, 0, 1, 0, 1, 1, 0, [], []), (36, 64, 3, 140, 0, 0, 0, [121, 3, 6, 907, 909, 37, 54, 910], []), (39, 11, 1, 0, 0, 0, 0, [], []), (40, 7, 1, 1, 0, 0, 0, [], []), (41, 0, 1, 0, 5, 5, 0, [], []), (42, 7, 1, 2, 0, 0, 0, [], []), (43, 20, 1, 0, 0, 0, 0, [], []), (44, 64, 3, 140, 0, 0, 0, [121, 3, 6, 907, 909, 37, 54, 910], []), (47, 64, 3, 176, 0, 0, 0, [143, 4, 6, 995, 997, 46, 54, 998], []), (50, 66, 1, 1, 0, 0, 0, [], [])]
/-- ThawWordsModel.when(II)I -/
def tw_c145 : List (Nat × tw_Op) := [(0, 11, 1, 0, 0, 0, 0, [], []), (1, 0, 1, 0, 0, 0, 0, [], []), (2, 55, 3, 41, 0, 0, 0, [6, 0, 751], []), (5, 11, 1, 0, 0, 0, 0, [], []), (6, 7, 1, 1, 0, 0, 0, [], []), (7, 64, 3, 173, 0, 0, 0, [137, 2, 6, 967, 969, 44, 54, 970], []), (10, 47, 3, 0, 0, 0, 0, [38], []), (13, 7, 1, 2, 0, 0, 0, [], []), (14, 0, 1, 0, 0, 0, 0, [], []), (15, 11, 1, 0, 0, 0, 0, [], []), (16, 7, 1, 1, 0, 0, 0, [], []), (17, 0, 1, 0, 4, 4, 0, [], []), (18, 64, 3, 140, 0, 0, 0, [121, 3, 6, 907, 909, 37, 54, 910], []), (21, 0, 1, 0, 1, 1, 0, [], []), (22, 21, 1, 0, 0, 0, 0, [], []), (23, 65, 3, 45, 0, 0, 0, [103, 3, 0, 832, 833, 54, 834], []), (26, 47, 3, 0, 0, 0, 0, [38], []), (29, 11, 1, 0, 0, 0, 0, [], []), (30, 7, 1, 1, 0, 0, 0, [], []), (31, 7, 1, 2, 0, 0, 0, [], []), (32, 64, 3, 180, 0, 0, 0, [144, 3, 6, 991, 993, 45, 54, 994], []), (35, 51, 3, 0, 0, 0, 0, [39], []), (38, 0, 1, 0, (-1), (-1), 0, [], []), (39, 66, 1, 1, 0, 0, 0, [], [])]
/-- ThawWordsModel.whole(I)I -/
def tw_c146 : List (Nat × tw_Op) := [(0, 11, 1, 0, 0, 0, 0, [], []), (1, 0, 1, 0, 0, 0, 0, [], []), (2, 55, 3, 41, 0, 0, 0, [6, 0, 751], []), (5, 11, 1, 0, 0, 0, 0, [], []), (6, 7, 1, 1, 0, 0, 0, [], []), (7, 64, 3, 173, 0, 0, 0, [137, 2, 6, 967, 969, 44, 54, 970], []), (10, 47, 3, 1, 0, 0, 0, [15], []), (13, 0, 1, 0, (-1), (-1), 0, [], []), (14, 66, 1, 1, 0, 0, 0, [], []), (15, 0, 1, 0, 0, 0, 0, [], []), (16, 13, 1, 2, 0, 0, 0, [], []), (17, 0, 1, 0, 0, 0, 0, [], []), (18, 13, 1, 3, 0, 0, 0, [], []), (19, 7, 1, 3, 0, 0, 0, [], []), (20, 11, 1, 0, 0, 0, 0, [], []), (21, 7, 1, 1, 0, 0, 0, [], []), (22, 0, 1, 0, 4, 4, 0, [], []), (23, 64, 3, 140, 0, 0, 0, [121, 3, 6, 907, 909, 37, 54, 910], []), (26, 48, 3, 3, 0, 0, 0, [74], []), (29, 7, 1, 2, 0, 0, 0, [], []), (30, 1, 2, 0, (-9), (-9), 0, [], []), (32, 48, 3, 0, 0, 0, 0, [74], []), (35, 11, 1, 0, 0, 0, 0, [], []), (36, 7, 1, 1, 0, 0, 0, [], []), (37, 7, 1, 3, 0, 0, 0, [], []), (38, 64, 3, 180, 0, 0, 0, [144, 3, 6, 991, 993, 45, 54, 994], []), (41, 14, 2, 4, 0, 0, 0, [], []), (43, 8, 2, 4, 0, 0, 0, [], []), (45, 1, 2, 0, (-9), (-9), 0, [], []), (47, 48, 3, 1, 0, 0, 0, [55], []), (50, 1, 2, 0, (-9), (-9), 0, [], []), (52, 51, 3, 0, 0, 0, 0, [67], []), (55, 8, 2, 4, 0, 0, 0, [], []), (57, 7, 1, 2, 0, 0, 0, [], []), (58, 48, 3, 5, 0, 0, 0, [66], []), (61, 8, 2, 4, 0, 0, 0, [], []), (63, 51, 3, 0, 0, 0, 0, [67], []), (66, 7, 1, 2, 0, 0, 0, [], []), (67, 13, 1, 2, 0, 0, 0, [], []), (68, 19, 3, 3, 1, 1, 0, [], []), (71, 51, 3, 0, 0, 0, 0, [19], []), (74, 7, 1, 2, 0, 0, 0, [], []), (75, 66, 1, 1, 0, 0, 0, [], [])]
/-- ThawWordsModel.hours(III)I -/
def tw_c147 : List (Nat × tw_Op) := [(0, 11, 1, 0, 0, 0, 0, [], []), (1, 0, 1, 0, 0, 0, 0, [], []), (2, 55, 3, 41, 0, 0, 0, [6, 0, 751], []), (5, 11, 1, 0, 0, 0, 0, [], []), (6, 7, 1, 1, 0, 0, 0, [], []), (7, 64, 3, 160, 0, 0, 0, [127, 2, 6, 927, 929, 40, 54, 930], []), (10, 47, 3, 0, 0, 0, 0, [31], []), (13, 11, 1, 0, 0, 0, 0, [], []), (14, 7, 1, 2, 0, 0, 0, [], []), (15, 64, 3, 150, 0, 0, 0, [117, 2, 6, 886, 888, 32, 54, 889], []), (18, 47, 3, 0, 0, 0, 0, [31], []), (21, 7, 1, 3, 0, 0, 0, [], []), (22, 0, 1, 0, 0, 0, 0, [], []), (23, 1, 2, 0, 99, 99, 0, [], []), (25, 65, 3, 45, 0, 0, 0, [103, 3, 0, 832, 833, 54, 834], []), (28, 47, 3, 1, 0, 0, 0, [33], []), (31, 0, 1, 0, (-1), (-1), 0, [], []), (32, 66, 1, 1, 0, 0, 0, [], []), (33, 0, 1, 0, 0, 0, 0, [], []), (34, 14, 2, 4, 0, 0, 0, [], []), (36, 0, 1, 0, 0, 0, 0, [], []), (37, 14, 2, 5, 0, 0, 0, [], []), (39, 8, 2, 5, 0, 0, 0, [], []), (41, 1, 2, 0, 24, 24, 0, [], []), (43, 48, 3, 3, 0, 0, 0, [98], []), (46, 11, 1, 0, 0, 0, 0, [], []), (47, 54, 3, 28, 0, 0, 0, [6, 22, 773], []), (50, 0, 1, 0, 0, 0, 0, [], []), (51, 56, 1, 0, 0, 0, 0, [], []), (52, 8, 2, 5, 0, 0, 0, [], []), (54, 20, 1, 0, 0, 0, 0, [], []), (55, 1, 2, 0, 100, 100, 0, [], []), (57, 48, 3, 3, 0, 0, 0, [98], []), (60, 8, 2, 4, 0, 0, 0, [], []), (62, 11, 1, 0, 0, 0, 0, [], []), (63, 11, 1, 0, 0, 0, 0, [], []), (64, 54, 3, 28, 0, 0, 0, [6, 22, 773], []), (67, 0, 1, 0, 0, 0, 0, [], []), (68, 56, 1, 0, 0, 0, 0, [], []), (69, 8, 2, 5, 0, 0, 0, [], []), (71, 20, 1, 0, 0, 0, 0, [], []), (72, 7, 1, 2, 0, 0, 0, [], []), (73, 7, 1, 1, 0, 0, 0, [], []), (74, 64, 3, 176, 0, 0, 0, [143, 4, 6, 995, 997, 46, 54, 998], []), (77, 7, 1, 3, 0, 0, 0, [], []), (78, 48, 3, 1, 0, 0, 0, [88], []), (81, 0, 1, 0, 1, 1, 0, [], []), (82, 8, 2, 5, 0, 0, 0, [], []), (84, 28, 1, 0, 0, 0, 0, [], []), (85, 51, 3, 0, 0, 0, 0, [89], []), (88, 0, 1, 0, 0, 0, 0, [], []), (89, 26, 1, 0, 0, 0, 0, [], []), (90, 14, 2, 4, 0, 0, 0, [], []), (92, 19, 3, 5, 1, 1, 0, [], []), (95, 51, 3, 0, 0, 0, 0, [39], []), (98, 8, 2, 4, 0, 0, 0, [], []), (100, 66, 1, 1, 0, 0, 0, [], [])]
/-- ThawWordsModel.fits(I)I -/
def tw_c148 : List (Nat × tw_Op) := [(0, 11, 1, 0, 0, 0, 0, [], []), (1, 0, 1, 0, 0, 0, 0, [], []), (2, 55, 3, 41, 0, 0, 0, [6, 0, 751], []), (5, 11, 1, 0, 0, 0, 0, [], []), (6, 7, 1, 1, 0, 0, 0, [], []), (7, 64, 3, 163, 0, 0, 0, [129, 2, 6, 935, 937, 41, 54, 938], []), (10, 47, 3, 1, 0, 0, 0, [15], []), (13, 0, 1, 0, (-1), (-1), 0, [], []), (14, 66, 1, 1, 0, 0, 0, [], []), (15, 0, 1, 0, 0, 0, 0, [], []), (16, 13, 1, 2, 0, 0, 0, [], []), (17, 0, 1, 0, 0, 0, 0, [], []), (18, 13, 1, 3, 0, 0, 0, [], []), (19, 7, 1, 3, 0, 0, 0, [], []), (20, 11, 1, 0, 0, 0, 0, [], []), (21, 54, 3, 28, 0, 0, 0, [6, 22, 773], []), (24, 0, 1, 0, 2, 2, 0, [], []), (25, 56, 1, 0, 0, 0, 0, [], []), (26, 48, 3, 3, 0, 0, 0, [133], []), (29, 0, 1, 0, 0, 0, 0, [], []), (30, 14, 2, 4, 0, 0, 0, [], []), (32, 0, 1, 0, 0, 0, 0, [], []), (33, 14, 2, 5, 0, 0, 0, [], []), (35, 8, 2, 5, 0, 0, 0, [], []), (37, 11, 1, 0, 0, 0, 0, [], []), (38, 54, 3, 28, 0, 0, 0, [6, 22, 773], []), (41, 1, 2, 0, 7, 7, 0, [], []), (43, 7, 1, 1, 0, 0, 0, [], []), (44, 20, 1, 0, 0, 0, 0, [], []), (45, 56, 1, 0, 0, 0, 0, [], []), (46, 48, 3, 3, 0, 0, 0, [106], []), (49, 8, 2, 4, 0, 0, 0, [], []), (51, 8, 2, 4, 0, 0, 0, [], []), (53, 11, 1, 0, 0, 0, 0, [], []), (54, 7, 1, 3, 0, 0, 0, [], []), (55, 0, 1, 0, 4, 4, 0, [], []), (56, 64, 3, 140, 0, 0, 0, [121, 3, 6, 907, 909, 37, 54, 910], []), (59, 48, 3, 3, 0, 0, 0, [96], []), (62, 11, 1, 0, 0, 0, 0, [], []), (63, 54, 3, 28, 0, 0, 0, [6, 22, 773], []), (66, 1, 2, 0, 123, 123, 0, [], []), (68, 1, 2, 0, 60, 60, 0, [], []), (70, 7, 1, 1, 0, 0, 0, [], []), (71, 22, 1, 0, 0, 0, 0, [], []), (72, 20, 1, 0, 0, 0, 0, [], []), (73, 8, 2, 5, 0, 0, 0, [], []), (75, 20, 1, 0, 0, 0, 0, [], []), (76, 56, 1, 0, 0, 0, 0, [], []), (77, 1, 2, 0, 8, 8, 0, [], []), (79, 24, 1, 0, 0, 0, 0, [], []), (80, 11, 1, 0, 0, 0, 0, [], []), (81, 7, 1, 3, 0, 0, 0, [], []), (82, 0, 1, 0, 5, 5, 0, [], []), (83, 8, 2, 4, 0, 0, 0, [], []), (85, 20, 1, 0, 0, 0, 0, [], []), (86, 64, 3, 140, 0, 0, 0, [121, 3, 6, 907, 909, 37, 54, 910], []), (89, 48, 3, 1, 0, 0, 0, [96], []), (92, 0, 1, 0, 1, 1, 0, [], []), (93, 51, 3, 0, 0, 0, 0, [97], []), (96, 0, 1, 0, 0, 0, 0, [], []), (97, 20, 1, 0, 0, 0, 0, [], []), (98, 14, 2, 4, 0, 0, 0, [], []), (100, 19, 3, 5, 1, 1, 0, [], []), (103, 51, 3, 0, 0, 0, 0, [35], []), (106, 7, 1, 2, 0, 0, 0, [], []), (107, 8, 2, 4, 0, 0, 0, [], []), (109, 11, 1, 0, 0, 0, 0, [], []), (110, 7, 1, 3, 0, 0, 0, [], []), (111, 0, 1, 0, 4, 4, 0, [], []), (112, 64, 3, 140, 0, 0, 0, [121, 3, 6, 907, 909, 37, 54, 910], []), (115, 48, 3, 1, 0, 0, 0, [124], []), (118, 0, 1, 0, 1, 1, 0, [], []), (119, 7, 1, 3, 0, 0, 0, [], []), (120, 28, 1, 0, 0, 0, 0, [], []), (121, 51, 3, 0, 0, 0, 0, [125], []), (124, 0, 1, 0, 0, 0, 0, [], []), (125, 26, 1, 0, 0, 0, 0, [], []), (126, 13, 1, 2, 0, 0, 0, [], []), (127, 19, 3, 3, 1, 1, 0, [], []), (130, 51, 3, 0, 0, 0, 0, [19], []), (133, 7, 1, 2, 0, 0, 0, [], []), (134, 66, 1, 1, 0, 0, 0, [], [])]
/-- ThawWordsModel.lanterns(II)I -/
def tw_c149 : List (Nat × tw_Op) := [(0, 11, 1, 0, 0, 0, 0, [], []), (1, 0, 1, 0, 0, 0, 0, [], []), (2, 55, 3, 41, 0, 0, 0, [6, 0, 751], []), (5, 0, 1, 0, 0, 0, 0, [], []), (6, 13, 1, 3, 0, 0, 0, [], []), (7, 0, 1, 0, 0, 0, 0, [], []), (8, 14, 2, 4, 0, 0, 0, [], []), (10, 8, 2, 4, 0, 0, 0, [], []), (12, 11, 1, 0, 0, 0, 0, [], []), (13, 54, 3, 28, 0, 0, 0, [6, 22, 773], []), (16, 0, 1, 0, 2, 2, 0, [], []), (17, 56, 1, 0, 0, 0, 0, [], []), (18, 48, 3, 3, 0, 0, 0, [62], []), (21, 7, 1, 3, 0, 0, 0, [], []), (22, 7, 1, 1, 0, 0, 0, [], []), (23, 8, 2, 4, 0, 0, 0, [], []), (25, 29, 1, 0, 0, 0, 0, [], []), (26, 0, 1, 0, 1, 1, 0, [], []), (27, 25, 1, 0, 0, 0, 0, [], []), (28, 0, 1, 0, 1, 1, 0, [], []), (29, 48, 3, 1, 0, 0, 0, [53], []), (32, 11, 1, 0, 0, 0, 0, [], []), (33, 8, 2, 4, 0, 0, 0, [], []), (35, 64, 3, 147, 0, 0, 0, [123, 2, 6, 911, 913, 38, 54, 914], []), (38, 47, 3, 5, 0, 0, 0, [53], []), (41, 0, 1, 0, 1, 1, 0, [], []), (42, 11, 1, 0, 0, 0, 0, [], []), (43, 8, 2, 4, 0, 0, 0, [], []), (45, 0, 1, 0, 1, 1, 0, [], []), (46, 64, 3, 140, 0, 0, 0, [121, 3, 6, 907, 909, 37, 54, 910], []), (49, 28, 1, 0, 0, 0, 0, [], []), (50, 51, 3, 0, 0, 0, 0, [54], []), (53, 0, 1, 0, 0, 0, 0, [], []), (54, 26, 1, 0, 0, 0, 0, [], []), (55, 13, 1, 3, 0, 0, 0, [], []), (56, 19, 3, 4, 1, 1, 0, [], []), (59, 51, 3, 0, 0, 0, 0, [10], []), (62, 7, 1, 3, 0, 0, 0, [], []), (63, 11, 1, 0, 0, 0, 0, [], []), (64, 54, 3, 28, 0, 0, 0, [6, 22, 773], []), (67, 0, 1, 0, 1, 1, 0, [], []), (68, 56, 1, 0, 0, 0, 0, [], []), (69, 25, 1, 0, 0, 0, 0, [], []), (70, 47, 3, 0, 0, 0, 0, [76], []), (73, 1, 2, 0, (-9), (-9), 0, [], []), (75, 66, 1, 1, 0, 0, 0, [], []), (76, 0, 1, 0, 0, 0, 0, [], []), (77, 14, 2, 4, 0, 0, 0, [], []), (79, 8, 2, 4, 0, 0, 0, [], []), (81, 11, 1, 0, 0, 0, 0, [], []), (82, 54, 3, 28, 0, 0, 0, [6, 22, 773], []), (85, 0, 1, 0, 2, 2, 0, [], []), (86, 56, 1, 0, 0, 0, 0, [], []), (87, 48, 3, 3, 0, 0, 0, [208], []), (90, 0, 1, 0, 0, 0, 0, [], []), (91, 14, 2, 5, 0, 0, 0, [], []), (93, 8, 2, 5, 0, 0, 0, [], []), (95, 0, 1, 0, 4, 4, 0, [], []), (96, 48, 3, 3, 0, 0, 0, [202], []), (99, 11, 1, 0, 0, 0, 0, [], []), (100, 8, 2, 4, 0, 0, 0, [], []), (102, 8, 2, 5, 0, 0, 0, [], []), (104, 64, 3, 143, 0, 0, 0, [122, 3, 6, 915, 917, 39, 54, 918], []), (107, 47, 3, 0, 0, 0, 0, [196], []), (110, 7, 1, 3, 0, 0, 0, [], []), (111, 11, 1, 0, 0, 0, 0, [], []), (112, 8, 2, 4, 0, 0, 0, [], []), (114, 0, 1, 0, 1, 1, 0, [], []), (115, 64, 3, 140, 0, 0, 0, [121, 3, 6, 907, 909, 37, 54, 910], []), (118, 29, 1, 0, 0, 0, 0, [], []), (119, 0, 1, 0, 1, 1, 0, [], []), (120, 25, 1, 0, 0, 0, 0, [], []), (121, 0, 1, 0, 1, 1, 0, [], []), (122, 48, 3, 1, 0, 0, 0, [196], []), (125, 11, 1, 0, 0, 0, 0, [], []), (126, 54, 3, 19, 0, 0, 0, [6, 11, 762], []), (129, 11, 1, 0, 0, 0, 0, [], []), (130, 8, 2, 4, 0, 0, 0, [], []), (132, 0, 1, 0, 5, 5, 0, [], []), (133, 8, 2, 5, 0, 0, 0, [], []), (135, 20, 1, 0, 0, 0, 0, [], []), (136, 64, 3, 140, 0, 0, 0, [121, 3, 6, 907, 909, 37, 54, 910], []), (139, 56, 1, 0, 0, 0, 0, [], []), (140, 11, 1, 0, 0, 0, 0, [], []), (141, 11, 1, 0, 0, 0, 0, [], []), (142, 8, 2, 4, 0, 0, 0, [], []), (144, 0, 1, 0, 1, 1, 0, [], []), (145, 64, 3, 140, 0, 0, 0, [121, 3, 6, 907, 909, 37, 54, 910], []), (148, 64, 3, 154, 0, 0, 0, [120, 2, 6, 891, 893, 33, 54, 894], []), (151, 0, 1, 0, 5, 5, 0, [], []), (152, 20, 1, 0, 0, 0, 0, [], []), (153, 48, 3, 4, 0, 0, 0, [160], []), (156, 0, 1, 0, 1, 1, 0, [], []), (157, 51, 3, 0, 0, 0, 0, [161], []), (160, 0, 1, 0, 0, 0, 0, [], []), (161, 14, 2, 6, 0, 0, 0, [], []), (163, 7, 1, 1, 0, 0, 0, [], []), (164, 8, 2, 4, 0, 0, 0, [], []), (166, 29, 1, 0, 0, 0, 0, [], []), (167, 0, 1, 0, 1, 1, 0, [], []), (168, 25, 1, 0, 0, 0, 0, [], []), (169, 0, 1, 0, 1, 1, 0, [], []), (170, 48, 3, 1, 0, 0, 0, [178], []), (173, 8, 2, 6, 0, 0, 0, [], []), (175, 47, 3, 0, 0, 0, 0, [193], []), (178, 7, 1, 2, 0, 0, 0, [], []), (179, 8, 2, 4, 0, 0, 0, [], []), (181, 29, 1, 0, 0, 0, 0, [], []), (182, 0, 1, 0, 1, 1, 0, [], []), (183, 25, 1, 0, 0, 0, 0, [], []), (184, 0, 1, 0, 1, 1, 0, [], []), (185, 48, 3, 1, 0, 0, 0, [196], []), (188, 8, 2, 6, 0, 0, 0, [], []), (190, 47, 3, 0, 0, 0, 0, [196], []), (193, 1, 2, 0, (-9), (-9), 0, [], []), (195, 66, 1, 1, 0, 0, 0, [], []), (196, 19, 3, 5, 1, 1, 0, [], []), (199, 51, 3, 0, 0, 0, 0, [93], []), (202, 19, 3, 4, 1, 1, 0, [], []), (205, 51, 3, 0, 0, 0, 0, [79], []), (208, 7, 1, 3, 0, 0, 0, [], []), (209, 66, 1, 1, 0, 0, 0, [], [])]
/-- ThawWordsModel.answers(II)I -/
def tw_c150 : List (Nat × tw_Op) := [(0, 11, 1, 0, 0, 0, 0, [], []), (1, 0, 1, 0, 0, 0, 0, [], []), (2, 55, 3, 41, 0, 0, 0, [6, 0, 751], []), (5, 11, 1, 0, 0, 0, 0, [], []), (6, 7, 1, 1, 0, 0, 0, [], []), (7, 64, 3, 173, 0, 0, 0, [137, 2, 6, 967, 969, 44, 54, 970], []), (10, 47, 3, 0, 0, 0, 0, [26], []), (13, 11, 1, 0, 0, 0, 0, [], []), (14, 7, 1, 2, 0, 0, 0, [], []), (15, 64, 3, 173, 0, 0, 0, [137, 2, 6, 967, 969, 44, 54, 970], []), (18, 47, 3, 0, 0, 0, 0, [26], []), (21, 7, 1, 1, 0, 0, 0, [], []), (22, 7, 1, 2, 0, 0, 0, [], []), (23, 48, 3, 1, 0, 0, 0, [28], []), (26, 0, 1, 0, (-1), (-1), 0, [], []), (27, 66, 1, 1, 0, 0, 0, [], []), (28, 0, 1, 0, 1, 1, 0, [], []), (29, 13, 1, 3, 0, 0, 0, [], []), (30, 0, 1, 0, 0, 0, 0, [], []), (31, 14, 2, 4, 0, 0, 0, [], []), (33, 8, 2, 4, 0, 0, 0, [], []), (35, 11, 1, 0, 0, 0, 0, [], []), (36, 7, 1, 2, 0, 0, 0, [], []), (37, 0, 1, 0, 4, 4, 0, [], []), (38, 64, 3, 140, 0, 0, 0, [121, 3, 6, 907, 909, 37, 54, 910], []), (41, 48, 3, 3, 0, 0, 0, [92], []), (44, 7, 1, 3, 0, 0, 0, [], []), (45, 47, 3, 0, 0, 0, 0, [84], []), (48, 11, 1, 0, 0, 0, 0, [], []), (49, 7, 1, 2, 0, 0, 0, [], []), (50, 1, 2, 0, 9, 9, 0, [], []), (52, 8, 2, 4, 0, 0, 0, [], []), (54, 20, 1, 0, 0, 0, 0, [], []), (55, 64, 3, 140, 0, 0, 0, [121, 3, 6, 907, 909, 37, 54, 910], []), (58, 47, 3, 2, 0, 0, 0, [84], []), (61, 11, 1, 0, 0, 0, 0, [], []), (62, 7, 1, 2, 0, 0, 0, [], []), (63, 1, 2, 0, 9, 9, 0, [], []), (65, 8, 2, 4, 0, 0, 0, [], []), (67, 20, 1, 0, 0, 0, 0, [], []), (68, 64, 3, 140, 0, 0, 0, [121, 3, 6, 907, 909, 37, 54, 910], []), (71, 11, 1, 0, 0, 0, 0, [], []), (72, 7, 1, 1, 0, 0, 0, [], []), (73, 0, 1, 0, 2, 2, 0, [], []), (74, 64, 3, 140, 0, 0, 0, [121, 3, 6, 907, 909, 37, 54, 910], []), (77, 48, 3, 3, 0, 0, 0, [84], []), (80, 0, 1, 0, 1, 1, 0, [], []), (81, 51, 3, 0, 0, 0, 0, [85], []), (84, 0, 1, 0, 0, 0, 0, [], []), (85, 13, 1, 3, 0, 0, 0, [], []), (86, 19, 3, 4, 1, 1, 0, [], []), (89, 51, 3, 0, 0, 0, 0, [33], []), (92, 7, 1, 3, 0, 0, 0, [], []), (93, 47, 3, 0, 0, 0, 0, [100], []), (96, 0, 1, 0, 1, 1, 0, [], []), (97, 51, 3, 0, 0, 0, 0, [101], []), (100, 0, 1, 0, 0, 0, 0, [], []), (101, 66, 1, 1, 0, 0, 0, [], [])]
/-- ThawWordsModel.spoke(I)I -/
def tw_c151 : List (Nat × tw_Op) := [(0, 11, 1, 0, 0, 0, 0, [], []), (1, 0, 1, 0, 0, 0, 0, [], []), (2, 55, 3, 41, 0, 0, 0, [6, 0, 751], []), (5, 11, 1, 0, 0, 0, 0, [], []), (6, 7, 1, 1, 0, 0, 0, [], []), (7, 64, 3, 173, 0, 0, 0, [137, 2, 6, 967, 969, 44, 54, 970], []), (10, 47, 3, 1, 0, 0, 0, [15], []), (13, 0, 1, 0, (-1), (-1), 0, [], []), (14, 66, 1, 1, 0, 0, 0, [], []), (15, 0, 1, 0, 0, 0, 0, [], []), (16, 13, 1, 2, 0, 0, 0, [], []), (17, 0, 1, 0, 0, 0, 0, [], []), (18, 13, 1, 3, 0, 0, 0, [], []), (19, 7, 1, 3, 0, 0, 0, [], []), (20, 11, 1, 0, 0, 0, 0, [], []), (21, 54, 3, 131, 0, 0, 0, [6, 17, 768], []), (24, 48, 3, 3, 0, 0, 0, [88], []), (27, 11, 1, 0, 0, 0, 0, [], []), (28, 54, 3, 22, 0, 0, 0, [6, 12, 763], []), (31, 7, 1, 3, 0, 0, 0, [], []), (32, 56, 1, 0, 0, 0, 0, [], []), (33, 11, 1, 0, 0, 0, 0, [], []), (34, 54, 3, 22, 0, 0, 0, [6, 12, 763], []), (37, 11, 1, 0, 0, 0, 0, [], []), (38, 7, 1, 1, 0, 0, 0, [], []), (39, 0, 1, 0, 0, 0, 0, [], []), (40, 64, 3, 140, 0, 0, 0, [121, 3, 6, 907, 909, 37, 54, 910], []), (43, 56, 1, 0, 0, 0, 0, [], []), (44, 21, 1, 0, 0, 0, 0, [], []), (45, 14, 2, 4, 0, 0, 0, [], []), (47, 7, 1, 2, 0, 0, 0, [], []), (48, 11, 1, 0, 0, 0, 0, [], []), (49, 7, 1, 1, 0, 0, 0, [], []), (50, 1, 2, 0, 13, 13, 0, [], []), (52, 64, 3, 140, 0, 0, 0, [121, 3, 6, 907, 909, 37, 54, 910], []), (55, 7, 1, 3, 0, 0, 0, [], []), (56, 29, 1, 0, 0, 0, 0, [], []), (57, 0, 1, 0, 1, 1, 0, [], []), (58, 25, 1, 0, 0, 0, 0, [], []), (59, 0, 1, 0, 1, 1, 0, [], []), (60, 48, 3, 1, 0, 0, 0, [79], []), (63, 8, 2, 4, 0, 0, 0, [], []), (65, 0, 1, 0, (-1), (-1), 0, [], []), (66, 0, 1, 0, 1, 1, 0, [], []), (67, 65, 3, 45, 0, 0, 0, [103, 3, 0, 832, 833, 54, 834], []), (70, 47, 3, 0, 0, 0, 0, [79], []), (73, 0, 1, 0, 1, 1, 0, [], []), (74, 7, 1, 3, 0, 0, 0, [], []), (75, 28, 1, 0, 0, 0, 0, [], []), (76, 51, 3, 0, 0, 0, 0, [80], []), (79, 0, 1, 0, 0, 0, 0, [], []), (80, 26, 1, 0, 0, 0, 0, [], []), (81, 13, 1, 2, 0, 0, 0, [], []), (82, 19, 3, 3, 1, 1, 0, [], []), (85, 51, 3, 0, 0, 0, 0, [19], []), (88, 7, 1, 2, 0, 0, 0, [], []), (89, 66, 1, 1, 0, 0, 0, [], [])]
/-- ThawWordsModel.gcd(JJ)J -/
def tw_c152 : List (Nat × tw_Op) := [(0, 9, 1, 0, 0, 0, 0, [], []), (1, 16, 2, 4, 0, 0, 0, [], []), (3, 9, 1, 2, 0, 0, 0, [], []), (4, 16, 2, 6, 0, 0, 0, [], []), (6, 10, 2, 6, 0, 0, 0, [], []), (8, 4, 1, 0, 0, 0, 0, [], []), (9, 40, 1, 0, 0, 0, 0, [], []), (10, 47, 3, 0, 0, 0, 0, [31], []), (13, 10, 2, 4, 0, 0, 0, [], []), (15, 10, 2, 6, 0, 0, 0, [], []), (17, 35, 1, 0, 0, 0, 0, [], []), (18, 16, 2, 8, 0, 0, 0, [], []), (20, 10, 2, 6, 0, 0, 0, [], []), (22, 16, 2, 4, 0, 0, 0, [], []), (24, 10, 2, 8, 0, 0, 0, [], []), (26, 16, 2, 6, 0, 0, 0, [], []), (28, 51, 3, 0, 0, 0, 0, [6], []), (31, 10, 2, 4, 0, 0, 0, [], []), (33, 67, 1, 0, 0, 0, 0, [], [])]
/-- ThawWordsModel.odds(IIIII)J -/
def tw_c153 : List (Nat × tw_Op) := [(0, 11, 1, 0, 0, 0, 0, [], []), (1, 0, 1, 0, 0, 0, 0, [], []), (2, 55, 3, 41, 0, 0, 0, [6, 0, 751], []), (5, 11, 1, 0, 0, 0, 0, [], []), (6, 7, 1, 1, 0, 0, 0, [], []), (7, 64, 3, 160, 0, 0, 0, [127, 2, 6, 927, 929, 40, 54, 930], []), (10, 47, 3, 0, 0, 0, 0, [51], []), (13, 11, 1, 0, 0, 0, 0, [], []), (14, 7, 1, 2, 0, 0, 0, [], []), (15, 64, 3, 150, 0, 0, 0, [117, 2, 6, 886, 888, 32, 54, 889], []), (18, 47, 3, 0, 0, 0, 0, [51], []), (21, 7, 1, 3, 0, 0, 0, [], []), (22, 0, 1, 0, 0, 0, 0, [], []), (23, 0, 1, 0, 3, 3, 0, [], []), (24, 65, 3, 45, 0, 0, 0, [103, 3, 0, 832, 833, 54, 834], []), (27, 47, 3, 0, 0, 0, 0, [51], []), (30, 8, 2, 4, 0, 0, 0, [], []), (32, 0, 1, 0, 1, 1, 0, [], []), (33, 1, 2, 0, 6, 6, 0, [], []), (35, 65, 3, 45, 0, 0, 0, [103, 3, 0, 832, 833, 54, 834], []), (38, 47, 3, 0, 0, 0, 0, [51], []), (41, 8, 2, 5, 0, 0, 0, [], []), (43, 0, 1, 0, 0, 0, 0, [], []), (44, 0, 1, 0, 1, 1, 0, [], []), (45, 65, 3, 45, 0, 0, 0, [103, 3, 0, 832, 833, 54, 834], []), (48, 47, 3, 1, 0, 0, 0, [55], []), (51, 5, 3, 183, 0, 0, (-1000000), [1027], []), (54, 67, 1, 0, 0, 0, 0, [], []), (55, 4, 1, 1, 0, 0, 1, [], []), (56, 16, 2, 6, 0, 0, 0, [], []), (58, 4, 1, 1, 0, 0, 1, [], []), (59, 16, 2, 8, 0, 0, 0, [], []), (61, 11, 1, 0, 0, 0, 0, [], []), (62, 54, 3, 28, 0, 0, 0, [6, 22, 773], []), (65, 0, 1, 0, 0, 0, 0, [], []), (66, 56, 1, 0, 0, 0, 0, [], []), (67, 0, 1, 0, 1, 1, 0, [], []), (68, 20, 1, 0, 0, 0, 0, [], []), (69, 14, 2, 10, 0, 0, 0, [], []), (71, 8, 2, 10, 0, 0, 0, [], []), (73, 11, 1, 0, 0, 0, 0, [], []), (74, 54, 3, 28, 0, 0, 0, [6, 22, 773], []), (77, 0, 1, 0, 0, 0, 0, [], []), (78, 56, 1, 0, 0, 0, 0, [], []), (79, 8, 2, 4, 0, 0, 0, [], []), (81, 20, 1, 0, 0, 0, 0, [], []), (82, 48, 3, 4, 0, 0, 0, [164], []), (85, 0, 1, 0, 0, 0, 0, [], []), (86, 14, 2, 11, 0, 0, 0, [], []), (88, 7, 1, 3, 0, 0, 0, [], []), (89, 30, 1, 0, 0, 0, 0, [], []), (90, 14, 2, 12, 0, 0, 0, [], []), (92, 8, 2, 12, 0, 0, 0, [], []), (94, 7, 1, 3, 0, 0, 0, [], []), (95, 48, 3, 4, 0, 0, 0, [139], []), (98, 8, 2, 11, 0, 0, 0, [], []), (100, 11, 1, 0, 0, 0, 0, [], []), (101, 54, 3, 19, 0, 0, 0, [6, 11, 762], []), (104, 7, 1, 1, 0, 0, 0, [], []), (105, 56, 1, 0, 0, 0, 0, [], []), (106, 11, 1, 0, 0, 0, 0, [], []), (107, 8, 2, 10, 0, 0, 0, [], []), (109, 64, 3, 134, 0, 0, 0, [118, 2, 6, 895, 897, 34, 54, 898], []), (112, 8, 2, 12, 0, 0, 0, [], []), (114, 20, 1, 0, 0, 0, 0, [], []), (115, 11, 1, 0, 0, 0, 0, [], []), (116, 54, 3, 13, 0, 0, 0, [6, 9, 760], []), (119, 7, 1, 2, 0, 0, 0, [], []), (120, 56, 1, 0, 0, 0, 0, [], []), (121, 21, 1, 0, 0, 0, 0, [], []), (122, 48, 3, 5, 0, 0, 0, [129], []), (125, 0, 1, 0, 1, 1, 0, [], []), (126, 51, 3, 0, 0, 0, 0, [130], []), (129, 0, 1, 0, 0, 0, 0, [], []), (130, 20, 1, 0, 0, 0, 0, [], []), (131, 14, 2, 11, 0, 0, 0, [], []), (133, 19, 3, 12, 1, 1, 0, [], []), (136, 51, 3, 0, 0, 0, 0, [92], []), (139, 10, 2, 6, 0, 0, 0, [], []), (141, 8, 2, 11, 0, 0, 0, [], []), (143, 41, 1, 0, 0, 0, 0, [], []), (144, 33, 1, 0, 0, 0, 0, [], []), (145, 16, 2, 6, 0, 0, 0, [], []), (147, 10, 2, 8, 0, 0, 0, [], []), (149, 0, 1, 0, 2, 2, 0, [], []), (150, 7, 1, 3, 0, 0, 0, [], []), (151, 22, 1, 0, 0, 0, 0, [], []), (152, 0, 1, 0, 1, 1, 0, [], []), (153, 20, 1, 0, 0, 0, 0, [], []), (154, 41, 1, 0, 0, 0, 0, [], []), (155, 33, 1, 0, 0, 0, 0, [], []), (156, 16, 2, 8, 0, 0, 0, [], []), (158, 19, 3, 10, 1, 1, 0, [], []), (161, 51, 3, 0, 0, 0, 0, [71], []), (164, 10, 2, 8, 0, 0, 0, [], []), (166, 10, 2, 6, 0, 0, 0, [], []), (168, 32, 1, 0, 0, 0, 0, [], []), (169, 10, 2, 8, 0, 0, 0, [], []), (171, 65, 3, 185, 0, 0, 0, [152, 2, 0, 1028, 1029, 54, 1030], []), (174, 16, 2, 10, 0, 0, 0, [], []), (176, 8, 2, 5, 0, 0, 0, [], []), (178, 47, 3, 1, 0, 0, 0, [192], []), (181, 10, 2, 8, 0, 0, 0, [], []), (183, 10, 2, 6, 0, 0, 0, [], []), (185, 32, 1, 0, 0, 0, 0, [], []), (186, 10, 2, 10, 0, 0, 0, [], []), (188, 34, 1, 0, 0, 0, 0, [], []), (189, 51, 3, 0, 0, 0, 0, [197], []), (192, 10, 2, 8, 0, 0, 0, [], []), (194, 10, 2, 10, 0, 0, 0, [], []), (196, 34, 1, 0, 0, 0, 0, [], []), (197, 67, 1, 0, 0, 0, 0, [], [])]
/-- ThawWordsModel.rate(II)I -/
def tw_c154 : List (Nat × tw_Op) := [(0, 11, 1, 0, 0, 0, 0, [], []), (1, 0, 1, 0, 0, 0, 0, [], []), (2, 55, 3, 41, 0, 0, 0, [6, 0, 751], []), (5, 7, 1, 1, 0, 0, 0, [], []), (6, 0, 1, 0, 0, 0, 0, [], []), (7, 0, 1, 0, 5, 5, 0, [], []), (8, 65, 3, 45, 0, 0, 0, [103, 3, 0, 832, 833, 54, 834], []), (11, 47, 3, 0, 0, 0, 0, [22], []), (14, 11, 1, 0, 0, 0, 0, [], []), (15, 7, 1, 2, 0, 0, 0, [], []), (16, 64, 3, 173, 0, 0, 0, [137, 2, 6, 967, 969, 44, 54, 970], []), (19, 47, 3, 1, 0, 0, 0, [25], []), (22, 3, 2, 153, 0, (-1000000), 0, [890], []), (24, 66, 1, 1, 0, 0, 0, [], []), (25, 11, 1, 0, 0, 0, 0, [], []), (26, 7, 1, 2, 0, 0, 0, [], []), (27, 0, 1, 0, 4, 4, 0, [], []), (28, 64, 3, 140, 0, 0, 0, [121, 3, 6, 907, 909, 37, 54, 910], []), (31, 13, 1, 3, 0, 0, 0, [], []), (32, 7, 1, 3, 0, 0, 0, [], []), (33, 11, 1, 0, 0, 0, 0, [], []), (34, 7, 1, 2, 0, 0, 0, [], []), (35, 0, 1, 0, 3, 3, 0, [], []), (36, 64, 3, 140, 0, 0, 0, [121, 3, 6, 907, 909, 37, 54, 910], []), (39, 21, 1, 0, 0, 0, 0, [], []), (40, 14, 2, 4, 0, 0, 0, [], []), (42, 7, 1, 3, 0, 0, 0, [], []), (43, 11, 1, 0, 0, 0, 0, [], []), (44, 7, 1, 2, 0, 0, 0, [], []), (45, 64, 3, 147, 0, 0, 0, [123, 2, 6, 911, 913, 38, 54, 914], []), (48, 20, 1, 0, 0, 0, 0, [], []), (49, 14, 2, 5, 0, 0, 0, [], []), (51, 11, 1, 0, 0, 0, 0, [], []), (52, 44, 1, 0, 0, 0, 0, [], []), (53, 54, 3, 189, 0, 0, 0, [6, 1, 752], []), (56, 7, 1, 1, 0, 0, 0, [], []), (57, 47, 3, 1, 0, 0, 0, [64], []), (60, 4, 1, 1, 0, 0, 1, [], []), (61, 51, 3, 0, 0, 0, 0, [111], []), (64, 7, 1, 1, 0, 0, 0, [], []), (65, 0, 1, 0, 1, 1, 0, [], []), (66, 48, 3, 1, 0, 0, 0, [75], []), (69, 5, 3, 193, 0, 0, 11, [1035], []), (72, 51, 3, 0, 0, 0, 0, [111], []), (75, 7, 1, 1, 0, 0, 0, [], []), (76, 0, 1, 0, 2, 2, 0, [], []), (77, 48, 3, 1, 0, 0, 0, [86], []), (80, 5, 3, 195, 0, 0, 101, [1036], []), (83, 51, 3, 0, 0, 0, 0, [111], []), (86, 7, 1, 1, 0, 0, 0, [], []), (87, 0, 1, 0, 3, 3, 0, [], []), (88, 48, 3, 1, 0, 0, 0, [97], []), (91, 5, 3, 197, 0, 0, 1011, [1037], []), (94, 51, 3, 0, 0, 0, 0, [111], []), (97, 7, 1, 1, 0, 0, 0, [], []), (98, 0, 1, 0, 4, 4, 0, [], []), (99, 48, 3, 1, 0, 0, 0, [108], []), (102, 5, 3, 199, 0, 0, 10101, [1038], []), (105, 51, 3, 0, 0, 0, 0, [111], []), (108, 5, 3, 201, 0, 0, 100001, [1039], []), (111, 31, 1, 0, 0, 0, 0, [], []), (112, 55, 3, 189, 0, 0, 0, [6, 1, 752], []), (115, 7, 1, 1, 0, 0, 0, [], []), (116, 47, 3, 1, 0, 0, 0, [123], []), (119, 7, 1, 3, 0, 0, 0, [], []), (120, 51, 3, 0, 0, 0, 0, [180], []), (123, 7, 1, 1, 0, 0, 0, [], []), (124, 0, 1, 0, 1, 1, 0, [], []), (125, 48, 3, 1, 0, 0, 0, [133], []), (128, 8, 2, 4, 0, 0, 0, [], []), (130, 51, 3, 0, 0, 0, 0, [180], []), (133, 7, 1, 1, 0, 0, 0, [], []), (134, 0, 1, 0, 2, 2, 0, [], []), (135, 48, 3, 1, 0, 0, 0, [143], []), (138, 8, 2, 5, 0, 0, 0, [], []), (140, 51, 3, 0, 0, 0, 0, [180], []), (143, 7, 1, 1, 0, 0, 0, [], []), (144, 0, 1, 0, 3, 3, 0, [], []), (145, 48, 3, 1, 0, 0, 0, [155], []), (148, 0, 1, 0, 2, 2, 0, [], []), (149, 8, 2, 4, 0, 0, 0, [], []), (151, 22, 1, 0, 0, 0, 0, [], []), (152, 51, 3, 0, 0, 0, 0, [180], []), (155, 7, 1, 1, 0, 0, 0, [], []), (156, 0, 1, 0, 4, 4, 0, [], []), (157, 48, 3, 1, 0, 0, 0, [172], []), (160, 8, 2, 5, 0, 0, 0, [], []), (162, 11, 1, 0, 0, 0, 0, [], []), (163, 7, 1, 2, 0, 0, 0, [], []), (164, 0, 1, 0, 2, 2, 0, [], []), (165, 64, 3, 140, 0, 0, 0, [121, 3, 6, 907, 909, 37, 54, 910], []), (168, 20, 1, 0, 0, 0, 0, [], []), (169, 51, 3, 0, 0, 0, 0, [180], []), (172, 7, 1, 3, 0, 0, 0, [], []), (173, 11, 1, 0, 0, 0, 0, [], []), (174, 7, 1, 2, 0, 0, 0, [], []), (175, 0, 1, 0, 1, 1, 0, [], []), (176, 64, 3, 140, 0, 0, 0, [121, 3, 6, 907, 909, 37, 54, 910], []), (179, 21, 1, 0, 0, 0, 0, [], []), (180, 66, 1, 1, 0, 0, 0, [], [])]
/-- ThawWordsModel.keep(I)I -/
def tw_c155 : List (Nat × tw_Op) := [(0, 11, 1, 0, 0, 0, 0, [], []), (1, 0, 1, 0, 0, 0, 0, [], []), (2, 55, 3, 41, 0, 0, 0, [6, 0, 751], []), (5, 7, 1, 1, 0, 0, 0, [], []), (6, 0, 1, 0, 0, 0, 0, [], []), (7, 0, 1, 0, 1, 1, 0, [], []), (8, 65, 3, 45, 0, 0, 0, [103, 3, 0, 832, 833, 54, 834], []), (11, 47, 3, 1, 0, 0, 0, [16], []), (14, 0, 1, 0, (-1), (-1), 0, [], []), (15, 66, 1, 1, 0, 0, 0, [], []), (16, 0, 1, 0, 0, 0, 0, [], []), (17, 13, 1, 2, 0, 0, 0, [], []), (18, 7, 1, 2, 0, 0, 0, [], []), (19, 2, 3, 0, 363, 363, 0, [], []), (22, 48, 3, 3, 0, 0, 0, [49], []), (25, 11, 1, 0, 0, 0, 0, [], []), (26, 54, 3, 31, 0, 0, 0, [6, 23, 774], []), (29, 2, 3, 0, 363, 363, 0, [], []), (32, 7, 1, 1, 0, 0, 0, [], []), (33, 22, 1, 0, 0, 0, 0, [], []), (34, 7, 1, 2, 0, 0, 0, [], []), (35, 20, 1, 0, 0, 0, 0, [], []), (36, 11, 1, 0, 0, 0, 0, [], []), (37, 54, 3, 28, 0, 0, 0, [6, 22, 773], []), (40, 7, 1, 2, 0, 0, 0, [], []), (41, 56, 1, 0, 0, 0, 0, [], []), (42, 57, 1, 0, 0, 0, 0, [], []), (43, 19, 3, 2, 1, 1, 0, [], []), (46, 51, 3, 0, 0, 0, 0, [18], []), (49, 11, 1, 0, 0, 0, 0, [], []), (50, 54, 3, 34, 0, 0, 0, [6, 24, 775], []), (53, 7, 1, 1, 0, 0, 0, [], []), (54, 0, 1, 0, 1, 1, 0, [], []), (55, 59, 1, 0, 0, 0, 0, [], []), (56, 11, 1, 0, 0, 0, 0, [], []), (57, 54, 3, 28, 0, 0, 0, [6, 22, 773], []), (60, 0, 1, 0, 0, 0, 0, [], []), (61, 56, 1, 0, 0, 0, 0, [], []), (62, 66, 1, 1, 0, 0, 0, [], [])]
/-- ThawWordsModel.back(I)I -/
def tw_c156 : List (Nat × tw_Op) := [(0, 11, 1, 0, 0, 0, 0, [], []), (1, 0, 1, 0, 0, 0, 0, [], []), (2, 55, 3, 41, 0, 0, 0, [6, 0, 751], []), (5, 7, 1, 1, 0, 0, 0, [], []), (6, 0, 1, 0, 0, 0, 0, [], []), (7, 0, 1, 0, 1, 1, 0, [], []), (8, 65, 3, 45, 0, 0, 0, [103, 3, 0, 832, 833, 54, 834], []), (11, 47, 3, 1, 0, 0, 0, [16], []), (14, 0, 1, 0, (-1), (-1), 0, [], []), (15, 66, 1, 1, 0, 0, 0, [], []), (16, 11, 1, 0, 0, 0, 0, [], []), (17, 54, 3, 34, 0, 0, 0, [6, 24, 775], []), (20, 7, 1, 1, 0, 0, 0, [], []), (21, 58, 1, 0, 0, 0, 0, [], []), (22, 47, 3, 1, 0, 0, 0, [28], []), (25, 1, 2, 0, (-2), (-2), 0, [], []), (27, 66, 1, 1, 0, 0, 0, [], []), (28, 0, 1, 0, 0, 0, 0, [], []), (29, 13, 1, 2, 0, 0, 0, [], []), (30, 7, 1, 2, 0, 0, 0, [], []), (31, 2, 3, 0, 363, 363, 0, [], []), (34, 48, 3, 3, 0, 0, 0, [61], []), (37, 11, 1, 0, 0, 0, 0, [], []), (38, 54, 3, 28, 0, 0, 0, [6, 22, 773], []), (41, 7, 1, 2, 0, 0, 0, [], []), (42, 11, 1, 0, 0, 0, 0, [], []), (43, 54, 3, 31, 0, 0, 0, [6, 23, 774], []), (46, 2, 3, 0, 363, 363, 0, [], []), (49, 7, 1, 1, 0, 0, 0, [], []), (50, 22, 1, 0, 0, 0, 0, [], []), (51, 7, 1, 2, 0, 0, 0, [], []), (52, 20, 1, 0, 0, 0, 0, [], []), (53, 56, 1, 0, 0, 0, 0, [], []), (54, 57, 1, 0, 0, 0, 0, [], []), (55, 19, 3, 2, 1, 1, 0, [], []), (58, 51, 3, 0, 0, 0, 0, [30], []), (61, 11, 1, 0, 0, 0, 0, [], []), (62, 54, 3, 28, 0, 0, 0, [6, 22, 773], []), (65, 0, 1, 0, 0, 0, 0, [], []), (66, 56, 1, 0, 0, 0, 0, [], []), (67, 66, 1, 1, 0, 0, 0, [], [])]
/-- ThawWordsModel.count(I)I -/
def tw_c157 : List (Nat × tw_Op) := [(0, 11, 1, 0, 0, 0, 0, [], []), (1, 0, 1, 0, 0, 0, 0, [], []), (2, 55, 3, 41, 0, 0, 0, [6, 0, 751], []), (5, 7, 1, 1, 0, 0, 0, [], []), (6, 47, 3, 1, 0, 0, 0, [16], []), (9, 11, 1, 0, 0, 0, 0, [], []), (10, 54, 3, 122, 0, 0, 0, [6, 14, 765], []), (13, 51, 3, 0, 0, 0, 0, [65], []), (16, 7, 1, 1, 0, 0, 0, [], []), (17, 0, 1, 0, 1, 1, 0, [], []), (18, 48, 3, 1, 0, 0, 0, [28], []), (21, 11, 1, 0, 0, 0, 0, [], []), (22, 54, 3, 125, 0, 0, 0, [6, 15, 766], []), (25, 51, 3, 0, 0, 0, 0, [65], []), (28, 7, 1, 1, 0, 0, 0, [], []), (29, 0, 1, 0, 2, 2, 0, [], []), (30, 48, 3, 1, 0, 0, 0, [40], []), (33, 11, 1, 0, 0, 0, 0, [], []), (34, 54, 3, 128, 0, 0, 0, [6, 16, 767], []), (37, 51, 3, 0, 0, 0, 0, [65], []), (40, 7, 1, 1, 0, 0, 0, [], []), (41, 0, 1, 0, 3, 3, 0, [], []), (42, 48, 3, 1, 0, 0, 0, [52], []), (45, 11, 1, 0, 0, 0, 0, [], []), (46, 54, 3, 131, 0, 0, 0, [6, 17, 768], []), (49, 51, 3, 0, 0, 0, 0, [65], []), (52, 7, 1, 1, 0, 0, 0, [], []), (53, 0, 1, 0, 4, 4, 0, [], []), (54, 48, 3, 1, 0, 0, 0, [64], []), (57, 11, 1, 0, 0, 0, 0, [], []), (58, 54, 3, 49, 0, 0, 0, [6, 3, 754], []), (61, 51, 3, 0, 0, 0, 0, [65], []), (64, 0, 1, 0, (-1), (-1), 0, [], []), (65, 66, 1, 1, 0, 0, 0, [], [])]
/-- ThawWordsModel.trace()J -/
def tw_c158 : List (Nat × tw_Op) := [(0, 11, 1, 0, 0, 0, 0, [], []), (1, 0, 1, 0, 0, 0, 0, [], []), (2, 55, 3, 41, 0, 0, 0, [6, 0, 751], []), (5, 11, 1, 0, 0, 0, 0, [], []), (6, 54, 3, 189, 0, 0, 0, [6, 1, 752], []), (9, 67, 1, 0, 0, 0, 0, [], [])]
abbrev tw_Mt : Type := ByteArray × MethodName × Nat × Option FieldType × Nat × Nat × List (Nat × tw_Op)
def tw_tab : List tw_Mt := [
  (prog_1_method_44_code, (⟨"ThawWords", "put", "([III)V"⟩ : MethodName), 3, none, 0, 0, tw_c0),
  (prog_6_method_2_code, (⟨"ThawWords$Text", "add", "(I)V"⟩ : MethodName), 2, none, 1, 22, tw_c1),
  (prog_1_method_2_code, (⟨"ThawWords", "type", "(JI)I"⟩ : MethodName), 5, (some .int), 2, 43, tw_c2),
  (prog_1_method_3_code, (⟨"ThawWords", "clear", "()I"⟩ : MethodName), 2, (some .int), 0, 0, tw_c3),
  (prog_2_method_2_code, (⟨"ThawWords$Cape", "begin", "()V"⟩ : MethodName), 1, none, 0, 0, tw_c4),
  (prog_6_method_13_code, (⟨"ThawWords$Text", "endOfRow", "(III)I"⟩ : MethodName), 5, (some .int), 1, 21, tw_c5),
  (prog_1_method_43_code, (⟨"ThawWords", "at", "([II)I"⟩ : MethodName), 2, (some .int), 0, 0, tw_c6),
  (prog_6_method_11_code, (⟨"ThawWords$Text", "nextToken", "()V"⟩ : MethodName), 1, none, 2, 45, tw_c7),
  (prog_10_method_152_code, (⟨"java/lang/String", "coder", "()B"⟩ : MethodName), 1, (some .byte), 0, 0, tw_c8),
  (prog_10_method_54_code, (⟨"java/lang/String", "length", "()I"⟩ : MethodName), 1, (some .int), 1, 20, tw_c9),
  (prog_10_method_154_code, (⟨"java/lang/String", "isLatin1", "()Z"⟩ : MethodName), 1, (some .boolean), 0, 0, tw_c10),
  (prog_13_method_11_code, (⟨"jdk/internal/util/Preconditions", "checkIndex", "(IILjava/util/function/BiFunction;)I"⟩ : MethodName), 3, (some .int), 0, 0, tw_c11),
  (prog_10_method_155_code, (⟨"java/lang/String", "checkIndex", "(II)V"⟩ : MethodName), 2, none, 1, 22, tw_c12),
  (prog_11_method_2_code, (⟨"java/lang/StringLatin1", "charAt", "([BI)C"⟩ : MethodName), 2, (some .char), 2, 43, tw_c13),
  (prog_10_method_56_code, (⟨"java/lang/String", "charAt", "(I)C"⟩ : MethodName), 2, (some .char), 3, 64, tw_c14),
  (prog_6_method_14_code, (⟨"ThawWords$Text", "isWord", "(Ljava/lang/String;)Z"⟩ : MethodName), 3, (some .boolean), 4, 85, tw_c15),
  (prog_6_method_12_code, (⟨"ThawWords$Text", "shortNumber", "()I"⟩ : MethodName), 2, (some .int), 1, 21, tw_c16),
  (prog_6_method_9_code, (⟨"ThawWords$Text", "readNumber", "(II)Z"⟩ : MethodName), 3, (some .boolean), 3, 65, tw_c17),
  (prog_2_method_4_code, (⟨"ThawWords$Cape", "addPlace", "(I)V"⟩ : MethodName), 2, none, 1, 22, tw_c18),
  (prog_6_method_10_code, (⟨"ThawWords$Text", "readMark", "()Z"⟩ : MethodName), 1, (some .boolean), 3, 65, tw_c19),
  (prog_6_method_5_code, (⟨"ThawWords$Text", "readPlace", "(LThawWords$Cape;)Z"⟩ : MethodName), 2, (some .boolean), 4, 87, tw_c20),
  (prog_2_method_5_code, (⟨"ThawWords$Cape", "addHours", "(II)V"⟩ : MethodName), 4, none, 1, 22, tw_c21),
  (prog_6_method_6_code, (⟨"ThawWords$Text", "readWeather", "(LThawWords$Cape;I)Z"⟩ : MethodName), 4, (some .boolean), 4, 87, tw_c22),
  (prog_2_method_6_code, (⟨"ThawWords$Cape", "addSound", "(I)V"⟩ : MethodName), 2, none, 1, 22, tw_c23),
  (prog_6_method_7_code, (⟨"ThawWords$Text", "readSound", "(LThawWords$Cape;I)Z"⟩ : MethodName), 3, (some .boolean), 4, 87, tw_c24),
  (prog_2_method_7_code, (⟨"ThawWords$Cape", "addPerson", "(II)V"⟩ : MethodName), 3, none, 1, 22, tw_c25),
  (prog_6_method_8_code, (⟨"ThawWords$Text", "readPerson", "(LThawWords$Cape;)Z"⟩ : MethodName), 3, (some .boolean), 4, 87, tw_c26),
  (prog_6_method_4_code, (⟨"ThawWords$Text", "readItem", "(LThawWords$Cape;)Z"⟩ : MethodName), 2, (some .boolean), 5, 110, tw_c27),
  (prog_6_method_3_code, (⟨"ThawWords$Text", "readInto", "(LThawWords$Cape;)I"⟩ : MethodName), 3, (some .int), 6, 131, tw_c28),
  (prog_1_method_45_code, (⟨"ThawWords", "copy", "([I[I)V"⟩ : MethodName), 3, none, 0, 0, tw_c29),
  (prog_2_method_3_code, (⟨"ThawWords$Cape", "become", "(LThawWords$Cape;)V"⟩ : MethodName), 2, none, 1, 22, tw_c30),
  (prog_2_method_10_code, (⟨"ThawWords$Cape", "isPerson", "(I)Z"⟩ : MethodName), 2, (some .boolean), 0, 0, tw_c31),
  (prog_5_method_2_code, (⟨"ThawWords$Scene", "begin", "(LThawWords$Cape;)V"⟩ : MethodName), 4, none, 1, 22, tw_c32),
  (prog_1_method_4_code, (⟨"ThawWords", "cape", "()I"⟩ : MethodName), 2, (some .int), 7, 153, tw_c33),
  (prog_2_method_8_code, (⟨"ThawWords$Cape", "isPlace", "(I)Z"⟩ : MethodName), 2, (some .boolean), 0, 0, tw_c34),
  (prog_2_method_11_code, (⟨"ThawWords$Cape", "warmthIn", "(I)I"⟩ : MethodName), 2, (some .int), 1, 21, tw_c35),
  (prog_2_method_12_code, (⟨"ThawWords$Cape", "airIn", "(II)I"⟩ : MethodName), 3, (some .int), 2, 42, tw_c36),
  (prog_1_method_41_code, (⟨"ThawWords", "hasBit", "(II)Z"⟩ : MethodName), 2, (some .boolean), 0, 0, tw_c37),
  (prog_5_method_6_code, (⟨"ThawWords$Scene", "isLit", "(I)Z"⟩ : MethodName), 2, (some .boolean), 1, 21, tw_c38),
  (prog_5_method_7_code, (⟨"ThawWords$Scene", "airIn", "(LThawWords$Cape;II)I"⟩ : MethodName), 5, (some .int), 3, 64, tw_c39),
  (prog_5_method_4_code, (⟨"ThawWords$Scene", "sayingAt", "(I)LThawWords$Saying;"⟩ : MethodName), 2, (some (.object "ThawWords$Saying")), 0, 0, tw_c40),
  (prog_4_method_4_code, (⟨"ThawWords$Saying", "hangs", "(I)Z"⟩ : MethodName), 2, (some .boolean), 1, 21, tw_c41),
  (prog_4_method_5_code, (⟨"ThawWords$Saying", "hanging", "()I"⟩ : MethodName), 3, (some .int), 2, 42, tw_c42),
  (prog_5_method_8_code, (⟨"ThawWords$Scene", "hangingAt", "(I)I"⟩ : MethodName), 5, (some .int), 3, 64, tw_c43),
  (prog_1_method_5_code, (⟨"ThawWords", "place", "(II)I"⟩ : MethodName), 3, (some .int), 4, 88, tw_c44),
  (prog_1_method_40_code, (⟨"ThawWords", "isHour", "(I)Z"⟩ : MethodName), 1, (some .boolean), 0, 0, tw_c45),
  (prog_1_method_6_code, (⟨"ThawWords", "warmth", "(I)I"⟩ : MethodName), 2, (some .int), 2, 42, tw_c46),
  (prog_2_method_9_code, (⟨"ThawWords$Cape", "isSound", "(I)Z"⟩ : MethodName), 2, (some .boolean), 0, 0, tw_c47),
  (prog_1_method_7_code, (⟨"ThawWords", "melts", "(I)I"⟩ : MethodName), 2, (some .int), 1, 21, tw_c48),
  (prog_5_method_5_code, (⟨"ThawWords$Scene", "earAt", "(I)LThawWords$Ear;"⟩ : MethodName), 2, (some (.object "ThawWords$Ear")), 0, 0, tw_c49),
  (prog_1_method_37_code, (⟨"ThawWords", "earOf", "(I)LThawWords$Ear;"⟩ : MethodName), 2, (some (.object "ThawWords$Ear")), 1, 21, tw_c50),
  (prog_1_method_8_code, (⟨"ThawWords", "person", "(II)I"⟩ : MethodName), 4, (some .int), 2, 42, tw_c51),
  (prog_1_method_39_code, (⟨"ThawWords", "areSounds", "(I)Z"⟩ : MethodName), 3, (some .boolean), 1, 21, tw_c52),
  (prog_5_method_11_code, (⟨"ThawWords$Scene", "standersAt", "(I)I"⟩ : MethodName), 4, (some .int), 0, 0, tw_c53),
  (prog_4_method_3_code, (⟨"ThawWords$Saying", "setSounds", "(I)V"⟩ : MethodName), 3, none, 1, 22, tw_c54),
  (prog_3_method_3_code, (⟨"ThawWords$Ear", "add", "(II)V"⟩ : MethodName), 3, none, 1, 22, tw_c55),
  (prog_5_method_16_code, (⟨"ThawWords$Scene", "hearAt", "(III)V"⟩ : MethodName), 6, none, 2, 44, tw_c56),
  (prog_5_method_15_code, (⟨"ThawWords$Scene", "thawSaying", "(LThawWords$Cape;ILThawWords$Saying;I)I"⟩ : MethodName), 8, (some .int), 3, 69, tw_c57),
  (prog_5_method_10_code, (⟨"ThawWords$Scene", "say", "(LThawWords$Cape;III)I"⟩ : MethodName), 7, (some .int), 4, 96, tw_c58),
  (prog_1_method_9_code, (⟨"ThawWords", "says", "(III)I"⟩ : MethodName), 4, (some .int), 5, 122, tw_c59),
  (prog_1_method_10_code, (⟨"ThawWords", "goes", "(II)I"⟩ : MethodName), 4, (some .int), 1, 22, tw_c60),
  (prog_5_method_14_code, (⟨"ThawWords$Scene", "thawAt", "(LThawWords$Cape;I)I"⟩ : MethodName), 8, (some .int), 4, 96, tw_c61),
  (prog_5_method_12_code, (⟨"ThawWords$Scene", "light", "(LThawWords$Cape;I)I"⟩ : MethodName), 3, (some .int), 5, 123, tw_c62),
  (prog_1_method_11_code, (⟨"ThawWords", "lantern", "(I)I"⟩ : MethodName), 2, (some .int), 6, 145, tw_c63),
  (prog_5_method_13_code, (⟨"ThawWords$Scene", "passHour", "(LThawWords$Cape;)I"⟩ : MethodName), 4, (some .int), 5, 123, tw_c64),
  (prog_1_method_12_code, (⟨"ThawWords", "go", "(I)I"⟩ : MethodName), 4, (some .int), 6, 146, tw_c65),
  (prog_1_method_13_code, (⟨"ThawWords", "saying", "(II)I"⟩ : MethodName), 4, (some .int), 3, 64, tw_c66),
  (prog_1_method_14_code, (⟨"ThawWords", "soundOf", "(II)I"⟩ : MethodName), 4, (some .int), 1, 21, tw_c67),
  (prog_1_method_15_code, (⟨"ThawWords", "heard", "(III)I"⟩ : MethodName), 5, (some .int), 2, 42, tw_c68),
  (prog_5_method_9_code, (⟨"ThawWords$Scene", "hanging", "()I"⟩ : MethodName), 3, (some .int), 4, 88, tw_c69),
  (prog_1_method_16_code, (⟨"ThawWords", "now", "(I)I"⟩ : MethodName), 2, (some .int), 5, 110, tw_c70),
  (prog_1_method_17_code, (⟨"ThawWords", "anew", "()I"⟩ : MethodName), 2, (some .int), 2, 45, tw_c71),
  (prog_5_method_18_code, (⟨"ThawWords$Scene", "isThawing", "(LThawWords$Cape;III)Z"⟩ : MethodName), 5, (some .boolean), 4, 88, tw_c72),
  (prog_5_method_17_code, (⟨"ThawWords$Scene", "hourOfHearing", "(LThawWords$Cape;LThawWords$Saying;I)I"⟩ : MethodName), 5, (some .int), 5, 112, tw_c73),
  (prog_1_method_18_code, (⟨"ThawWords", "when", "(II)I"⟩ : MethodName), 4, (some .int), 6, 136, tw_c74),
  (prog_1_method_19_code, (⟨"ThawWords", "whole", "(I)I"⟩ : MethodName), 6, (some .int), 6, 136, tw_c75),
  (prog_1_method_20_code, (⟨"ThawWords", "hours", "(III)I"⟩ : MethodName), 7, (some .int), 5, 112, tw_c76),
  (prog_3_method_4_code, (⟨"ThawWords$Ear", "holds", "(LThawWords$Saying;)Z"⟩ : MethodName), 4, (some .boolean), 1, 21, tw_c77),
  (prog_1_method_21_code, (⟨"ThawWords", "fits", "(I)I"⟩ : MethodName), 6, (some .int), 2, 44, tw_c78),
  (prog_5_method_19_code, (⟨"ThawWords$Scene", "placesOfHanging", "(I)I"⟩ : MethodName), 5, (some .int), 3, 64, tw_c79),
  (prog_5_method_20_code, (⟨"ThawWords$Scene", "thawingByLantern", "(LThawWords$Cape;LThawWords$Saying;)I"⟩ : MethodName), 6, (some .int), 4, 88, tw_c80),
  (prog_1_method_22_code, (⟨"ThawWords", "lanterns", "(II)I"⟩ : MethodName), 7, (some .int), 5, 113, tw_c81),
  (prog_1_method_23_code, (⟨"ThawWords", "answers", "(II)I"⟩ : MethodName), 6, (some .int), 2, 42, tw_c82),
  (prog_1_method_24_code, (⟨"ThawWords", "spoke", "(I)I"⟩ : MethodName), 7, (some .int), 1, 21, tw_c83),
  (prog_2_method_13_code, (⟨"ThawWords$Cape", "frozenCases", "(IIII)I"⟩ : MethodName), 8, (some .int), 3, 64, tw_c84),
  (prog_1_method_42_code, (⟨"ThawWords", "greatestDivisor", "(JJ)J"⟩ : MethodName), 11, (some .long), 0, 0, tw_c85),
  (prog_1_method_25_code, (⟨"ThawWords", "odds", "(IIIII)J"⟩ : MethodName), 12, (some .long), 4, 91, tw_c86),
  (prog_1_method_31_code, (⟨"ThawWords", "rateAsSaying", "(LThawWords$Saying;)I"⟩ : MethodName), 2, (some .int), 0, 0, tw_c87),
  (prog_1_method_32_code, (⟨"ThawWords", "rateAsLow", "(LThawWords$Saying;)I"⟩ : MethodName), 2, (some .int), 1, 21, tw_c88),
  (prog_1_method_33_code, (⟨"ThawWords", "rateAsSung", "(LThawWords$Saying;)I"⟩ : MethodName), 2, (some .int), 3, 64, tw_c89),
  (prog_1_method_34_code, (⟨"ThawWords", "rateAsMixed", "(LThawWords$Saying;)I"⟩ : MethodName), 2, (some .int), 2, 42, tw_c90),
  (prog_1_method_35_code, (⟨"ThawWords", "rateAsChilds", "(LThawWords$Saying;)I"⟩ : MethodName), 2, (some .int), 4, 85, tw_c91),
  (prog_1_method_36_code, (⟨"ThawWords", "rateAsSworn", "(LThawWords$Saying;)I"⟩ : MethodName), 2, (some .int), 1, 21, tw_c92),
  (prog_1_method_26_code, (⟨"ThawWords", "rate", "(II)I"⟩ : MethodName), 4, (some .int), 5, 106, tw_c93),
  (prog_1_method_38_code, (⟨"ThawWords", "imageOf", "(I)LThawWords$Scene;"⟩ : MethodName), 2, (some (.object "ThawWords$Scene")), 0, 0, tw_c94),
  (prog_4_method_2_code, (⟨"ThawWords$Saying", "become", "(LThawWords$Saying;)V"⟩ : MethodName), 2, none, 1, 22, tw_c95),
  (prog_3_method_2_code, (⟨"ThawWords$Ear", "become", "(LThawWords$Ear;)V"⟩ : MethodName), 2, none, 1, 22, tw_c96),
  (prog_5_method_3_code, (⟨"ThawWords$Scene", "become", "(LThawWords$Scene;)V"⟩ : MethodName), 5, none, 2, 43, tw_c97),
  (prog_1_method_27_code, (⟨"ThawWords", "keep", "(I)I"⟩ : MethodName), 3, (some .int), 3, 67, tw_c98),
  (prog_1_method_28_code, (⟨"ThawWords", "back", "(I)I"⟩ : MethodName), 3, (some .int), 3, 67, tw_c99),
  (prog_1_method_29_code, (⟨"ThawWords", "count", "(I)I"⟩ : MethodName), 2, (some .int), 0, 0, tw_c100),
  (prog_1_method_30_code, (⟨"ThawWords", "trace", "()J"⟩ : MethodName), 1, (some .long), 0, 0, tw_c101),
  (prog_8_method_17_code, (⟨"ThawWordsModel", "begins", "()V"⟩ : MethodName), 2, none, 0, 0, tw_c102),
  (prog_8_method_3_code, (⟨"ThawWordsModel", "in", "(III)Z"⟩ : MethodName), 3, (some .boolean), 0, 0, tw_c103),
  (prog_8_method_4_code, (⟨"ThawWordsModel", "type", "(JI)I"⟩ : MethodName), 5, (some .int), 1, 22, tw_c104),
  (prog_8_method_5_code, (⟨"ThawWordsModel", "clear", "()I"⟩ : MethodName), 2, (some .int), 0, 0, tw_c105),
  (prog_8_method_6_code, (⟨"ThawWordsModel", "byteAt", "(I)I"⟩ : MethodName), 2, (some .int), 0, 0, tw_c106),
  (prog_8_method_7_code, (⟨"ThawWordsModel", "add", "(JI)J"⟩ : MethodName), 3, (some .long), 0, 0, tw_c107),
  (prog_8_method_8_code, (⟨"ThawWordsModel", "named", "(IIIIII)J"⟩ : MethodName), 6, (some .long), 1, 22, tw_c108),
  (prog_8_method_9_code, (⟨"ThawWordsModel", "wordOf", "(J)I"⟩ : MethodName), 3, (some .int), 2, 47, tw_c109),
  (prog_8_method_10_code, (⟨"ThawWordsModel", "advances", "()V"⟩ : MethodName), 4, none, 3, 69, tw_c110),
  (prog_8_method_11_code, (⟨"ThawWordsModel", "isWell", "()Z"⟩ : MethodName), 1, (some .boolean), 0, 0, tw_c111),
  (prog_8_method_14_code, (⟨"ThawWordsModel", "mayBegin", "(I)Z"⟩ : MethodName), 2, (some .boolean), 0, 0, tw_c112),
  (prog_8_method_12_code, (⟨"ThawWordsModel", "takes", "(Z)I"⟩ : MethodName), 3, (some .int), 4, 92, tw_c113),
  (prog_8_method_13_code, (⟨"ThawWordsModel", "number", "(II)I"⟩ : MethodName), 3, (some .int), 5, 114, tw_c114),
  (prog_8_method_15_code, (⟨"ThawWordsModel", "readsItem", "(I)V"⟩ : MethodName), 5, none, 6, 136, tw_c115),
  (prog_8_method_16_code, (⟨"ThawWordsModel", "cape", "()I"⟩ : MethodName), 3, (some .int), 7, 160, tw_c116),
  (prog_8_method_18_code, (⟨"ThawWordsModel", "isPlace", "(I)Z"⟩ : MethodName), 2, (some .boolean), 1, 22, tw_c117),
  (prog_8_method_22_code, (⟨"ThawWordsModel", "warmthIn", "(I)I"⟩ : MethodName), 2, (some .int), 0, 0, tw_c118),
  (prog_8_method_23_code, (⟨"ThawWordsModel", "isLit", "(I)Z"⟩ : MethodName), 2, (some .boolean), 0, 0, tw_c119),
  (prog_8_method_24_code, (⟨"ThawWordsModel", "air", "(I)I"⟩ : MethodName), 2, (some .int), 1, 21, tw_c120),
  (prog_8_method_25_code, (⟨"ThawWordsModel", "at", "(II)I"⟩ : MethodName), 3, (some .int), 0, 0, tw_c121),
  (prog_8_method_26_code, (⟨"ThawWordsModel", "hangs", "(II)Z"⟩ : MethodName), 3, (some .boolean), 1, 22, tw_c122),
  (prog_8_method_27_code, (⟨"ThawWordsModel", "hangingOf", "(I)I"⟩ : MethodName), 4, (some .int), 2, 44, tw_c123),
  (prog_8_method_28_code, (⟨"ThawWordsModel", "hangingAt", "(I)I"⟩ : MethodName), 4, (some .int), 3, 67, tw_c124),
  (prog_8_method_29_code, (⟨"ThawWordsModel", "place", "(II)I"⟩ : MethodName), 3, (some .int), 4, 90, tw_c125),
  (prog_8_method_30_code, (⟨"ThawWordsModel", "warmth", "(I)I"⟩ : MethodName), 2, (some .int), 1, 22, tw_c126),
  (prog_8_method_20_code, (⟨"ThawWordsModel", "isSound", "(I)Z"⟩ : MethodName), 2, (some .boolean), 1, 22, tw_c127),
  (prog_8_method_31_code, (⟨"ThawWordsModel", "melts", "(I)I"⟩ : MethodName), 2, (some .int), 2, 43, tw_c128),
  (prog_8_method_19_code, (⟨"ThawWordsModel", "isPerson", "(I)Z"⟩ : MethodName), 2, (some .boolean), 1, 22, tw_c129),
  (prog_8_method_32_code, (⟨"ThawWordsModel", "person", "(II)I"⟩ : MethodName), 3, (some .int), 2, 43, tw_c130),
  (prog_8_method_33_code, (⟨"ThawWordsModel", "isHeard", "(II)V"⟩ : MethodName), 4, none, 1, 22, tw_c131),
  (prog_8_method_34_code, (⟨"ThawWordsModel", "says", "(III)I"⟩ : MethodName), 10, (some .int), 2, 45, tw_c132),
  (prog_8_method_35_code, (⟨"ThawWordsModel", "goes", "(II)I"⟩ : MethodName), 4, (some .int), 2, 43, tw_c133),
  (prog_8_method_36_code, (⟨"ThawWordsModel", "melting", "(I)I"⟩ : MethodName), 6, (some .int), 2, 45, tw_c134),
  (prog_8_method_37_code, (⟨"ThawWordsModel", "lantern", "(I)I"⟩ : MethodName), 2, (some .int), 3, 70, tw_c135),
  (prog_8_method_38_code, (⟨"ThawWordsModel", "go", "(I)I"⟩ : MethodName), 5, (some .int), 3, 70, tw_c136),
  (prog_8_method_21_code, (⟨"ThawWordsModel", "isSaying", "(I)Z"⟩ : MethodName), 2, (some .boolean), 1, 22, tw_c137),
  (prog_8_method_39_code, (⟨"ThawWordsModel", "saying", "(II)I"⟩ : MethodName), 3, (some .int), 3, 67, tw_c138),
  (prog_8_method_40_code, (⟨"ThawWordsModel", "soundOf", "(II)I"⟩ : MethodName), 3, (some .int), 2, 43, tw_c139),
  (prog_8_method_41_code, (⟨"ThawWordsModel", "heard", "(III)I"⟩ : MethodName), 5, (some .int), 2, 43, tw_c140),
  (prog_8_method_42_code, (⟨"ThawWordsModel", "now", "(I)I"⟩ : MethodName), 2, (some .int), 4, 90, tw_c141),
  (prog_8_method_43_code, (⟨"ThawWordsModel", "anew", "()I"⟩ : MethodName), 2, (some .int), 1, 21, tw_c142),
  (prog_8_method_44_code, (⟨"ThawWordsModel", "hourFrom", "(III)I"⟩ : MethodName), 6, (some .int), 2, 42, tw_c143),
  (prog_8_method_45_code, (⟨"ThawWordsModel", "whenOf", "(II)I"⟩ : MethodName), 3, (some .int), 3, 67, tw_c144),
  (prog_8_method_46_code, (⟨"ThawWordsModel", "when", "(II)I"⟩ : MethodName), 3, (some .int), 4, 89, tw_c145),
  (prog_8_method_47_code, (⟨"ThawWordsModel", "whole", "(I)I"⟩ : MethodName), 5, (some .int), 4, 89, tw_c146),
  (prog_8_method_48_code, (⟨"ThawWordsModel", "hours", "(III)I"⟩ : MethodName), 6, (some .int), 3, 67, tw_c147),
  (prog_8_method_49_code, (⟨"ThawWordsModel", "fits", "(I)I"⟩ : MethodName), 6, (some .int), 2, 43, tw_c148),
  (prog_8_method_50_code, (⟨"ThawWordsModel", "lanterns", "(II)I"⟩ : MethodName), 7, (some .int), 3, 67, tw_c149),
  (prog_8_method_51_code, (⟨"ThawWordsModel", "answers", "(II)I"⟩ : MethodName), 5, (some .int), 2, 43, tw_c150),
  (prog_8_method_52_code, (⟨"ThawWordsModel", "spoke", "(I)I"⟩ : MethodName), 5, (some .int), 2, 43, tw_c151),
  (prog_8_method_53_code, (⟨"ThawWordsModel", "gcd", "(JJ)J"⟩ : MethodName), 10, (some .long), 0, 0, tw_c152),
  (prog_8_method_54_code, (⟨"ThawWordsModel", "odds", "(IIIII)J"⟩ : MethodName), 13, (some .long), 2, 43, tw_c153),
  (prog_8_method_55_code, (⟨"ThawWordsModel", "rate", "(II)I"⟩ : MethodName), 6, (some .int), 3, 67, tw_c154),
  (prog_8_method_56_code, (⟨"ThawWordsModel", "keep", "(I)I"⟩ : MethodName), 3, (some .int), 1, 22, tw_c155),
  (prog_8_method_57_code, (⟨"ThawWordsModel", "back", "(I)I"⟩ : MethodName), 3, (some .int), 1, 22, tw_c156),
  (prog_8_method_58_code, (⟨"ThawWordsModel", "count", "(I)I"⟩ : MethodName), 2, (some .int), 0, 0, tw_c157),
  (prog_8_method_59_code, (⟨"ThawWordsModel", "trace", "()J"⟩ : MethodName), 1, (some .long), 0, 0, tw_c158)]
def tw_nest : List (String × Nat × MethodName) := [("ThawWords", 9, (⟨"ThawWords$Text", "<init>", "()V"⟩ : MethodName)), ("ThawWords", 18, (⟨"ThawWords$Cape", "<init>", "()V"⟩ : MethodName)), ("ThawWords$Scene", 41, (⟨"ThawWords$Saying", "<init>", "()V"⟩ : MethodName)), ("ThawWords$Scene", 42, (⟨"ThawWords$Ear", "<init>", "()V"⟩ : MethodName)), ("ThawWords$Text", 31, (⟨"ThawWords", "put", "([III)V"⟩ : MethodName)), ("ThawWords$Text", 118, (⟨"ThawWords", "at", "([II)I"⟩ : MethodName)), ("ThawWords$Cape", 44, (⟨"ThawWords", "put", "([III)V"⟩ : MethodName)), ("ThawWords$Cape", 40, (⟨"ThawWords", "copy", "([I[I)V"⟩ : MethodName)), ("ThawWords$Scene", 52, (⟨"ThawWords", "at", "([II)I"⟩ : MethodName)), ("ThawWords$Scene", 56, (⟨"ThawWords", "put", "([III)V"⟩ : MethodName)), ("ThawWords$Cape", 54, (⟨"ThawWords", "at", "([II)I"⟩ : MethodName)), ("ThawWords$Scene", 82, (⟨"ThawWords", "hasBit", "(II)Z"⟩ : MethodName)), ("ThawWords$Saying", 45, (⟨"ThawWords", "at", "([II)I"⟩ : MethodName)), ("ThawWords$Saying", 41, (⟨"ThawWords", "put", "([III)V"⟩ : MethodName)), ("ThawWords$Ear", 26, (⟨"ThawWords", "put", "([III)V"⟩ : MethodName)), ("ThawWords$Ear", 35, (⟨"ThawWords", "at", "([II)I"⟩ : MethodName)), ("ThawWords$Scene", 63, (⟨"ThawWords", "copy", "([I[I)V"⟩ : MethodName)), ("ThawWords$Saying", 37, (⟨"ThawWords", "copy", "([I[I)V"⟩ : MethodName)), ("ThawWords$Ear", 22, (⟨"ThawWords", "copy", "([I[I)V"⟩ : MethodName))]
end
section
def tw_gt (i : Nat) : tw_Mt := tw_tab.getD i (.mk #[], ⟨"", "", ""⟩, 0, none, 0, 0, [])
def tw_by (i : Nat) : ByteArray := (tw_gt i).1
def tw_nm (i : Nat) : MethodName := (tw_gt i).2.1
def tw_ml (i : Nat) : Nat := (tw_gt i).2.2.1
def tw_re (i : Nat) : Option FieldType := (tw_gt i).2.2.2.1
def tw_fr (i : Nat) : Nat := (tw_gt i).2.2.2.2.1
def tw_lo (i : Nat) : Nat := (tw_gt i).2.2.2.2.2.1
def tw_cd (i : Nat) : List (Nat × tw_Op) := (tw_gt i).2.2.2.2.2.2
def tw_op : List (Nat × tw_Op) → Nat → Option tw_Op
  | [], _ => none
  | (q, o) :: l, pc => match Nat.beq q pc with
    | true => some o
    | false => tw_op l pc
/-- a branch -/
def tw_br (c : Prop) (d : Decidable c) (x y : Nat) (L : tw_L) (st : List tw_V) (μ : tw_M) : tw_O := tw_nx (@ite Nat c d x y) L st μ
def tw_bz (a x y : Nat) (L : tw_L) (st : List tw_V) (μ : tw_M) : tw_O := match st with
  | Sum.inl v :: r => match a with
    | 0 => tw_nx (if v = 0 then x else y) L r μ
    | 1 => tw_nx (if v = 0 then y else x) L r μ
    | 2 => tw_nx (if v < 0 then x else y) L r μ
    | 3 => tw_nx (if 0 ≤ v then x else y) L r μ
    | 4 => tw_nx (if 0 < v then x else y) L r μ
    | _ => tw_nx (if v ≤ 0 then x else y) L r μ
  | _ => none
def tw_bi (a x y : Nat) (L : tw_L) (st : List tw_V) (μ : tw_M) : tw_O := match st with
  | Sum.inl w :: Sum.inl v :: r => match a with
    | 0 => tw_nx (if v = w then x else y) L r μ
    | 1 => tw_nx (if v = w then y else x) L r μ
    | 2 => tw_nx (if v < w then x else y) L r μ
    | 3 => tw_nx (if w ≤ v then x else y) L r μ
    | 4 => tw_nx (if w < v then x else y) L r μ
    | _ => tw_nx (if v ≤ w then x else y) L r μ
  | _ => none
def tw_bn (x y : Nat) (L : tw_L) (st : List tw_V) (μ : tw_M) : tw_O := match st with
  | Sum.inr (Sum.inr none) :: r => tw_nx x L r μ
  | Sum.inr (Sum.inr (some (k, _))) :: r => match Nat.beq k 98 with
    | true => none
    | false => tw_nx y L r μ
  | _ => none
def tw_bs (sw : List (Int32 × Nat)) (d : Nat) (L : tw_L) (st : List tw_V) (μ : tw_M) : tw_O := match st with
  | Sum.inl v :: r => tw_nx (tw_sw sw d v) L r μ
  | _ => none
def tw_du (q : Nat) (L : tw_L) (st : List tw_V) (μ : tw_M) : tw_O := match st with
  | v :: r => if tw_ca v = 1 then tw_nx q L (v :: v :: r) μ else none
  | _ => none
def tw_d2 (q : Nat) (L : tw_L) (st : List tw_V) (μ : tw_M) : tw_O := match st with
  | v :: w :: r => if tw_ca v = 1 ∧ tw_ca w = 1 then tw_nx q L (v :: w :: v :: w :: r) μ else none
  | _ => none
def tw_po (q : Nat) (L : tw_L) (st : List tw_V) (μ : tw_M) : tw_O := match st with
  | v :: r => if tw_ca v = 1 then tw_nx q L r μ else none
  | _ => none
def tw_gf (c j q : Nat) (L : tw_L) (st : List tw_V) (μ : tw_M) : tw_O := match st with
  | Sum.inr (Sum.inr (some (k, n))) :: r => match Nat.beq k c with
    | true => tw_nx q L (tw_fv μ c n j :: r) μ
    | false => none
  | _ => none
def tw_pf (c j q : Nat) (L : tw_L) (st : List tw_V) (μ : tw_M) : tw_O := match st with
  | Sum.inl x :: Sum.inr (Sum.inr (some (k, n))) :: r => match Nat.beq k c, tw_fk c j with
    | true, 0 => tw_nx q L r (tw_si μ c n j x)
    | true, 3 => if x = 0 ∨ x = 1 then tw_nx q L r (tw_si μ c n j x) else none
    | _, _ => none
  | Sum.inr (Sum.inl x) :: Sum.inr (Sum.inr (some (k, _))) :: r => match Nat.beq k c, tw_fk c j with
    | true, 1 => tw_nx q L r (tw_sl μ c x)
    | _, _ => none
  | _ => none
def tw_il (q : Nat) (L : tw_L) (st : List tw_V) (μ : tw_M) : tw_O := match st with
  | Sum.inl i :: Sum.inr (Sum.inr (some (k, n))) :: r => match tw_ia k with
    | true => if tw_in i (tw_al k) then tw_nx q L (tw_I (tw_gi μ k n i.toNatClampNeg) :: r) μ else none
    | false => none
  | _ => none
def tw_is (q : Nat) (L : tw_L) (st : List tw_V) (μ : tw_M) : tw_O := match st with
  | Sum.inl x :: Sum.inl i :: Sum.inr (Sum.inr (some (k, n))) :: r => match tw_ia k with
    | true => if tw_in i (tw_al k) then tw_nx q L r (tw_si μ k n i.toNatClampNeg x) else none
    | false => none
  | _ => none
def tw_zl (q : Nat) (L : tw_L) (st : List tw_V) (μ : tw_M) : tw_O := match st with
  | Sum.inl i :: Sum.inr (Sum.inr (some (k, n))) :: r => match Nat.beq k 38 with
    | true => if tw_in i 2 then tw_nx q L (tw_I (tw_gi μ 38 n i.toNatClampNeg) :: r) μ else none
    | false => none
  | _ => none
def tw_zs (q : Nat) (L : tw_L) (st : List tw_V) (μ : tw_M) : tw_O := match st with
  | Sum.inl x :: Sum.inl i :: Sum.inr (Sum.inr (some (k, n))) :: r => match Nat.beq k 38 with
    | true => if (x = 0 ∨ x = 1) ∧ tw_in i 2 then tw_nx q L r (tw_si μ 38 n i.toNatClampNeg x) else none
    | false => none
  | _ => none
def tw_ql2 (q : Nat) (L : tw_L) (st : List tw_V) (μ : tw_M) : tw_O := match st with
  | Sum.inl i :: Sum.inr (Sum.inr (some (k, n))) :: r => match Nat.beq k 21, Nat.beq k 22 with
    | true, _ => if tw_in i 8 then tw_nx q L (tw_R 2 (8 * n + i.toNatClampNeg) :: r) μ else none
    | _, true => if tw_in i 4 then tw_nx q L (tw_R 1 (4 * n + i.toNatClampNeg) :: r) μ else none
    | _, _ => none
  | _ => none
def tw_an (q : Nat) (L : tw_L) (st : List tw_V) (μ : tw_M) : tw_O := match st with
  | Sum.inr (Sum.inr (some (k, _))) :: r => match tw_ia k, Nat.beq k 21, Nat.beq k 22 with
    | true, _, _ => tw_nx q L (tw_I (nI (tw_al k)) :: r) μ
    | _, true, _ => tw_nx q L (tw_I 8 :: r) μ
    | _, _, true => tw_nx q L (tw_I 4 :: r) μ
    | _, _, _ => none
  | _ => none
/-- the cells of a text's bytes; its field 'value', its field 'coder' -/
def tw_bl (q : Nat) (L : tw_L) (st : List tw_V) (μ : tw_M) : tw_O := match st with
  | Sum.inl i :: Sum.inr (Sum.inr (some (k, n))) :: r => match Nat.beq k 9 with
    | true => if tw_in i (tw_lenT.getD n 0) then tw_nx q L (tw_I ((tw_bytT.getD n []).getD i.toNatClampNeg 0) :: r) μ else none
    | false => none
  | _ => none
def tw_bn2 (q : Nat) (L : tw_L) (st : List tw_V) (μ : tw_M) : tw_O := match st with
  | Sum.inr (Sum.inr (some (k, n))) :: r => match Nat.beq k 9 with
    | true => tw_nx q L (tw_I (nI (tw_lenT.getD n 0)) :: r) μ
    | false => none
  | _ => none
def tw_sv (q : Nat) (L : tw_L) (st : List tw_V) (μ : tw_M) : tw_O := match st with
  | Sum.inr (Sum.inr (some (k, n))) :: r => match Nat.beq k 8 with
    | true => tw_nx q L (tw_R 9 n :: r) μ
    | false => none
  | _ => none
def tw_sc (q : Nat) (L : tw_L) (st : List tw_V) (μ : tw_M) : tw_O := match st with
  | Sum.inr (Sum.inr (some (k, _))) :: r => match Nat.beq k 8 with
    | true => tw_nx q L (tw_I 0 :: r) μ
    | false => none
  | _ => none
def tw_gs (i q : Nat) (L : tw_L) (st : List tw_V) (μ : tw_M) : tw_O := match i with
  | 0 => tw_nx q L (tw_I 1 :: st) μ
  | _ => tw_nx q L (tw_R 98 0 :: st) μ
/-- a call: of an object of a kind, or of none -/
def tw_cv (j na kd q : Nat) (st : List tw_V) : tw_O := match (st.take na).reverse with
  | Sum.inr (Sum.inr (some (k, n))) :: as => match Nat.beq k kd with
    | true => if as.length + 1 = na ∧ ((st.drop na).map tw_ca).sum ≤ 8 ∧ (tw_el (tw_R k n :: as)).length ≤ tw_ml j then some (Sum.inr (Sum.inr (j, tw_R k n :: as, st.drop na, q))) else none
    | false => none
  | _ => none
def tw_cs (j na q : Nat) (st : List tw_V) : tw_O :=
  if (st.take na).length = na ∧ ((st.drop na).map tw_ca).sum ≤ 8 ∧ (tw_el (st.take na).reverse).length ≤ tw_ml j then some (Sum.inr (Sum.inr (j, (st.take na).reverse, st.drop na, q))) else none
def tw_ri1 (st : List tw_V) : tw_O := match st with
  | [Sum.inl x] => some (Sum.inr (Sum.inl (some (tw_I x))))
  | _ => none
def tw_rn (ty : FieldType) (st : List tw_V) : tw_O := match st with
  | [Sum.inl x] => tw_rt ty x
  | _ => none
def tw_rl (st : List tw_V) : tw_O := match st with
  | [Sum.inr (Sum.inl x)] => some (Sum.inr (Sum.inl (some (tw_J x))))
  | _ => none
def tw_rr (st : List tw_V) : tw_O := match st with
  | [Sum.inr (Sum.inr x)] => some (Sum.inr (Sum.inl (some (Sum.inr (Sum.inr x)))))
  | _ => none
def tw_rv0 (st : List tw_V) : tw_O := match st with
  | [] => some (Sum.inr (Sum.inl none))
  | _ => none
def tw_mx (f : Int32 → Int32 → Int32) (q : Nat) (L : tw_L) (st : List tw_V) (μ : tw_M) : tw_O := match st with
  | Sum.inl y :: Sum.inl x :: r => if (r.map tw_ca).sum ≤ 8 then tw_nx q L (tw_I (f x y) :: r) μ else none
  | _ => none
def tw_ma (q : Nat) (L : tw_L) (st : List tw_V) (μ : tw_M) : tw_O := match st with
  | Sum.inl x :: r => if (r.map tw_ca).sum ≤ 8 then tw_nx q L (tw_I (if 0 ≤ x then x else 0 - x) :: r) μ else none
  | _ => none
def tw_t (t : List Nat) (i : Nat) : Nat := t.getD i 0
/-- what an operation does -/
def tw_ex (o : tw_Op) (pc : Nat) (L : tw_L) (st : List tw_V) (μ : tw_M) : tw_O :=
  match o with
  | (n, w, a, _, c, d, t, sw) =>
  match n with
  | 0 | 1 | 2 | 3 => tw_nx (pc + w) L (tw_I c :: st) μ
  | 4 | 5 => tw_nx (pc + w) L (tw_J d :: st) μ
  | 6 => tw_nx (pc + w) L (tw_N :: st) μ
  | 7 | 8 => tw_qi a (pc + w) L st μ
  | 9 | 10 => tw_qj a (pc + w) L st μ
  | 11 | 12 => tw_qa a (pc + w) L st μ
  | 13 | 14 => tw_ri a (pc + w) L st μ
  | 15 | 16 => tw_rj a (pc + w) L st μ
  | 17 | 18 => tw_ra a (pc + w) L st μ
  | 19 => tw_ic a c (pc + w) L st μ
  | 20 => tw_q2 (fun x y => x + y) (pc + w) L st μ
  | 21 => tw_q2 (fun x y => x - y) (pc + w) L st μ
  | 22 => tw_q2 (fun x y => x * y) (pc + w) L st μ
  | 23 => tw_qd (fun x y => x / y) (pc + w) L st μ
  | 24 => tw_qd (fun x y => x - x / y * y) (pc + w) L st μ
  | 25 => tw_q2 (fun x y => x &&& y) (pc + w) L st μ
  | 26 => tw_q2 (fun x y => x ||| y) (pc + w) L st μ
  | 28 => tw_q2 (fun x y => x <<< (y &&& 31)) (pc + w) L st μ
  | 29 => tw_q2 (fun x y => x >>> (y &&& 31)) (pc + w) L st μ
  | 30 => tw_q1 (fun x => some (-x)) (pc + w) L st μ
  | 31 => tw_q3 (fun x y => x + y) (pc + w) L st μ
  | 32 => tw_q3 (fun x y => x - y) (pc + w) L st μ
  | 33 => tw_q3 (fun x y => x * y) (pc + w) L st μ
  | 34 => tw_ql (fun x y => x / y) (pc + w) L st μ
  | 35 => tw_ql (fun x y => x - x / y * y) (pc + w) L st μ
  | 36 => tw_q3 (fun x y => x &&& y) (pc + w) L st μ
  | 37 => tw_q3 (fun x y => x ||| y) (pc + w) L st μ
  | 38 => tw_q4 (fun x y => x <<< (y.toInt64 &&& 63)) (pc + w) L st μ
  | 39 => tw_q4 (fun x y => x >>> (y.toInt64 &&& 63)) (pc + w) L st μ
  | 40 => match st with
    | Sum.inr (Sum.inl y) :: Sum.inr (Sum.inl x) :: r => tw_nx (pc + w) L (tw_I (lg_cmp x y) :: r) μ
    | _ => none
  | 41 => match st with
    | Sum.inl x :: r => tw_nx (pc + w) L (tw_J x.toInt64 :: r) μ
    | _ => none
  | 42 => match st with
    | Sum.inr (Sum.inl x) :: r => tw_nx (pc + w) L (tw_I x.toInt32 :: r) μ
    | _ => none
  | 43 => tw_q1 (fun x => some ((x.toUInt32 % 65536).toInt32)) (pc + w) L st μ
  | 44 => tw_du (pc + w) L st μ
  | 45 => tw_d2 (pc + w) L st μ
  | 46 => tw_po (pc + w) L st μ
  | 47 => tw_bz a (tw_t t 0) (pc + w) L st μ
  | 48 => tw_bi a (tw_t t 0) (pc + w) L st μ
  | 49 => tw_bn (tw_t t 0) (pc + w) L st μ
  | 50 => tw_bn (pc + w) (tw_t t 0) L st μ
  | 51 => tw_nx (tw_t t 0) L st μ
  | 52 | 53 => tw_bs sw (tw_t t 0) L st μ
  | 54 => tw_gf (tw_t t 0) (tw_t t 1) (pc + w) L st μ
  | 55 => tw_pf (tw_t t 0) (tw_t t 1) (pc + w) L st μ
  | 56 => tw_il (pc + w) L st μ
  | 57 => tw_is (pc + w) L st μ
  | 58 => tw_zl (pc + w) L st μ
  | 59 => tw_zs (pc + w) L st μ
  | 60 => tw_ql2 (pc + w) L st μ
  | 61 => tw_an (pc + w) L st μ
  | 62 => tw_gs (tw_t t 0) (pc + w) L st μ
  | 63 => tw_nx (pc + w) L (tw_R 8 (tw_t t 0) :: st) μ
  | 64 => tw_cv (tw_t t 0) (tw_t t 1) (tw_t t 2) (pc + w) st
  | 65 | 74 => tw_cs (tw_t t 0) (tw_t t 1) (pc + w) st
  | 66 => tw_ri1 st
  | 67 => tw_rl st
  | 68 => tw_rr st
  | 69 => tw_rv0 st
  | 70 => tw_sv (pc + w) L st μ
  | 71 => tw_sc (pc + w) L st μ
  | 72 => tw_bl (pc + w) L st μ
  | 73 => tw_bn2 (pc + w) L st μ
  | 75 => tw_rn (tw_ty a) st
  | 76 => tw_mx (fun x y => if x < y then y else x) (pc + w) L st μ
  | 77 => tw_mx (fun x y => if y < x then y else x) (pc + w) L st μ
  | 78 => tw_ma (pc + w) L st μ
  | _ => none
def tw_st (mi pc : Nat) (L : tw_L) (st : List tw_V) (μ : tw_M) : tw_O :=
  match tw_op (tw_cd mi) pc with
  | some o => tw_ex o pc L st μ
  | none => none
/-- the small machine, so many steps at most -/
def tw_ev : Nat → Nat → Nat → tw_L → List tw_V → tw_M → Option (Option tw_V × tw_M)
  | 0, _, _, _, _, _ => none
  | n + 1, mi, pc, L, st, μ => match tw_st mi pc L st μ with
    | none => none
    | some (Sum.inl (q, L', st', μ')) => tw_ev n mi q L' st' μ'
    | some (Sum.inr (Sum.inl r)) => some (r, μ)
    | some (Sum.inr (Sum.inr (j, as, r, q))) => match tw_ev n j 0 (tw_en (tw_ml j) as) [] μ with
      | none => none
      | some (v, μ') => tw_ev n mi q L (v.toList ++ r) μ'
theorem tw_mono : ∀ (n mi pc : Nat) (L : tw_L) (st : List tw_V) (μ : tw_M) (x : Option tw_V × tw_M), tw_ev n mi pc L st μ = some x → tw_ev (n + 1) mi pc L st μ = some x := by
  intro n
  induction n with
  | zero => intro mi pc L st μ x h; cases h
  | succ n ih =>
    intro mi pc L st μ x h
    rw [tw_ev] at h
    rw [tw_ev]
    cases hs : tw_st mi pc L st μ with
    | none => rw [hs] at h; cases h
    | some o =>
      rw [hs] at h
      rcases o with ⟨q, L', st', μ'⟩ | r | ⟨j, as, r, q⟩
      · exact ih _ _ _ _ _ _ h
      · exact h
      · dsimp only at h ⊢
        cases hc : tw_ev n j 0 (tw_en (tw_ml j) as) [] μ with
        | none => rw [hc] at h; cases h
        | some y =>
          rw [hc] at h
          rw [ih _ _ _ _ _ _ hc]
          exact ih _ _ _ _ _ _ h
theorem tw_mono2 {n m mi pc : Nat} {L : tw_L} {st : List tw_V} {μ : tw_M} {x : Option tw_V × tw_M} (h : n ≤ m) (e : tw_ev n mi pc L st μ = some x) : tw_ev m mi pc L st μ = some x := by
  obtain ⟨d, rfl⟩ := Nat.le.dest h
  induction d with
  | zero => exact e
  | succ d ih => exact tw_mono _ _ _ _ _ _ _ (ih (Nat.le_add_right _ _))
/-- what the small machine comes to -/
noncomputable def tw_run (mi pc : Nat) (L : tw_L) (st : List tw_V) (μ : tw_M) : Option (Option tw_V × tw_M) :=
  @dite _ (∃ x, ∃ n, tw_ev n mi pc L st μ = some x) (Classical.propDecidable _) (fun h => some (Classical.choose h)) (fun _ => none)
theorem tw_run_iff {mi pc : Nat} {L : tw_L} {st : List tw_V} {μ : tw_M} {x : Option tw_V × tw_M} : tw_run mi pc L st μ = some x ↔ ∃ n, tw_ev n mi pc L st μ = some x := by
  unfold tw_run
  constructor
  · intro h
    split at h
    · rename_i hh
      cases h
      exact Classical.choose_spec hh
    · cases h
  · intro h
    rw [dif_pos ⟨x, h⟩]
    obtain ⟨n, hn⟩ := h
    obtain ⟨m, hm⟩ := Classical.choose_spec (⟨x, n, hn⟩ : ∃ x, ∃ n, tw_ev n mi pc L st μ = some x)
    have h1 := tw_mono2 (Nat.le_max_left n m) hn
    have h2 := tw_mono2 (Nat.le_max_right n m) hm
    rw [h1] at h2
    exact h2.symm
theorem tw_run_ext {mi pc mi' pc' : Nat} {L L' : tw_L} {st st' : List tw_V} {μ μ' : tw_M} (h : ∀ x, tw_run mi pc L st μ = some x ↔ tw_run mi' pc' L' st' μ' = some x) : tw_run mi pc L st μ = tw_run mi' pc' L' st' μ' := by
  cases h1 : tw_run mi pc L st μ with
  | some x => exact ((h x).mp h1).symm
  | none =>
    cases h2 : tw_run mi' pc' L' st' μ' with
    | some x => rw [(h x).mpr h2] at h1; cases h1
    | none => rfl
theorem tw_r_nx {mi pc q : Nat} {L L' : tw_L} {st st' : List tw_V} {μ μ' : tw_M} (h : tw_st mi pc L st μ = some (Sum.inl (q, L', st', μ'))) : tw_run mi pc L st μ = tw_run mi q L' st' μ' := by
  refine tw_run_ext fun x => ?_
  rw [tw_run_iff, tw_run_iff]
  constructor
  · rintro ⟨n, hn⟩
    cases n with
    | zero => cases hn
    | succ n => rw [tw_ev, h] at hn; exact ⟨n, hn⟩
  · rintro ⟨n, hn⟩
    exact ⟨n + 1, by rw [tw_ev, h]; exact hn⟩
theorem tw_r_no {mi pc : Nat} {L : tw_L} {st : List tw_V} {μ : tw_M} (h : tw_st mi pc L st μ = none) : tw_run mi pc L st μ = none := by
  cases e : tw_run mi pc L st μ with
  | none => rfl
  | some x =>
    obtain ⟨n, hn⟩ := tw_run_iff.mp e
    cases n with
    | zero => cases hn
    | succ n => rw [tw_ev, h] at hn; cases hn
theorem tw_r_rt {mi pc : Nat} {L : tw_L} {st : List tw_V} {μ : tw_M} {r : Option tw_V} (h : tw_st mi pc L st μ = some (Sum.inr (Sum.inl r))) : tw_run mi pc L st μ = some (r, μ) :=
  tw_run_iff.mpr ⟨1, by rw [tw_ev, h]⟩
/-- a call of a method -/
noncomputable def tw_call (j : Nat) (as : List tw_V) (μ : tw_M) : Option (Option tw_V × tw_M) := tw_run j 0 (tw_en (tw_ml j) as) [] μ
theorem tw_r_cl {mi pc j q : Nat} {L : tw_L} {st as r : List tw_V} {μ : tw_M} (h : tw_st mi pc L st μ = some (Sum.inr (Sum.inr (j, as, r, q)))) : tw_run mi pc L st μ = (tw_call j as μ).bind (fun x => tw_run mi q L (x.1.toList ++ r) x.2) := by
  cases e : tw_call j as μ with
  | none =>
    show _ = none
    cases e2 : tw_run mi pc L st μ with
    | none => rfl
    | some x =>
      obtain ⟨n, hn⟩ := tw_run_iff.mp e2
      cases n with
      | zero => cases hn
      | succ n =>
        rw [tw_ev, h] at hn
        dsimp only at hn
        cases hc : tw_ev n j 0 (tw_en (tw_ml j) as) [] μ with
        | none => rw [hc] at hn; cases hn
        | some y => rw [show tw_call j as μ = some y from tw_run_iff.mpr ⟨n, hc⟩] at e; cases e
  | some y =>
    obtain ⟨m, hm⟩ := tw_run_iff.mp e
    show tw_run mi pc L st μ = tw_run mi q L (y.1.toList ++ r) y.2
    refine tw_run_ext fun x => ?_
    rw [tw_run_iff, tw_run_iff]
    constructor
    · rintro ⟨n, hn⟩
      cases n with
      | zero => cases hn
      | succ n =>
        rw [tw_ev, h] at hn
        dsimp only at hn
        cases hc : tw_ev n j 0 (tw_en (tw_ml j) as) [] μ with
        | none => rw [hc] at hn; cases hn
        | some z =>
          rw [hc] at hn
          have hz := tw_run_iff.mpr ⟨n, hc⟩
          have hzy : z = y := by
            have := (show tw_call j as μ = some z from hz).symm.trans e
            exact Option.some.inj this
          subst hzy
          exact ⟨n, hn⟩
    · rintro ⟨n, hn⟩
      refine ⟨Nat.max n m + 1, ?_⟩
      rw [tw_ev, h]
      dsimp only
      rw [tw_mono2 (Nat.le_max_right n m) hm]
      exact tw_mono2 (Nat.le_max_left n m) hn
theorem tw_ite {mi x y : Nat} {L : tw_L} {st : List tw_V} {μ : tw_M} {c : Prop} [d : Decidable c] : tw_run mi (if c then x else y) L st μ = if c then tw_run mi x L st μ else tw_run mi y L st μ := by
  split <;> rfl
end
section
def tw_big : List Cond := lw_tbl.filter goodWord
/-- the word w stands at place i, and is one that a callee may ask for -/
def tw_g (i : Nat) (w : Cond) : Bool := (match lw_tbl[i]? with
  | some v => decide (v = w)
  | none => false) && goodWord w
theorem tw_g_in {i : Nat} {w : Cond} (h : tw_g i w = true) : w ∈ tw_big := by
  unfold tw_g at h
  rw [Bool.and_eq_true] at h
  obtain ⟨h1, h2⟩ := h
  split at h1
  · rename_i v hv
    have e : v = w := of_decide_eq_true h1
    subst e
    exact List.mem_filter.mpr ⟨List.mem_of_getElem? hv, h2⟩
  · cases h1
def tw_co (a : Nat) : Jvm.ClassFile.Cond := match a with
  | 0 => .eq
  | 1 => .ne
  | 2 => .lt
  | 3 => .ge
  | 4 => .gt
  | _ => .le
/-- the machine's own instruction -/
def tw_ins (pc : Nat) (o : tw_Op) : Instr :=
  match o with
  | (n, _, a, b, _, _, t, sw) =>
  match n with
  | 0 => .iconst b
  | 1 => .bipush b
  | 2 => .sipush b
  | 3 => .ldc a
  | 4 => .lconst (Fin.ofNat 2 a)
  | 5 => .ldc2_w a
  | 6 => .aconst_null
  | 7 => .iload_n (Fin.ofNat 4 a)
  | 8 => .iload a
  | 9 => .lload_n (Fin.ofNat 4 a)
  | 10 => .lload a
  | 11 => .aload_n (Fin.ofNat 4 a)
  | 12 => .aload a
  | 13 => .istore_n (Fin.ofNat 4 a)
  | 14 => .istore a
  | 15 => .lstore_n (Fin.ofNat 4 a)
  | 16 => .lstore a
  | 17 => .astore_n (Fin.ofNat 4 a)
  | 18 => .astore a
  | 19 => .iinc a b
  | 20 => .iadd
  | 21 => .isub
  | 22 => .imul
  | 23 => .idiv
  | 24 => .irem
  | 25 => .iand
  | 26 => .ior
  | 28 => .ishl
  | 29 => .ishr
  | 30 => .ineg
  | 31 => .ladd
  | 32 => .lsub
  | 33 => .lmul
  | 34 => .ldiv
  | 35 => .lrem
  | 36 => .land
  | 37 => .lor
  | 38 => .lshl
  | 39 => .lshr
  | 40 => .lcmp
  | 41 => .i2l
  | 42 => .l2i
  | 43 => .i2c
  | 44 => .dup
  | 45 => .dup2
  | 46 => .pop
  | 47 => .ifCond (tw_co a) ((tw_t t 0 : Int) - pc)
  | 48 => .if_icmp (tw_co a) ((tw_t t 0 : Int) - pc)
  | 49 => .ifnull ((tw_t t 0 : Int) - pc)
  | 50 => .ifnonnull ((tw_t t 0 : Int) - pc)
  | 51 => .goto ((tw_t t 0 : Int) - pc)
  | 52 => .tableswitch ((tw_t t 0 : Int) - pc) 0 ((sw.length : Int) - 1) (sw.map (fun q => (q.2 : Int) - pc)).toArray
  | 53 => .lookupswitch ((tw_t t 0 : Int) - pc) (sw.map (fun q => (q.1.toInt, (q.2 : Int) - pc))).toArray
  | 54 | 70 | 71 => .getfield a
  | 55 => .putfield a
  | 56 => .iaload
  | 57 => .iastore
  | 58 | 72 => .baload
  | 59 => .bastore
  | 60 => .aaload
  | 61 | 73 => .arraylength
  | 62 => .getstatic a
  | 63 => .ldc a
  | 64 => .invokevirtual a
  | 65 | 74 | 76 | 77 | 78 => .invokestatic a
  | 66 | 75 => .ireturn
  | 67 => .lreturn
  | 68 => .areturn
  | 69 => .return_
  | _ => .nop
def tw_cl (k : Nat) : vw_C := vwCl.getD k ("", TX0, 0)
def tw_mh (y : MethodName) : Bool := decide (y.cls ≠ "java/lang/invoke/MethodHandle") && decide (y.cls ≠ "java/lang/invoke/VarHandle")
def tw_np (y : MethodName) (n : Nat) : Bool := decide ((parseMethodDescriptor y.desc).map (fun d => d.parameters.length) = some n)
/-- room for a callee -/
def tw_rmk (i j : Nat) : Bool := decide (tw_fr j + 1 ≤ tw_fr i) && decide (8 + (tw_ml j + 11) + tw_lo j ≤ tw_lo i)
def tw_kdk (k : Nat) (C : String) : Bool := if k < 7 then decide ((tw_cl k).1 = C) else decide (k = 8) && decide (C = "java/lang/String")
/-- the names of the String constants, by their places -/
def tw_stT : List (Nat × String) := [(47, "place"), (56, "frost"), (62, "warm"), (64, "cold"), (69, "sound"), (71, "person")]
def tw_len (n : Nat) : Nat := match n with
  | 0 => 1
  | 1 => 2
  | 2 => 3
  | 3 => 2
  | 4 => 1
  | 5 => 3
  | 6 | 7 | 9 | 11 | 13 | 15 | 17 => 1
  | 8 | 10 | 12 | 14 | 16 | 18 => 2
  | 19 | 47 | 48 | 49 | 50 | 51 | 54 | 55 | 62 | 64 | 65 | 70 | 71 | 74 | 76 | 77 | 78 => 3
  | 63 => 2
  | _ => 1
/-- what must hold of an operation, at a place of a method -/
def tw_opk (i pc : Nat) (o : tw_Op) : Bool :=
  (match o with
  | (n, w, a, b, c, d, t, sw) =>
  (match n with
  | 52 => true
  | 53 => decide (sw.length = 2 ∧ (sw.getD 0 (0, 0)).1 = 0 ∧ (sw.getD 1 (0, 0)).1 = 1)
  | _ => decide (w = tw_len n)) &&
  (match n with
  | 0 => decide (Int32.ofInt b = c)
  | 1 => decide ((Int8.ofInt b).toInt32 = c)
  | 2 => decide ((Int16.ofInt b).toInt32 = c)
  | 3 => tw_g (tw_t t 0) (.constant (tw_nm i).cls a c)
  | 4 => decide (a < 2) && decide (Int64.ofNat a = d)
  | 5 => tw_g (tw_t t 0) (.constantLong (tw_nm i).cls a d)
  | 7 | 9 | 11 | 13 | 15 | 17 => decide (a < 4)
  | 19 => decide (Int32.ofInt b = c)
  | 47 | 48 => decide (a < 6)
  | 52 => decide (sw.map (fun q => q.1) = (List.range sw.length).map nI) && decide (sw.length < 100)
  | 54 | 55 => decide (tw_t t 0 < 7) && decide (tw_t t 1 < tw_nf (tw_t t 0)) && tw_g (tw_t t 2) (.fieldLink (tw_nm i).cls a (tw_cl (tw_t t 0)).1 ((tw_cl (tw_t t 0)).2.1 (tw_t t 1)).2.1 ((tw_cl (tw_t t 0)).2.1 (tw_t t 1)).2.2.1)
  | 62 => decide (tw_t t 0 < 2) && (match tw_t t 0 with
    | 0 => tw_g (tw_t t 1) (.fieldLink (tw_nm i).cls a "java/lang/String" "COMPACT_STRINGS" "Z")
    | _ => tw_g (tw_t t 1) (.fieldLink (tw_nm i).cls a "jdk/internal/util/Preconditions" "SIOOBE_FORMATTER" "Ljava/util/function/BiFunction;"))
  | 63 => decide ((tw_nm i).cls = "ThawWords$Text") && decide (tw_t t 0 < 6) && decide ((tw_stT.getD (tw_t t 0) (0, "")).1 = a)
  | 64 => decide (tw_t t 0 < tw_tab.length) && tw_g (tw_t t 3) (.methodLink (tw_nm i).cls a (tw_nm (tw_t t 0))) && tw_g (tw_t t 4) (.instanceMethod (tw_nm (tw_t t 0))) && tw_g (tw_t t 5) (.selects (tw_nm (tw_t t 0)).cls (tw_nm (tw_t t 0)) (tw_nm (tw_t t 0))) && tw_g (tw_t t 6) (.initialized (tw_nm (tw_t t 0)).cls) && tw_g (tw_t t 7) (.code (tw_nm (tw_t t 0)) (tw_by (tw_t t 0)) (tw_ml (tw_t t 0)) (tw_re (tw_t t 0))) && tw_mh (tw_nm (tw_t t 0)) && tw_np (tw_nm (tw_t t 0)) (tw_t t 1 - 1) && decide (0 < tw_t t 1) && tw_rmk i (tw_t t 0) && tw_kdk (tw_t t 2) (tw_nm (tw_t t 0)).cls
  | 65 => decide (tw_t t 0 < tw_tab.length) && tw_g (tw_t t 3) (.methodLink (tw_nm i).cls a (tw_nm (tw_t t 0))) && tw_g (tw_t t 4) (.static (tw_nm (tw_t t 0))) && tw_g (tw_t t 5) (.initialized (tw_nm (tw_t t 0)).cls) && tw_g (tw_t t 6) (.code (tw_nm (tw_t t 0)) (tw_by (tw_t t 0)) (tw_ml (tw_t t 0)) (tw_re (tw_t t 0))) && tw_mh (tw_nm (tw_t t 0)) && tw_np (tw_nm (tw_t t 0)) (tw_t t 1) && tw_rmk i (tw_t t 0)
  | 74 => decide (tw_t t 0 < tw_tab.length) && decide (tw_nest[tw_t t 2]? = some ((tw_nm i).cls, a, tw_nm (tw_t t 0))) && tw_g (tw_t t 3) (.static (tw_nm (tw_t t 0))) && tw_g (tw_t t 4) (.initialized (tw_nm (tw_t t 0)).cls) && tw_g (tw_t t 5) (.code (tw_nm (tw_t t 0)) (tw_by (tw_t t 0)) (tw_ml (tw_t t 0)) (tw_re (tw_t t 0))) && tw_mh (tw_nm (tw_t t 0)) && tw_np (tw_nm (tw_t t 0)) (tw_t t 1) && tw_rmk i (tw_t t 0)
  | 66 => decide (tw_re i = some .int)
  | 67 => decide (tw_re i = some .long)
  | 68 => (match tw_re i with
    | some (.object _) => true
    | some (.array _) => true
    | _ => false)
  | 69 => decide (tw_re i = none)
  | 70 => tw_g (tw_t t 0) (.fieldLink (tw_nm i).cls a "java/lang/String" "value" "[B")
  | 71 => tw_g (tw_t t 0) (.fieldLink (tw_nm i).cls a "java/lang/String" "coder" "B")
  | 75 => decide (tw_re i = some (tw_ty a))
  | 76 => tw_g (tw_t t 0) (.methodLink (tw_nm i).cls a Lib.Math.max.name) && tw_g (tw_t t 1) (.static Lib.Math.max.name) && tw_g (tw_t t 2) (.initialized "java/lang/Math") && tw_g (tw_t t 3) (.code Lib.Math.max.name Lib.Math.max.code 2 (some .int)) && decide (1 ≤ tw_fr i) && decide (21 ≤ tw_lo i)
  | 77 => tw_g (tw_t t 0) (.methodLink (tw_nm i).cls a Lib.Math.min.name) && tw_g (tw_t t 1) (.static Lib.Math.min.name) && tw_g (tw_t t 2) (.initialized "java/lang/Math") && tw_g (tw_t t 3) (.code Lib.Math.min.name Lib.Math.min.code 2 (some .int)) && decide (1 ≤ tw_fr i) && decide (21 ≤ tw_lo i)
  | 78 => tw_g (tw_t t 0) (.methodLink (tw_nm i).cls a Lib.Math.abs.name) && tw_g (tw_t t 1) (.static Lib.Math.abs.name) && tw_g (tw_t t 2) (.initialized "java/lang/Math") && tw_g (tw_t t 3) (.code Lib.Math.abs.name Lib.Math.abs.code 1 (some .int)) && decide (1 ≤ tw_fr i) && decide (21 ≤ tw_lo i)
  | _ => true) && decide (decode (tw_by i) pc = .ok (tw_ins pc o, w)))
/-- the method's own code is a word -/
def tw_mk (i : Nat) : Bool := (tw_cd i).all (fun q => tw_opk i q.1 q.2) && plainName (tw_nm i).cls
end
section
theorem tw_mk_0 : tw_mk 0 = true := by decide +kernel
theorem tw_mk_1 : tw_mk 1 = true := by decide +kernel
theorem tw_mk_2 : tw_mk 2 = true := by decide +kernel
theorem tw_mk_3 : tw_mk 3 = true := by decide +kernel
theorem tw_mk_4 : tw_mk 4 = true := by decide +kernel
theorem tw_mk_5 : tw_mk 5 = true := by decide +kernel
theorem tw_mk_6 : tw_mk 6 = true := by decide +kernel
theorem tw_mk_7 : tw_mk 7 = true := by decide +kernel
theorem tw_mk_8 : tw_mk 8 = true := by decide +kernel
theorem tw_mk_9 : tw_mk 9 = true := by decide +kernel
theorem tw_mk_10 : tw_mk 10 = true := by decide +kernel
theorem tw_mk_11 : tw_mk 11 = true := by decide +kernel
theorem tw_mk_12 : tw_mk 12 = true := by decide +kernel
theorem tw_mk_13 : tw_mk 13 = true := by decide +kernel
theorem tw_mk_14 : tw_mk 14 = true := by decide +kernel
theorem tw_mk_15 : tw_mk 15 = true := by decide +kernel
theorem tw_mk_16 : tw_mk 16 = true := by decide +kernel
theorem tw_mk_17 : tw_mk 17 = true := by decide +kernel
theorem tw_mk_18 : tw_mk 18 = true := by decide +kernel
theorem tw_mk_19 : tw_mk 19 = true := by decide +kernel
theorem tw_mk_20 : tw_mk 20 = true := by decide +kernel
theorem tw_mk_21 : tw_mk 21 = true := by decide +kernel
theorem tw_mk_22 : tw_mk 22 = true := by decide +kernel
theorem tw_mk_23 : tw_mk 23 = true := by decide +kernel
theorem tw_mk_24 : tw_mk 24 = true := by decide +kernel
theorem tw_mk_25 : tw_mk 25 = true := by decide +kernel
theorem tw_mk_26 : tw_mk 26 = true := by decide +kernel
theorem tw_mk_27 : tw_mk 27 = true := by decide +kernel
theorem tw_mk_28 : tw_mk 28 = true := by decide +kernel
theorem tw_mk_29 : tw_mk 29 = true := by decide +kernel
theorem tw_mk_30 : tw_mk 30 = true := by decide +kernel
theorem tw_mk_31 : tw_mk 31 = true := by decide +kernel
theorem tw_mk_32 : tw_mk 32 = true := by decide +kernel
theorem tw_mk_33 : tw_mk 33 = true := by decide +kernel
theorem tw_mk_34 : tw_mk 34 = true := by decide +kernel
theorem tw_mk_35 : tw_mk 35 = true := by decide +kernel
theorem tw_mk_36 : tw_mk 36 = true := by decide +kernel
theorem tw_mk_37 : tw_mk 37 = true := by decide +kernel
theorem tw_mk_38 : tw_mk 38 = true := by decide +kernel
theorem tw_mk_39 : tw_mk 39 = true := by decide +kernel
theorem tw_mk_40 : tw_mk 40 = true := by decide +kernel
theorem tw_mk_41 : tw_mk 41 = true := by decide +kernel
theorem tw_mk_42 : tw_mk 42 = true := by decide +kernel
theorem tw_mk_43 : tw_mk 43 = true := by decide +kernel
theorem tw_mk_44 : tw_mk 44 = true := by decide +kernel
theorem tw_mk_45 : tw_mk 45 = true := by decide +kernel
theorem tw_mk_46 : tw_mk 46 = true := by decide +kernel
theorem tw_mk_47 : tw_mk 47 = true := by decide +kernel
theorem tw_mk_48 : tw_mk 48 = true := by decide +kernel
theorem tw_mk_49 : tw_mk 49 = true := by decide +kernel
theorem tw_mk_50 : tw_mk 50 = true := by decide +kernel
theorem tw_mk_51 : tw_mk 51 = true := by decide +kernel
theorem tw_mk_52 : tw_mk 52 = true := by decide +kernel
theorem tw_mk_53 : tw_mk 53 = true := by decide +kernel
theorem tw_mk_54 : tw_mk 54 = true := by decide +kernel
theorem tw_mk_55 : tw_mk 55 = true := by decide +kernel
theorem tw_mk_56 : tw_mk 56 = true := by decide +kernel
theorem tw_mk_57 : tw_mk 57 = true := by decide +kernel
theorem tw_mk_58 : tw_mk 58 = true := by decide +kernel
theorem tw_mk_59 : tw_mk 59 = true := by decide +kernel
theorem tw_mk_60 : tw_mk 60 = true := by decide +kernel
theorem tw_mk_61 : tw_mk 61 = true := by decide +kernel
theorem tw_mk_62 : tw_mk 62 = true := by decide +kernel
theorem tw_mk_63 : tw_mk 63 = true := by decide +kernel
theorem tw_mk_64 : tw_mk 64 = true := by decide +kernel
theorem tw_mk_65 : tw_mk 65 = true := by decide +kernel
theorem tw_mk_66 : tw_mk 66 = true := by decide +kernel
theorem tw_mk_67 : tw_mk 67 = true := by decide +kernel
theorem tw_mk_68 : tw_mk 68 = true := by decide +kernel
theorem tw_mk_69 : tw_mk 69 = true := by decide +kernel
theorem tw_mk_70 : tw_mk 70 = true := by decide +kernel
theorem tw_mk_71 : tw_mk 71 = true := by decide +kernel
theorem tw_mk_72 : tw_mk 72 = true := by decide +kernel
theorem tw_mk_73 : tw_mk 73 = true := by decide +kernel
theorem tw_mk_74 : tw_mk 74 = true := by decide +kernel
theorem tw_mk_75 : tw_mk 75 = true := by decide +kernel
theorem tw_mk_76 : tw_mk 76 = true := by decide +kernel
theorem tw_mk_77 : tw_mk 77 = true := by decide +kernel
theorem tw_mk_78 : tw_mk 78 = true := by decide +kernel
theorem tw_mk_79 : tw_mk 79 = true := by decide +kernel
theorem tw_mk_80 : tw_mk 80 = true := by decide +kernel
theorem tw_mk_81 : tw_mk 81 = true := by decide +kernel
theorem tw_mk_82 : tw_mk 82 = true := by decide +kernel
theorem tw_mk_83 : tw_mk 83 = true := by decide +kernel
theorem tw_mk_84 : tw_mk 84 = true := by decide +kernel
theorem tw_mk_85 : tw_mk 85 = true := by decide +kernel
theorem tw_mk_86 : tw_mk 86 = true := by decide +kernel
theorem tw_mk_87 : tw_mk 87 = true := by decide +kernel
theorem tw_mk_88 : tw_mk 88 = true := by decide +kernel
theorem tw_mk_89 : tw_mk 89 = true := by decide +kernel
theorem tw_mk_90 : tw_mk 90 = true := by decide +kernel
theorem tw_mk_91 : tw_mk 91 = true := by decide +kernel
theorem tw_mk_92 : tw_mk 92 = true := by decide +kernel
theorem tw_mk_93 : tw_mk 93 = true := by decide +kernel
theorem tw_mk_94 : tw_mk 94 = true := by decide +kernel
theorem tw_mk_95 : tw_mk 95 = true := by decide +kernel
theorem tw_mk_96 : tw_mk 96 = true := by decide +kernel
theorem tw_mk_97 : tw_mk 97 = true := by decide +kernel
theorem tw_mk_98 : tw_mk 98 = true := by decide +kernel
theorem tw_mk_99 : tw_mk 99 = true := by decide +kernel
theorem tw_mk_100 : tw_mk 100 = true := by decide +kernel
theorem tw_mk_101 : tw_mk 101 = true := by decide +kernel
theorem tw_mk_102 : tw_mk 102 = true := by decide +kernel
theorem tw_mk_103 : tw_mk 103 = true := by decide +kernel
theorem tw_mk_104 : tw_mk 104 = true := by decide +kernel
theorem tw_mk_105 : tw_mk 105 = true := by decide +kernel
theorem tw_mk_106 : tw_mk 106 = true := by decide +kernel
theorem tw_mk_107 : tw_mk 107 = true := by decide +kernel
theorem tw_mk_108 : tw_mk 108 = true := by decide +kernel
theorem tw_mk_109 : tw_mk 109 = true := by decide +kernel
theorem tw_mk_110 : tw_mk 110 = true := by decide +kernel
theorem tw_mk_111 : tw_mk 111 = true := by decide +kernel
theorem tw_mk_112 : tw_mk 112 = true := by decide +kernel
theorem tw_mk_113 : tw_mk 113 = true := by decide +kernel
theorem tw_mk_114 : tw_mk 114 = true := by decide +kernel
theorem tw_mk_115 : tw_mk 115 = true := by decide +kernel
theorem tw_mk_116 : tw_mk 116 = true := by decide +kernel
theorem tw_mk_117 : tw_mk 117 = true := by decide +kernel
theorem tw_mk_118 : tw_mk 118 = true := by decide +kernel
theorem tw_mk_119 : tw_mk 119 = true := by decide +kernel
theorem tw_mk_120 : tw_mk 120 = true := by decide +kernel
theorem tw_mk_121 : tw_mk 121 = true := by decide +kernel
theorem tw_mk_122 : tw_mk 122 = true := by decide +kernel
theorem tw_mk_123 : tw_mk 123 = true := by decide +kernel
theorem tw_mk_124 : tw_mk 124 = true := by decide +kernel
theorem tw_mk_125 : tw_mk 125 = true := by decide +kernel
theorem tw_mk_126 : tw_mk 126 = true := by decide +kernel
theorem tw_mk_127 : tw_mk 127 = true := by decide +kernel
theorem tw_mk_128 : tw_mk 128 = true := by decide +kernel
theorem tw_mk_129 : tw_mk 129 = true := by decide +kernel
theorem tw_mk_130 : tw_mk 130 = true := by decide +kernel
theorem tw_mk_131 : tw_mk 131 = true := by decide +kernel
theorem tw_mk_132 : tw_mk 132 = true := by decide +kernel
theorem tw_mk_133 : tw_mk 133 = true := by decide +kernel
theorem tw_mk_134 : tw_mk 134 = true := by decide +kernel
theorem tw_mk_135 : tw_mk 135 = true := by decide +kernel
theorem tw_mk_136 : tw_mk 136 = true := by decide +kernel
theorem tw_mk_137 : tw_mk 137 = true := by decide +kernel
theorem tw_mk_138 : tw_mk 138 = true := by decide +kernel
theorem tw_mk_139 : tw_mk 139 = true := by decide +kernel
theorem tw_mk_140 : tw_mk 140 = true := by decide +kernel
theorem tw_mk_141 : tw_mk 141 = true := by decide +kernel
theorem tw_mk_142 : tw_mk 142 = true := by decide +kernel
theorem tw_mk_143 : tw_mk 143 = true := by decide +kernel
theorem tw_mk_144 : tw_mk 144 = true := by decide +kernel
theorem tw_mk_145 : tw_mk 145 = true := by decide +kernel
theorem tw_mk_146 : tw_mk 146 = true := by decide +kernel
theorem tw_mk_147 : tw_mk 147 = true := by decide +kernel
theorem tw_mk_148 : tw_mk 148 = true := by decide +kernel
theorem tw_mk_149 : tw_mk 149 = true := by decide +kernel
theorem tw_mk_150 : tw_mk 150 = true := by decide +kernel
theorem tw_mk_151 : tw_mk 151 = true := by decide +kernel
theorem tw_mk_152 : tw_mk 152 = true := by decide +kernel
theorem tw_mk_153 : tw_mk 153 = true := by decide +kernel
theorem tw_mk_154 : tw_mk 154 = true := by decide +kernel
theorem tw_mk_155 : tw_mk 155 = true := by decide +kernel
theorem tw_mk_156 : tw_mk 156 = true := by decide +kernel
theorem tw_mk_157 : tw_mk 157 = true := by decide +kernel
theorem tw_mk_158 : tw_mk 158 = true := by decide +kernel
set_option maxRecDepth 10000 in
theorem tw_mk_all : ∀ i, i < 159 → tw_mk i = true := lt_s (lt_s (lt_s (lt_s (lt_s (lt_s (lt_s (lt_s (lt_s (lt_s (lt_s (lt_s (lt_s (lt_s (lt_s (lt_s (lt_s (lt_s (lt_s (lt_s (lt_s (lt_s (lt_s (lt_s (lt_s (lt_s (lt_s (lt_s (lt_s (lt_s (lt_s (lt_s (lt_s (lt_s (lt_s (lt_s (lt_s (lt_s (lt_s (lt_s (lt_s (lt_s (lt_s (lt_s (lt_s (lt_s (lt_s (lt_s (lt_s (lt_s (lt_s (lt_s (lt_s (lt_s (lt_s (lt_s (lt_s (lt_s (lt_s (lt_s (lt_s (lt_s (lt_s (lt_s (lt_s (lt_s (lt_s (lt_s (lt_s (lt_s (lt_s (lt_s (lt_s (lt_s (lt_s (lt_s (lt_s (lt_s (lt_s (lt_s (lt_s (lt_s (lt_s (lt_s (lt_s (lt_s (lt_s (lt_s (lt_s (lt_s (lt_s (lt_s (lt_s (lt_s (lt_s (lt_s (lt_s (lt_s (lt_s (lt_s (lt_s (lt_s (lt_s (lt_s (lt_s (lt_s (lt_s (lt_s (lt_s (lt_s (lt_s (lt_s (lt_s (lt_s (lt_s (lt_s (lt_s (lt_s (lt_s (lt_s (lt_s (lt_s (lt_s (lt_s (lt_s (lt_s (lt_s (lt_s (lt_s (lt_s (lt_s (lt_s (lt_s (lt_s (lt_s (lt_s (lt_s (lt_s (lt_s (lt_s (lt_s (lt_s (lt_s (lt_s (lt_s (lt_s (lt_s (lt_s (lt_s (lt_s (lt_s (lt_s (lt_s (lt_s (lt_s (lt_s (lt_s (lt_s (lt_s (lt_0) tw_mk_0) tw_mk_1) tw_mk_2) tw_mk_3) tw_mk_4) tw_mk_5) tw_mk_6) tw_mk_7) tw_mk_8) tw_mk_9) tw_mk_10) tw_mk_11) tw_mk_12) tw_mk_13) tw_mk_14) tw_mk_15) tw_mk_16) tw_mk_17) tw_mk_18) tw_mk_19) tw_mk_20) tw_mk_21) tw_mk_22) tw_mk_23) tw_mk_24) tw_mk_25) tw_mk_26) tw_mk_27) tw_mk_28) tw_mk_29) tw_mk_30) tw_mk_31) tw_mk_32) tw_mk_33) tw_mk_34) tw_mk_35) tw_mk_36) tw_mk_37) tw_mk_38) tw_mk_39) tw_mk_40) tw_mk_41) tw_mk_42) tw_mk_43) tw_mk_44) tw_mk_45) tw_mk_46) tw_mk_47) tw_mk_48) tw_mk_49) tw_mk_50) tw_mk_51) tw_mk_52) tw_mk_53) tw_mk_54) tw_mk_55) tw_mk_56) tw_mk_57) tw_mk_58) tw_mk_59) tw_mk_60) tw_mk_61) tw_mk_62) tw_mk_63) tw_mk_64) tw_mk_65) tw_mk_66) tw_mk_67) tw_mk_68) tw_mk_69) tw_mk_70) tw_mk_71) tw_mk_72) tw_mk_73) tw_mk_74) tw_mk_75) tw_mk_76) tw_mk_77) tw_mk_78) tw_mk_79) tw_mk_80) tw_mk_81) tw_mk_82) tw_mk_83) tw_mk_84) tw_mk_85) tw_mk_86) tw_mk_87) tw_mk_88) tw_mk_89) tw_mk_90) tw_mk_91) tw_mk_92) tw_mk_93) tw_mk_94) tw_mk_95) tw_mk_96) tw_mk_97) tw_mk_98) tw_mk_99) tw_mk_100) tw_mk_101) tw_mk_102) tw_mk_103) tw_mk_104) tw_mk_105) tw_mk_106) tw_mk_107) tw_mk_108) tw_mk_109) tw_mk_110) tw_mk_111) tw_mk_112) tw_mk_113) tw_mk_114) tw_mk_115) tw_mk_116) tw_mk_117) tw_mk_118) tw_mk_119) tw_mk_120) tw_mk_121) tw_mk_122) tw_mk_123) tw_mk_124) tw_mk_125) tw_mk_126) tw_mk_127) tw_mk_128) tw_mk_129) tw_mk_130) tw_mk_131) tw_mk_132) tw_mk_133) tw_mk_134) tw_mk_135) tw_mk_136) tw_mk_137) tw_mk_138) tw_mk_139) tw_mk_140) tw_mk_141) tw_mk_142) tw_mk_143) tw_mk_144) tw_mk_145) tw_mk_146) tw_mk_147) tw_mk_148) tw_mk_149) tw_mk_150) tw_mk_151) tw_mk_152) tw_mk_153) tw_mk_154) tw_mk_155) tw_mk_156) tw_mk_157) tw_mk_158
theorem tw_tab_len : tw_tab.length = 159 := by decide +kernel
end
section
/-! the worlds -/
/-- tables, addresses, array kinds, which cells are there, the texts, the formatter -/
abbrev tw_E : Type := va_G × (Nat → Nat → Nat) × (Nat → ClassId) × List (Nat × Nat) × (Nat → Nat) × (Nat → Nat) × Value
abbrev tw_D (g : tw_E) : va_G := g.1
abbrev tw_ad (g : tw_E) : Nat → Nat → Nat := g.2.1
abbrev tw_cy (g : tw_E) : Nat → ClassId := g.2.2.1
abbrev tw_vs (g : tw_E) : List (Nat × Nat) := g.2.2.2.1
abbrev tw_aK (g : tw_E) : Nat → Nat := g.2.2.2.2.1
abbrev tw_aV (g : tw_E) : Nat → Nat := g.2.2.2.2.2.1
abbrev tw_fo (g : tw_E) : Value := g.2.2.2.2.2.2
def tw_rv (g : tw_E) (v : tw_V) : Value := match v with
  | Sum.inl x => .int x
  | Sum.inr (Sum.inl x) => .long x
  | Sum.inr (Sum.inr none) => .null
  | Sum.inr (Sum.inr (some (k, n))) => if k = 8 then .ref (tw_aK g n) else if k = 9 then .ref (tw_aV g n) else if k = 98 then tw_fo g else .ref (tw_ad g k n)
def tw_ent (g : tw_E) (μ : tw_M) (k n : Nat) : va_E :=
  if k < 7 then .inr (k, (List.range (tw_nf k)).map (fun j => tw_rv g (tw_fv μ k n j)))
  else if k = 21 then .inl (tw_cy g 3, (8, .inr (.inr (.inr (.inr (fun j => some (tw_ad g 2 (8 * n + j))))))))
  else if k = 22 then .inl (tw_cy g 2, (4, .inr (.inr (.inr (.inr (fun j => some (tw_ad g 1 (4 * n + j))))))))
  else if k = 38 then .inl (tw_cy g 1, (2, .inl (fun j => tw_gi μ 38 n j)))
  else .inl (tw_cy g 0, (tw_al k, .inl (fun j => tw_gi μ k n j)))
def tw_ws (g : tw_E) (μ : tw_M) : va_W := (tw_vs g).map (fun x => (tw_ad g x.1 x.2, tw_ent g μ x.1 x.2))
def tw_A (g : tw_E) : Nat → Prop := fun q => ∃ x, x ∈ tw_vs g ∧ q = tw_ad g x.1 x.2
def tw_ys (g : tw_E) : List (ClassId × FieldType) := [(tw_cy g 0, .int), (tw_cy g 1, .boolean), (tw_cy g 2, .object RX1), (tw_cy g 3, .object RX2)]
/-- the cells' references stay among them -/
def tw_sh (g : tw_E) : Prop :=
  (∀ x, x ∈ tw_vs g → x.1 < 7 → ∀ j, j < tw_nf x.1 → tw_fk x.1 j = 2 → tw_rf x.1 j x.2 ∈ tw_vs g) ∧
  (∀ n, (21, n) ∈ tw_vs g → ∀ j, j < 8 → (2, 8 * n + j) ∈ tw_vs g) ∧
  (∀ n, (22, n) ∈ tw_vs g → ∀ j, j < 4 → (1, 4 * n + j) ∈ tw_vs g) ∧
  (∀ x, x ∈ tw_vs g → x.1 < 7 ∨ tw_ia x.1 = true ∨ x.1 = 21 ∨ x.1 = 22 ∨ x.1 = 38) ∧
  (∀ x, x ∈ tw_vs g → x.1 = 5 ∨ x.1 = 6 → x.2 = 0)
/-- the cells are apart -/
def tw_ap (g : tw_E) : Prop := ∀ (i j : Nat) (x y : Nat × Nat), (tw_vs g)[i]? = some x → (tw_vs g)[j]? = some y → tw_ad g x.1 x.2 = tw_ad g y.1 y.2 → i = j
/-- what stands fast -/
def tw_F (g : tw_E) (s : State) (H : Heap) : Prop :=
  va_K (tw_D g) vwCl (tw_ys g) s ∧ vk_S 6 tw_lenT tw_bytT (tw_aK g) (tw_aV g) (tw_A g) s H ∧
  va_Z "java/lang/String" "COMPACT_STRINGS" "Z" (.int 1) (tw_A g) s H ∧
  va_Z "jdk/internal/util/Preconditions" "SIOOBE_FORMATTER" "Ljava/util/function/BiFunction;" (tw_fo g) (tw_A g) s H ∧
  (tw_fo g = .null ∨ ∃ t, tw_fo g = .ref t) ∧
  (∀ i, i < 6 → vk_R "ThawWords$Text" (tw_stT.getD i (0, "")).1 (tw_stT.getD i (0, "")).2 (tw_aK g i) s) ∧
  (∀ q, q ∈ tw_nest → va_Nw (.methodLinkNest q.1 q.2.1 q.2.2 "ThawWords") s)
theorem tw_F.go {g : tw_E} {s U : State} {H : Heap} (h : tw_F g s s.heap) (hW : s.WarmedH U.vm) (hH : ∀ q : Nat, q < s.heap.size → ¬ tw_A g q → H[q]? = s.heap[q]?) : tw_F g U H := by
  obtain ⟨h1, h2, h3, h4, h5, h6, h7⟩ := h
  exact ⟨va_K.moved hW.alike h1, vk_S.moved hW.alike (h2.kept hH), va_Z.moved hW.alike (h3.kept hH), va_Z.moved hW.alike (h4.kept hH), h5, fun i hi => vk_R.warm hW (h6 i hi), fun q hq => va_Nw.warmM hW (h7 q hq)⟩
theorem tw_F.calling {g : tw_E} {U : State} {m : JFrame} {mk : MethodId} {a : Array Value} (h : tw_F g U U.heap) : tw_F g (U.calling m mk a) (U.calling m mk a).heap := by
  obtain ⟨h1, h2, h3, h4, h5, h6, h7⟩ := h
  have e : (U.calling m mk a).vm = U.vm := rfl
  have al : U.vm.Alike (U.calling m mk a).vm := Vm.Alike.refl U.vm
  exact ⟨va_K.moved al h1, vk_S.moved al h2, va_Z.moved al h3, va_Z.moved al h4, h5, fun i hi => vk_R.same e (h6 i hi), fun q hq => va_Nw.same rfl e.symm (h7 q hq)⟩
/-- a value that there is -/
def tw_vd (g : tw_E) (v : tw_V) : Prop := match v with
  | Sum.inr (Sum.inr (some (k, n))) => (k = 8 ∧ n < 6) ∨ (k = 9 ∧ n < 6) ∨ k = 98 ∨ (k, n) ∈ tw_vs g
  | _ => True
theorem tw_rv_cat {g : tw_E} {s : State} {H : Heap} (h : tw_F g s H) (v : tw_V) : (tw_rv g v).category = tw_ca v := by
  rcases v with x | x | _ | ⟨k, n⟩
  · rfl
  · rfl
  · rfl
  · show (tw_rv g _).category = 1
    unfold tw_rv
    dsimp only
    split
    · rfl
    · split
      · rfl
      · split
        · rcases h.2.2.2.2.1 with e | ⟨t, e⟩ <;> rw [e] <;> rfl
        · rfl
theorem tw_lt7 {P : Nat → Prop} (h0 : P 0) (h1 : P 1) (h2 : P 2) (h3 : P 3) (h4 : P 4) (h5 : P 5) (h6 : P 6) {c : Nat} (h : c < 7) : P c := by
  match c, h with
  | 0, _ => exact h0
  | 1, _ => exact h1
  | 2, _ => exact h2
  | 3, _ => exact h3
  | 4, _ => exact h4
  | 5, _ => exact h5
  | 6, _ => exact h6
  | n + 7, h => exact absurd h (by omega)
theorem tw_cl_at {c : Nat} (h : c < 7) : vwCl[c]? = some ((tw_cl c).1, (tw_cl c).2.1, (tw_cl c).2.2) := by
  refine tw_lt7 (P := fun c => vwCl[c]? = some ((tw_cl c).1, (tw_cl c).2.1, (tw_cl c).2.2)) ?_ ?_ ?_ ?_ ?_ ?_ ?_ h <;> rfl
theorem tw_cl_n {c : Nat} (h : c < 7) : (tw_cl c).2.2 = tw_nf c := by
  refine tw_lt7 (P := fun c => (tw_cl c).2.2 = tw_nf c) ?_ ?_ ?_ ?_ ?_ ?_ ?_ h <;> rfl
def tw_tyf (c : Nat) : Nat → FieldType := match c with
  | 0 => tyX0
  | 1 => tyX1
  | 2 => tyX2
  | 3 => tyX3
  | 4 => tyX4
  | 5 => tyX5
  | _ => tyX6
theorem tw_cl_ty {c : Nat} (h : c < 7) : ∀ k, k < (tw_cl c).2.2 → parseFieldDescriptor ((tw_cl c).2.1 k).2.2.1 = some (tw_tyf c k) := by
  refine tw_lt7 (P := fun c => ∀ k, k < (tw_cl c).2.2 → parseFieldDescriptor ((tw_cl c).2.1 k).2.2.1 = some (tw_tyf c k)) ?_ ?_ ?_ ?_ ?_ ?_ ?_ h
  · exact tyX0_ok
  · exact tyX1_ok
  · exact tyX2_ok
  · exact tyX3_ok
  · exact tyX4_ok
  · exact tyX5_ok
  · exact tyX6_ok
theorem tw_cl_nm {c : Nat} (h : c < 7) : ∀ a, a < (tw_cl c).2.2 → ∀ b, b < (tw_cl c).2.2 → a ≠ b → ((tw_cl c).2.1 a).2.1 ≠ ((tw_cl c).2.1 b).2.1 := by
  refine tw_lt7 (P := fun c => ∀ a, a < (tw_cl c).2.2 → ∀ b, b < (tw_cl c).2.2 → a ≠ b → ((tw_cl c).2.1 a).2.1 ≠ ((tw_cl c).2.1 b).2.1) ?_ ?_ ?_ ?_ ?_ ?_ ?_ h
  · exact nmX0
  · exact nmX1
  · exact nmX2
  · exact nmX3
  · exact nmX4
  · exact nmX5
  · exact nmX6
theorem tw_big_of {ws : List Cond} (h1 : ∀ w ∈ ws, w ∈ lw_tbl) (h2 : ws.all goodWord = true) : ∀ w ∈ ws, w ∈ tw_big := fun w hw => List.mem_filter.mpr ⟨h1 w hw, List.all_eq_true.mp h2 w hw⟩
theorem tw_cl_w0 : ∀ w ∈ wsX00, w ∈ tw_big := tw_big_of (by decide +kernel) (by decide +kernel)
theorem tw_cl_w1 : ∀ w ∈ wsX10, w ∈ tw_big := tw_big_of (by decide +kernel) (by decide +kernel)
theorem tw_cl_w2 : ∀ w ∈ wsX20, w ∈ tw_big := tw_big_of (by decide +kernel) (by decide +kernel)
theorem tw_cl_w3 : ∀ w ∈ wsX30, w ∈ tw_big := tw_big_of (by decide +kernel) (by decide +kernel)
theorem tw_cl_w4 : ∀ w ∈ wsX40, w ∈ tw_big := tw_big_of (by decide +kernel) (by decide +kernel)
theorem tw_cl_w5 : ∀ w ∈ wsX50, w ∈ tw_big := tw_big_of (by decide +kernel) (by decide +kernel)
theorem tw_cl_w6 : ∀ w ∈ wsX60, w ∈ tw_big := tw_big_of (by decide +kernel) (by decide +kernel)
theorem tw_cl_w {c : Nat} (h : c < 7) : ∀ w ∈ u_ws (tw_cl c).1 (tw_cl c).2.1 (tw_cl c).2.2, w ∈ tw_big := by
  refine tw_lt7 (P := fun c => ∀ w ∈ u_ws (tw_cl c).1 (tw_cl c).2.1 (tw_cl c).2.2, w ∈ tw_big) ?_ ?_ ?_ ?_ ?_ ?_ ?_ h
  · exact tw_cl_w0
  · exact tw_cl_w1
  · exact tw_cl_w2
  · exact tw_cl_w3
  · exact tw_cl_w4
  · exact tw_cl_w5
  · exact tw_cl_w6
theorem tw_cl_own {c j : Nat} (h : c < 7) (hj : j < tw_nf c) : ((tw_cl c).2.1 j).1 = (tw_cl c).1 := by
  have h25 : ∀ c, c < 7 → ∀ j, j < 25 → ((tw_cl c).2.1 j).1 = (tw_cl c).1 := by decide +kernel
  have hn : ∀ c, c < 7 → tw_nf c ≤ 25 := by decide +kernel
  exact h25 c h j (Nat.lt_of_lt_of_le hj (hn c h))
theorem tw_cl_free {c j : Nat} (h : c < 7) (hj : j < tw_nf c) : (tw_fk c j = 2 ∨ ((tw_cl c).2.1 j).2.2.2 = false) ∧ (tw_fk c j = 0 → tw_tyf c j = .int) ∧ (tw_fk c j = 1 → tw_tyf c j = .long) ∧ (tw_fk c j = 3 → tw_tyf c j = .boolean) := by
  have h25 : ∀ c, c < 7 → ∀ j, j < tw_nf c → (tw_fk c j = 2 ∨ ((tw_cl c).2.1 j).2.2.2 = false) ∧ (tw_fk c j = 0 → tw_tyf c j = .int) ∧ (tw_fk c j = 1 → tw_tyf c j = .long) ∧ (tw_fk c j = 3 → tw_tyf c j = .boolean) := by decide +kernel
  exact h25 c h j hj
/-! locals -/
def tw_LR (g : tw_E) (L : tw_L) (ls : Array Slot) : Prop := ls.size = L.length ∧ lv_wf ls ∧ ∀ (i : Nat) (v : tw_V), L[i]? = some (some v) → ls[i]? = some (.val (tw_rv g v))
def tw_as (g : tw_E) (L : tw_L) : List (Nat × Value) := (List.range L.length).filterMap (fun j => match L[j]? with
  | some (some v) => some (j, tw_rv g v)
  | _ => none)
theorem tw_as_in {g : tw_E} {L : tw_L} {q : Nat × Value} : q ∈ tw_as g L ↔ ∃ v, L[q.1]? = some (some v) ∧ q.2 = tw_rv g v := by
  unfold tw_as
  rw [List.mem_filterMap]
  constructor
  · rintro ⟨j, -, hj⟩
    split at hj
    · rename_i v hv
      cases hj
      exact ⟨v, hv, rfl⟩
    · cases hj
  · rintro ⟨v, hv, e⟩
    refine ⟨q.1, List.mem_range.mpr (List.getElem?_eq_some_iff.mp hv).1, ?_⟩
    rw [hv]
    show some (q.1, tw_rv g v) = some q
    rw [← e]
theorem tw_LR_has {g : tw_E} {L : tw_L} {ls : Array Slot} (h : tw_LR g L ls) : lv_has ls L.length (tw_as g L) := by
  refine ⟨h.1, h.2.1, fun q hq => ?_⟩
  obtain ⟨v, hv, e⟩ := tw_as_in.mp hq
  rw [e]
  exact h.2.2 _ _ hv
theorem tw_kl_len : ∀ (i : Nat) (L : tw_L), (tw_kl i L).length = L.length
  | 0, L => by cases L <;> rfl
  | _ + 1, [] => by rw [tw_kl]
  | 1, o :: L => by simp [tw_kl]
  | i + 2, o :: L => by simp [tw_kl, tw_kl_len (i + 1) L]
theorem tw_k_of {o : Option tw_V} {w : tw_V} (h : tw_k o = some w) : o = some w ∧ tw_ca w ≠ 2 := by
  unfold tw_k at h
  split at h
  · cases h
  · subst h
    rename_i h2
    refine ⟨rfl, fun e => ?_⟩
    rcases w with x | x | x
    · cases e
    · exact h2 x rfl
    · cases e
theorem tw_kl_at : ∀ (i : Nat) (L : tw_L) (j : Nat) (w : tw_V), (tw_kl i L)[j]? = some (some w) → L[j]? = some (some w) ∧ ¬ (j + 1 = i ∧ tw_ca w = 2)
  | 0, L, j, w, h => ⟨by cases L <;> exact h, fun e => by omega⟩
  | _ + 1, [], j, w, h => by rw [tw_kl] at h; cases h
  | 1, o :: L, j, w, h => by
    rw [tw_kl] at h
    cases j with
    | zero =>
      have h1 : tw_k o = some w := by simpa using h
      obtain ⟨e1, e2⟩ := tw_k_of h1
      exact ⟨by rw [e1]; rfl, fun e => e2 e.2⟩
    | succ j => exact ⟨by simpa using h, fun e => by omega⟩
  | i + 2, o :: L, j, w, h => by
    rw [tw_kl] at h
    cases j with
    | zero => exact ⟨by simpa using h, fun e => by omega⟩
    | succ j =>
      have h1 : (tw_kl (i + 1) L)[j]? = some (some w) := by simpa using h
      obtain ⟨e1, e2⟩ := tw_kl_at (i + 1) L j w h1
      exact ⟨by simpa using e1, fun e => e2 ⟨by omega, e.2⟩⟩
theorem tw_s1_len (L : tw_L) (i : Nat) (v : tw_V) : (tw_s1 L i v).length = L.length := by simp [tw_s1, tw_kl_len]
theorem tw_s2_len (L : tw_L) (i : Nat) (v : tw_V) : (tw_s2 L i v).length = L.length := by simp [tw_s2, tw_kl_len]
theorem tw_s1_at {L : tw_L} {i j : Nat} {v w : tw_V} (h : (tw_s1 L i v)[j]? = some (some w)) : (j = i ∧ w = v) ∨ (j ≠ i ∧ L[j]? = some (some w) ∧ ¬ (j + 1 = i ∧ tw_ca w = 2)) := by
  unfold tw_s1 at h
  by_cases e : j = i
  · subst e
    rw [List.getElem?_set] at h
    rw [if_pos rfl] at h
    split at h
    · cases h; exact Or.inl ⟨rfl, rfl⟩
    · cases h
  · rw [List.getElem?_set_ne (Ne.symm e)] at h
    exact Or.inr ⟨e, tw_kl_at _ _ _ _ h⟩
theorem tw_s2_at {L : tw_L} {i j : Nat} {v w : tw_V} (h : (tw_s2 L i v)[j]? = some (some w)) : (j = i ∧ w = v) ∨ (j ≠ i ∧ j ≠ i + 1 ∧ L[j]? = some (some w) ∧ ¬ (j + 1 = i ∧ tw_ca w = 2)) := by
  unfold tw_s2 at h
  by_cases e : j = i + 1
  · subst e
    rw [List.getElem?_set] at h
    rw [if_pos rfl] at h
    split at h
    · cases h
    · cases h
  · rw [List.getElem?_set_ne (Ne.symm e)] at h
    by_cases e2 : j = i
    · subst e2
      rw [List.getElem?_set] at h
      rw [if_pos rfl] at h
      split at h
      · cases h; exact Or.inl ⟨rfl, rfl⟩
      · cases h
    · rw [List.getElem?_set_ne (Ne.symm e2)] at h
      exact Or.inr ⟨e2, e, tw_kl_at _ _ _ _ h⟩
theorem tw_LR_s1 {g : tw_E} {s : State} {H : Heap} {L : tw_L} {ls : Array Slot} {i : Nat} {v : tw_V} (hF : tw_F g s H) (h : lv_has ls L.length ((i, tw_rv g v) :: (tw_as g L).filter (fun q => !(q.1 == i) && !(q.1 + 1 == i && q.2.category == 2)))) : tw_LR g (tw_s1 L i v) ls := by
  refine ⟨by rw [tw_s1_len]; exact h.1, h.2.1, fun j w hj => ?_⟩
  rcases tw_s1_at hj with ⟨rfl, rfl⟩ | ⟨n1, h1, n2⟩
  · exact h.2.2 _ List.mem_cons_self
  · refine h.2.2 (j, tw_rv g w) (List.mem_cons_of_mem _ (List.mem_filter.mpr ⟨tw_as_in.mpr ⟨w, h1, rfl⟩, ?_⟩))
    have n3 : ¬ (j + 1 = i ∧ (tw_rv g w).category = 2) := by rw [tw_rv_cat hF]; exact n2
    simp only [Bool.and_eq_true, Bool.not_eq_true', beq_eq_false_iff_ne, ne_eq, Bool.and_eq_false_iff]
    refine ⟨n1, ?_⟩
    by_cases e : j + 1 = i
    · exact Or.inr (fun z => n3 ⟨e, z⟩)
    · exact Or.inl e
theorem tw_LR_s2 {g : tw_E} {s : State} {H : Heap} {L : tw_L} {ls : Array Slot} {i : Nat} {v : tw_V} (hF : tw_F g s H) (h : lv_has ls L.length ((i, tw_rv g v) :: (tw_as g L).filter (fun q => !(q.1 == i) && (!(q.1 == i + 1) && !(q.1 + 1 == i && q.2.category == 2))))) : tw_LR g (tw_s2 L i v) ls := by
  refine ⟨by rw [tw_s2_len]; exact h.1, h.2.1, fun j w hj => ?_⟩
  rcases tw_s2_at hj with ⟨rfl, rfl⟩ | ⟨n1, n0, h1, n2⟩
  · exact h.2.2 _ List.mem_cons_self
  · refine h.2.2 (j, tw_rv g w) (List.mem_cons_of_mem _ (List.mem_filter.mpr ⟨tw_as_in.mpr ⟨w, h1, rfl⟩, ?_⟩))
    have n3 : ¬ (j + 1 = i ∧ (tw_rv g w).category = 2) := by rw [tw_rv_cat hF]; exact n2
    simp only [Bool.and_eq_true, Bool.not_eq_true', beq_eq_false_iff_ne, ne_eq, Bool.and_eq_false_iff]
    refine ⟨n1, n0, ?_⟩
    by_cases e : j + 1 = i
    · exact Or.inr (fun z => n3 ⟨e, z⟩)
    · exact Or.inl e
theorem tw_el_len (g : tw_E) {s : State} {H : Heap} (hF : tw_F g s H) : ∀ l : List tw_V, (lg_sl (l.map (tw_rv g))).length = (tw_el l).length
  | [] => rfl
  | v :: l => by
    have ih := tw_el_len g hF l
    have hc := tw_rv_cat hF v
    rcases v with x | x | x
    · simp [lg_sl, tw_el, hc, tw_ca] at ih ⊢; exact ih
    · simp [lg_sl, tw_el, hc, tw_ca] at ih ⊢; omega
    · simp [lg_sl, tw_el, hc, tw_ca] at ih ⊢; exact ih
theorem tw_el_args (g : tw_E) {s : State} {H : Heap} (hF : tw_F g s H) : ∀ (l : List tw_V) (o j : Nat) (w : tw_V), (tw_el l)[j]? = some (some w) → (o + j, tw_rv g w) ∈ lv_args o (l.map (tw_rv g))
  | [], o, j, w, h => by simp [tw_el] at h
  | v :: l, o, j, w, h => by
    have hc := tw_rv_cat hF v
    have key : ∀ x : tw_V, tw_ca x = 1 → v = x → (tw_el (v :: l) = some v :: tw_el l) → (o + j, tw_rv g w) ∈ lv_args o ((v :: l).map (tw_rv g)) := by
      intro x hx e1 e2
      rw [e2] at h
      rw [List.map_cons, lv_args]
      cases j with
      | zero =>
        have : v = w := by simpa using h
        rw [this]; exact List.mem_cons_self
      | succ j =>
        refine List.mem_cons_of_mem _ ?_
        rw [hc, e1, hx, if_neg (by decide)]
        have h2 : (tw_el l)[j]? = some (some w) := by simpa using h
        have := tw_el_args g hF l (o + 1) j w h2
        rw [show o + (j + 1) = o + 1 + j by omega]
        exact this
    rcases v with x | x | x
    · exact key _ rfl rfl rfl
    · rw [List.map_cons, lv_args]
      have e2 : tw_el (Sum.inr (Sum.inl x) :: l) = some (tw_J x) :: none :: tw_el l := rfl
      rw [e2] at h
      cases j with
      | zero =>
        have : tw_J x = w := by simpa using h
        rw [← this]; exact List.mem_cons_self
      | succ j =>
        cases j with
        | zero => simp at h
        | succ j =>
          refine List.mem_cons_of_mem _ ?_
          rw [hc]
          rw [if_pos (show tw_ca (tw_J x) = 2 from rfl)]
          have h2 : (tw_el l)[j]? = some (some w) := by simpa using h
          have := tw_el_args g hF l (o + 2) j w h2
          rw [show o + (j + 1 + 1) = o + 2 + j by omega]
          exact this
    · exact key _ rfl rfl rfl
theorem tw_LR_en {g : tw_E} {s : State} {H : Heap} (hF : tw_F g s H) {n : Nat} {l : List tw_V} (hn : (tw_el l).length ≤ n) : tw_LR g (tw_en n l) ((lg_sl (l.map (tw_rv g)) ++ List.replicate (n - (lg_sl (l.map (tw_rv g))).length) Slot.unset).toArray) := by
  have hl := lv_entry (l.map (tw_rv g)) (n := n) (by rw [tw_el_len g hF]; exact hn)
  refine ⟨?_, hl.2.1, fun j w hj => ?_⟩
  · rw [hl.1]
    simp [tw_en]
    omega
  · unfold tw_en at hj
    have hj2 : (tw_el l)[j]? = some (some w) := by
      rw [List.getElem?_append] at hj
      split at hj
      · exact hj
      · rw [List.getElem?_replicate] at hj
        split at hj
        · cases hj
        · cases hj
    have := tw_el_args g hF l 0 j w hj2
    rw [Nat.zero_add] at this
    exact hl.2.2 _ this
/-! the cells -/
theorem tw_ws_D {g : tw_E} (h : tw_ap g) (μ : tw_M) : va_D (tw_A g) (tw_ws g μ) := by
  have key : ∀ (k : Nat) (q : Nat × va_E), (tw_ws g μ)[k]? = some q → ∃ x, (tw_vs g)[k]? = some x ∧ q = (tw_ad g x.1 x.2, tw_ent g μ x.1 x.2) := by
    intro k q hk
    unfold tw_ws at hk
    rw [List.getElem?_map] at hk
    cases hx : (tw_vs g)[k]? with
    | none => rw [hx] at hk; cases hk
    | some x => rw [hx] at hk; cases hk; exact ⟨x, rfl, rfl⟩
  refine ⟨fun i j p q hi hj e => ?_, fun k q hk => ?_⟩
  · obtain ⟨x, h1, rfl⟩ := key i p hi
    obtain ⟨y, h2, rfl⟩ := key j q hj
    exact h i j x y h1 h2 e
  · obtain ⟨x, h1, rfl⟩ := key k q hk
    exact ⟨x, List.mem_of_getElem? h1, rfl⟩
theorem tw_ws_at {g : tw_E} {μ : tw_M} {k n : Nat} (h : (k, n) ∈ tw_vs g) : ∃ i : Nat, (tw_vs g)[i]? = some (k, n) ∧ (tw_ws g μ)[i]? = some (tw_ad g k n, tw_ent g μ k n) := by
  obtain ⟨i, hi⟩ := List.getElem?_of_mem h
  exact ⟨i, hi, by unfold tw_ws; rw [List.getElem?_map, hi]; rfl⟩
theorem tw_ws_set {g : tw_E} (ha : tw_ap g) {μ μ' : tw_M} {k n i : Nat} (hi : (tw_vs g)[i]? = some (k, n)) (ho : ∀ x, x ∈ tw_vs g → x ≠ (k, n) → tw_ent g μ' x.1 x.2 = tw_ent g μ x.1 x.2) : (tw_ws g μ).set i (tw_ad g k n, tw_ent g μ' k n) = tw_ws g μ' := by
  apply List.ext_getElem?
  intro j
  unfold tw_ws
  by_cases e : j = i
  · subst e
    rw [List.getElem?_set_self (by rw [List.length_map]; exact (List.getElem?_eq_some_iff.mp hi).1), List.getElem?_map, hi]
    rfl
  · rw [List.getElem?_set_ne (Ne.symm e), List.getElem?_map, List.getElem?_map]
    cases hx : (tw_vs g)[j]? with
    | none => rfl
    | some x =>
      have hne : x ≠ (k, n) := fun z => e (ha j i x (k, n) hx hi (by rw [z]))
      show some (_, _) = some (_, _)
      rw [ho x (List.mem_of_getElem? hx) hne]
theorem tw_ent_si {g : tw_E} {μ : tw_M} {k n j : Nat} {v : Int32} (x : Nat × Nat) (h : x ≠ (k, n)) : tw_ent g (tw_si μ k n j v) x.1 x.2 = tw_ent g μ x.1 x.2 := by
  have e : ∀ j', tw_gi (tw_si μ k n j v) x.1 x.2 j' = tw_gi μ x.1 x.2 j' := by
    intro j'
    unfold tw_gi tw_si
    dsimp only
    rw [if_neg]
    rintro ⟨h1, h2, -⟩
    exact h (Prod.ext h1 h2)
  have e2 : ∀ j', tw_fv (tw_si μ k n j v) x.1 x.2 j' = tw_fv μ x.1 x.2 j' := by
    intro j'
    unfold tw_fv
    rw [e j']
    rfl
  unfold tw_ent
  simp only [e, e2]
  by_cases h38 : x.1 = 38
  · have : ∀ j', tw_gi (tw_si μ k n j v) 38 x.2 j' = tw_gi μ 38 x.2 j' := by
      intro j'
      have := e j'
      rw [h38] at this
      exact this
    simp only [this]
  · simp only [if_neg h38]
theorem tw_map_set {α : Type} (f f' : Nat → α) (n j : Nat) (h : ∀ i, i ≠ j → f' i = f i) : ((List.range n).map f).set j (f' j) = (List.range n).map f' := by
  apply List.ext_getElem?
  intro i
  by_cases e : i = j
  · subst e
    by_cases hl : i < n
    · rw [List.getElem?_set_self (by simpa using hl)]
      simp [hl]
    · rw [List.getElem?_eq_none (by simpa using hl), List.getElem?_eq_none (by simpa using hl)]
  · rw [List.getElem?_set_ne (Ne.symm e)]
    by_cases hl : i < n
    · simp [hl, h i e]
    · rw [List.getElem?_eq_none (by simpa using hl), List.getElem?_eq_none (by simpa using hl)]
theorem tw_gi_si {μ : tw_M} {k n j k' n' j' : Nat} {v : Int32} : tw_gi (tw_si μ k n j v) k' n' j' = if k' = k ∧ n' = n ∧ j' = j then v else tw_gi μ k' n' j' := rfl
theorem tw_gi_sl {μ : tw_M} {k k' n' j' : Nat} {v : Int64} : tw_gi (tw_sl μ k v) k' n' j' = tw_gi μ k' n' j' := rfl
theorem tw_gl_si {μ : tw_M} {k n j k' : Nat} {v : Int32} : tw_gl (tw_si μ k n j v) k' = tw_gl μ k' := rfl
theorem tw_gl_sl {μ : tw_M} {k k' : Nat} {v : Int64} : tw_gl (tw_sl μ k v) k' = if k' = k then v else tw_gl μ k' := rfl
end
section
def tw_wm (i : Nat) : List Cond := Cond.code (tw_nm i) (tw_by i) (tw_ml i) (tw_re i) :: tw_big
def tw_rm (i : Nat) : Room := { frames := tw_fr i, cells := 0, slots := 0, locals := tw_lo i }
def tw_Cx (g : tw_E) (p : Program) (s : State) (m : MethodId) (args : Array Value) (meth : Method) (c : Code) (i : Nat) : Prop :=
  p.tables.exec = Jvm.exec ∧ c.code = tw_by i ∧ c.maxLocals = tw_ml i ∧ meth.sig.returnType = tw_re i ∧ meth.locks = false ∧ s.vm.findClass (tw_nm i).cls = some m.cls ∧ (∀ w ∈ tw_wm i, w.before args s = true) ∧ tw_F g s s.heap ∧ tw_sh g ∧ tw_ap g
def tw_ok (g : tw_E) (L : tw_L) (st : List tw_V) : Prop := (∀ (j : Nat) (v : tw_V), L[j]? = some (some v) → tw_vd g v) ∧ ∀ v, v ∈ st → tw_vd g v
def tw_Kp (g : tw_E) (p : Program) (l : Launch) (e : Env) (s : State) (m : MethodId) (args : Array Value) (below : List Frame) (meth : Method) (c : Code) (i : Nat) (Qf : State → Prop) (pc : Nat) (L : tw_L) (st : List tw_V) (μ : tw_M) : Prop :=
  tw_ok g L st → L.length = tw_ml i → ∀ (H : Heap) (locs : List Loc) (ls : Array Slot), va_P (tw_D g) vwCl (tw_ws g μ) H → va_S (tw_A g) s.heap H locs → tw_LR g L ls → W p l e (tw_rm i) s m args below meth c H locs 0 0 Qf (F0 m pc ls (st.map (tw_rv g)))
theorem tw_hi {s : State} {args : Array Value} {i : Nat} (h : ∀ w ∈ tw_wm i, w.before args s = true) {w : Cond} (hw : w ∈ tw_big) : w.before args s = true := h w (List.mem_cons_of_mem _ hw)
section
variable {g : tw_E} {p : Program} {l : Launch} {e : Env} {s : State} {m : MethodId} {args : Array Value} {below : List Frame} {meth : Method} {c : Code} {i pc q : Nat} {Qf : State → Prop} {L L' : tw_L} {st st' : List tw_V} {μ μ' : tw_M}
theorem tw_pure (hok : tw_ok g L st → tw_ok g L' st') (hlen : L'.length = L.length) (hstep : ∀ H locs ls, L.length = tw_ml i → va_S (tw_A g) s.heap H locs → tw_LR g L ls → (∀ ls', tw_LR g L' ls' → W p l e (tw_rm i) s m args below meth c H locs 0 0 Qf (F0 m q ls' (st'.map (tw_rv g)))) → W p l e (tw_rm i) s m args below meth c H locs 0 0 Qf (F0 m pc ls (st.map (tw_rv g))))
    (k : tw_Kp g p l e s m args below meth c i Qf q L' st' μ) : tw_Kp g p l e s m args below meth c i Qf pc L st μ := fun ok hl H locs ls hP hS hL => hstep H locs ls hl hS hL (fun ls' h => k (hok ok) (hlen.trans hl) H locs ls' hP hS h)
theorem tw_ok_tl {v : tw_V} {r : List tw_V} (h : tw_ok g L (v :: r)) : tw_ok g L r := ⟨h.1, fun w hw => h.2 w (List.mem_cons_of_mem _ hw)⟩
theorem tw_ok_hd {v : tw_V} {r : List tw_V} (h : tw_ok g L (v :: r)) : tw_vd g v := h.2 v List.mem_cons_self
theorem tw_ok_cons {v : tw_V} {r : List tw_V} (hv : tw_vd g v) (h : tw_ok g L r) : tw_ok g L (v :: r) := ⟨h.1, fun w hw => by
  rcases List.mem_cons.mp hw with z | z
  · rw [z]; exact hv
  · exact h.2 w z⟩
theorem tw_ok_cI {x : Int32} {r : List tw_V} (h : tw_ok g L r) : tw_ok g L (tw_I x :: r) := tw_ok_cons (v := tw_I x) True.intro h
theorem tw_ok_cJ {x : Int64} {r : List tw_V} (h : tw_ok g L r) : tw_ok g L (tw_J x :: r) := tw_ok_cons (v := tw_J x) True.intro h
theorem tw_ok_cN {r : List tw_V} (h : tw_ok g L r) : tw_ok g L (tw_N :: r) := tw_ok_cons (v := tw_N) True.intro h
theorem tw_ok_s1 {v : tw_V} {a : Nat} {r : List tw_V} (hv : tw_vd g v) (h : tw_ok g L r) : tw_ok g (tw_s1 L a v) r := ⟨fun j w hj => by
  rcases tw_s1_at hj with ⟨-, z⟩ | ⟨-, z, -⟩
  · rw [z]; exact hv
  · exact h.1 j w z, h.2⟩
theorem tw_ok_s2 {v : tw_V} {a : Nat} {r : List tw_V} (hv : tw_vd g v) (h : tw_ok g L r) : tw_ok g (tw_s2 L a v) r := ⟨fun j w hj => by
  rcases tw_s2_at hj with ⟨-, z⟩ | ⟨-, -, z, -⟩
  · rw [z]; exact hv
  · exact h.1 j w z, h.2⟩

theorem tw_o0 {b : Int} {cv : Int32} (hv : Int32.ofInt b = cv) (C : tw_Cx g p s m args meth c i) (hd : decode (tw_by i) pc = .ok (.iconst b, 1)) (hx : tw_nx (pc + 1) L (tw_I cv :: st) μ = some (Sum.inl (q, L', st', μ'))) (k : tw_Kp g p l e s m args below meth c i Qf q L' st' μ') : tw_Kp g p l e s m args below meth c i Qf pc L st μ := by
  obtain ⟨hx1, hb, -, -, -, hown, hts, hF, hsh, hap⟩ := C
  cases hx
  refine tw_pure (L' := L) (fun ok => tw_ok_cI ok) rfl (fun H locs ls hl hS hL kk => ?_) k
  exact lv_iconst hx1 hb hd hv (kk ls hL)

theorem tw_o1 {b : Int} {cv : Int32} (hv : (Int8.ofInt b).toInt32 = cv) (C : tw_Cx g p s m args meth c i) (hd : decode (tw_by i) pc = .ok (.bipush b, 2)) (hx : tw_nx (pc + 2) L (tw_I cv :: st) μ = some (Sum.inl (q, L', st', μ'))) (k : tw_Kp g p l e s m args below meth c i Qf q L' st' μ') : tw_Kp g p l e s m args below meth c i Qf pc L st μ := by
  obtain ⟨hx1, hb, -, -, -, hown, hts, hF, hsh, hap⟩ := C
  cases hx
  refine tw_pure (L' := L) (fun ok => tw_ok_cI ok) rfl (fun H locs ls hl hS hL kk => ?_) k
  exact lv_bipush hx1 hb hd hv (kk ls hL)

theorem tw_o2 {b : Int} {cv : Int32} (hv : (Int16.ofInt b).toInt32 = cv) (C : tw_Cx g p s m args meth c i) (hd : decode (tw_by i) pc = .ok (.sipush b, 3)) (hx : tw_nx (pc + 3) L (tw_I cv :: st) μ = some (Sum.inl (q, L', st', μ'))) (k : tw_Kp g p l e s m args below meth c i Qf q L' st' μ') : tw_Kp g p l e s m args below meth c i Qf pc L st μ := by
  obtain ⟨hx1, hb, -, -, -, hown, hts, hF, hsh, hap⟩ := C
  cases hx
  refine tw_pure (L' := L) (fun ok => tw_ok_cI ok) rfl (fun H locs ls hl hS hL kk => ?_) k
  exact lv_sipush hx1 hb hd hv (kk ls hL)

theorem tw_o3 {a : Nat} {cv : Int32} (hv : Cond.constant (tw_nm i).cls a cv ∈ tw_big) (C : tw_Cx g p s m args meth c i) (hd : decode (tw_by i) pc = .ok (.ldc a, 2)) (hx : tw_nx (pc + 2) L (tw_I cv :: st) μ = some (Sum.inl (q, L', st', μ'))) (k : tw_Kp g p l e s m args below meth c i Qf q L' st' μ') : tw_Kp g p l e s m args below meth c i Qf pc L st μ := by
  obtain ⟨hx1, hb, -, -, -, hown, hts, hF, hsh, hap⟩ := C
  cases hx
  refine tw_pure (L' := L) (fun ok => tw_ok_cI ok) rfl (fun H locs ls hl hS hL kk => ?_) k
  exact lv_ldc hx1 hb hown (tw_hi hts hv) hd (kk ls hL)

theorem tw_o4 {a : Nat} {d : Int64} (ha : a < 2) (hv : Int64.ofNat a = d) (C : tw_Cx g p s m args meth c i) (hd : decode (tw_by i) pc = .ok (.lconst (Fin.ofNat 2 a), 1)) (hx : tw_nx (pc + 1) L (tw_J d :: st) μ = some (Sum.inl (q, L', st', μ'))) (k : tw_Kp g p l e s m args below meth c i Qf q L' st' μ') : tw_Kp g p l e s m args below meth c i Qf pc L st μ := by
  obtain ⟨hx1, hb, -, -, -, hown, hts, hF, hsh, hap⟩ := C
  cases hx
  refine tw_pure (L' := L) (fun ok => tw_ok_cJ ok) rfl (fun H locs ls hl hS hL kk => ?_) k
  exact lv_lconst hx1 hb hd (by rw [show ((Fin.ofNat 2 a : Fin 2) : Nat) = a from Nat.mod_eq_of_lt ha]; exact hv) (kk ls hL)

theorem tw_o5 {a : Nat} {d : Int64} (hv : Cond.constantLong (tw_nm i).cls a d ∈ tw_big) (C : tw_Cx g p s m args meth c i) (hd : decode (tw_by i) pc = .ok (.ldc2_w a, 3)) (hx : tw_nx (pc + 3) L (tw_J d :: st) μ = some (Sum.inl (q, L', st', μ'))) (k : tw_Kp g p l e s m args below meth c i Qf q L' st' μ') : tw_Kp g p l e s m args below meth c i Qf pc L st μ := by
  obtain ⟨hx1, hb, -, -, -, hown, hts, hF, hsh, hap⟩ := C
  cases hx
  refine tw_pure (L' := L) (fun ok => tw_ok_cJ ok) rfl (fun H locs ls hl hS hL kk => ?_) k
  exact lv_ldc2 hx1 hb hown (tw_hi hts hv) hd (kk ls hL)

theorem tw_o6 (C : tw_Cx g p s m args meth c i) (hd : decode (tw_by i) pc = .ok (.aconst_null, 1)) (hx : tw_nx (pc + 1) L (tw_N :: st) μ = some (Sum.inl (q, L', st', μ'))) (k : tw_Kp g p l e s m args below meth c i Qf q L' st' μ') : tw_Kp g p l e s m args below meth c i Qf pc L st μ := by
  obtain ⟨hx1, hb, -, -, -, hown, hts, hF, hsh, hap⟩ := C
  cases hx
  refine tw_pure (L' := L) (fun ok => tw_ok_cN ok) rfl (fun H locs ls hl hS hL kk => ?_) k
  exact lv_null hx1 hb hd (kk ls hL)

theorem tw_o7 {a : Nat} (ha : a < 4) (C : tw_Cx g p s m args meth c i) (hd : decode (tw_by i) pc = .ok (.iload_n (Fin.ofNat 4 a), 1)) (hx : tw_qi a (pc + 1) L st μ = some (Sum.inl (q, L', st', μ'))) (k : tw_Kp g p l e s m args below meth c i Qf q L' st' μ') : tw_Kp g p l e s m args below meth c i Qf pc L st μ := by
  obtain ⟨hx1, hb, -, -, -, hown, hts, hF, hsh, hap⟩ := C
  unfold tw_qi at hx
  split at hx
  · rename_i x hLa
    cases hx
    refine tw_pure (L' := L) (fun ok => tw_ok_cI ok) rfl (fun H locs ls hl hS hL kk => ?_) k
    exact lv_iload_n hx1 hb hd (Nat.mod_eq_of_lt ha) (hL.2.2 a _ hLa) (kk ls hL)
  · cases hx

theorem tw_o8 {a : Nat} (C : tw_Cx g p s m args meth c i) (hd : decode (tw_by i) pc = .ok (.iload a, 2)) (hx : tw_qi a (pc + 2) L st μ = some (Sum.inl (q, L', st', μ'))) (k : tw_Kp g p l e s m args below meth c i Qf q L' st' μ') : tw_Kp g p l e s m args below meth c i Qf pc L st μ := by
  obtain ⟨hx1, hb, -, -, -, hown, hts, hF, hsh, hap⟩ := C
  unfold tw_qi at hx
  split at hx
  · rename_i x hLa
    cases hx
    refine tw_pure (L' := L) (fun ok => tw_ok_cI ok) rfl (fun H locs ls hl hS hL kk => ?_) k
    exact lv_iload hx1 hb hd (hL.2.2 a _ hLa) (kk ls hL)
  · cases hx

theorem tw_o9 {a : Nat} (ha : a < 4) (C : tw_Cx g p s m args meth c i) (hd : decode (tw_by i) pc = .ok (.lload_n (Fin.ofNat 4 a), 1)) (hx : tw_qj a (pc + 1) L st μ = some (Sum.inl (q, L', st', μ'))) (k : tw_Kp g p l e s m args below meth c i Qf q L' st' μ') : tw_Kp g p l e s m args below meth c i Qf pc L st μ := by
  obtain ⟨hx1, hb, -, -, -, hown, hts, hF, hsh, hap⟩ := C
  unfold tw_qj at hx
  split at hx
  · rename_i x hLa
    cases hx
    refine tw_pure (L' := L) (fun ok => tw_ok_cJ ok) rfl (fun H locs ls hl hS hL kk => ?_) k
    exact lv_lload_n hx1 hb hd (Nat.mod_eq_of_lt ha) (hL.2.2 a _ hLa) (kk ls hL)
  · cases hx

theorem tw_o10 {a : Nat} (C : tw_Cx g p s m args meth c i) (hd : decode (tw_by i) pc = .ok (.lload a, 2)) (hx : tw_qj a (pc + 2) L st μ = some (Sum.inl (q, L', st', μ'))) (k : tw_Kp g p l e s m args below meth c i Qf q L' st' μ') : tw_Kp g p l e s m args below meth c i Qf pc L st μ := by
  obtain ⟨hx1, hb, -, -, -, hown, hts, hF, hsh, hap⟩ := C
  unfold tw_qj at hx
  split at hx
  · rename_i x hLa
    cases hx
    refine tw_pure (L' := L) (fun ok => tw_ok_cJ ok) rfl (fun H locs ls hl hS hL kk => ?_) k
    exact lv_lload hx1 hb hd (hL.2.2 a _ hLa) (kk ls hL)
  · cases hx

theorem tw_rv_ref {s : State} {H : Heap} (hF : tw_F g s H) (x : Option (Nat × Nat)) : tw_rv g (Sum.inr (Sum.inr x)) = .null ∨ ∃ t, tw_rv g (Sum.inr (Sum.inr x)) = .ref t := by
  rcases x with _ | ⟨k, n⟩
  · exact Or.inl rfl
  · unfold tw_rv
    dsimp only
    split
    · exact Or.inr ⟨_, rfl⟩
    · split
      · exact Or.inr ⟨_, rfl⟩
      · split
        · exact hF.2.2.2.2.1
        · exact Or.inr ⟨_, rfl⟩

theorem tw_o11 {a : Nat} (ha : a < 4) (C : tw_Cx g p s m args meth c i) (hd : decode (tw_by i) pc = .ok (.aload_n (Fin.ofNat 4 a), 1)) (hx : tw_qa a (pc + 1) L st μ = some (Sum.inl (q, L', st', μ'))) (k : tw_Kp g p l e s m args below meth c i Qf q L' st' μ') : tw_Kp g p l e s m args below meth c i Qf pc L st μ := by
  obtain ⟨hx1, hb, -, -, -, hown, hts, hF, hsh, hap⟩ := C
  unfold tw_qa at hx
  split at hx
  · rename_i x hLa
    cases hx
    refine tw_pure (L' := L) (fun ok => tw_ok_cons (ok.1 a _ hLa) ok) rfl (fun H locs ls hl hS hL kk => ?_) k
    have h1 := hL.2.2 a _ hLa
    have k2 := kk ls hL
    rw [List.map_cons] at k2
    rcases tw_rv_ref hF x with z | ⟨t, z⟩
    · rw [z] at h1 k2
      exact lv_aload_nN hx1 hb hd (Nat.mod_eq_of_lt ha) h1 k2
    · rw [z] at h1 k2
      exact lv_aload_n hx1 hb hd (Nat.mod_eq_of_lt ha) h1 k2
  · cases hx

theorem tw_o12 {a : Nat} (C : tw_Cx g p s m args meth c i) (hd : decode (tw_by i) pc = .ok (.aload a, 2)) (hx : tw_qa a (pc + 2) L st μ = some (Sum.inl (q, L', st', μ'))) (k : tw_Kp g p l e s m args below meth c i Qf q L' st' μ') : tw_Kp g p l e s m args below meth c i Qf pc L st μ := by
  obtain ⟨hx1, hb, -, -, -, hown, hts, hF, hsh, hap⟩ := C
  unfold tw_qa at hx
  split at hx
  · rename_i x hLa
    cases hx
    refine tw_pure (L' := L) (fun ok => tw_ok_cons (ok.1 a _ hLa) ok) rfl (fun H locs ls hl hS hL kk => ?_) k
    have h1 := hL.2.2 a _ hLa
    have k2 := kk ls hL
    rw [List.map_cons] at k2
    rcases tw_rv_ref hF x with z | ⟨t, z⟩
    · rw [z] at h1 k2
      exact lv_aloadN hx1 hb hd h1 k2
    · rw [z] at h1 k2
      exact lv_aload hx1 hb hd h1 k2
  · cases hx

theorem tw_o13 {a : Nat} (ha : a < 4) (C : tw_Cx g p s m args meth c i) (hd : decode (tw_by i) pc = .ok (.istore_n (Fin.ofNat 4 a), 1)) (hx : tw_ri a (pc + 1) L st μ = some (Sum.inl (q, L', st', μ'))) (k : tw_Kp g p l e s m args below meth c i Qf q L' st' μ') : tw_Kp g p l e s m args below meth c i Qf pc L st μ := by
  obtain ⟨hx1, hb, -, -, -, hown, hts, hF, hsh, hap⟩ := C
  unfold tw_ri at hx
  split at hx
  · rename_i x r
    split at hx
    · rename_i hlt
      cases hx
      refine tw_pure (L' := tw_s1 L a (tw_I x)) (fun ok => tw_ok_s1 (tw_ok_hd ok) (tw_ok_tl ok)) (tw_s1_len _ _ _) (fun H locs ls hl hS hL kk => ?_) k
      exact lv_istore_n hx1 hb hd (Nat.mod_eq_of_lt ha) (tw_LR_has hL) hlt rfl (fun ls' h => kk ls' (tw_LR_s1 (v := (tw_I x)) hF h))
    · cases hx
  · cases hx

theorem tw_o14 {a : Nat} (C : tw_Cx g p s m args meth c i) (hd : decode (tw_by i) pc = .ok (.istore a, 2)) (hx : tw_ri a (pc + 2) L st μ = some (Sum.inl (q, L', st', μ'))) (k : tw_Kp g p l e s m args below meth c i Qf q L' st' μ') : tw_Kp g p l e s m args below meth c i Qf pc L st μ := by
  obtain ⟨hx1, hb, -, -, -, hown, hts, hF, hsh, hap⟩ := C
  unfold tw_ri at hx
  split at hx
  · rename_i x r
    split at hx
    · rename_i hlt
      cases hx
      refine tw_pure (L' := tw_s1 L a (tw_I x)) (fun ok => tw_ok_s1 (tw_ok_hd ok) (tw_ok_tl ok)) (tw_s1_len _ _ _) (fun H locs ls hl hS hL kk => ?_) k
      exact lv_istore hx1 hb hd (tw_LR_has hL) hlt rfl (fun ls' h => kk ls' (tw_LR_s1 (v := (tw_I x)) hF h))
    · cases hx
  · cases hx

theorem tw_o15 {a : Nat} (ha : a < 4) (C : tw_Cx g p s m args meth c i) (hd : decode (tw_by i) pc = .ok (.lstore_n (Fin.ofNat 4 a), 1)) (hx : tw_rj a (pc + 1) L st μ = some (Sum.inl (q, L', st', μ'))) (k : tw_Kp g p l e s m args below meth c i Qf q L' st' μ') : tw_Kp g p l e s m args below meth c i Qf pc L st μ := by
  obtain ⟨hx1, hb, -, -, -, hown, hts, hF, hsh, hap⟩ := C
  unfold tw_rj at hx
  split at hx
  · rename_i x r
    split at hx
    · rename_i hlt
      cases hx
      refine tw_pure (L' := tw_s2 L a (tw_J x)) (fun ok => tw_ok_s2 (tw_ok_hd ok) (tw_ok_tl ok)) (tw_s2_len _ _ _) (fun H locs ls hl hS hL kk => ?_) k
      exact lv_lstore_n hx1 hb hd (Nat.mod_eq_of_lt ha) (tw_LR_has hL) hlt rfl (fun ls' h => kk ls' (tw_LR_s2 (v := (tw_J x)) hF h))
    · cases hx
  · cases hx

theorem tw_o16 {a : Nat} (C : tw_Cx g p s m args meth c i) (hd : decode (tw_by i) pc = .ok (.lstore a, 2)) (hx : tw_rj a (pc + 2) L st μ = some (Sum.inl (q, L', st', μ'))) (k : tw_Kp g p l e s m args below meth c i Qf q L' st' μ') : tw_Kp g p l e s m args below meth c i Qf pc L st μ := by
  obtain ⟨hx1, hb, -, -, -, hown, hts, hF, hsh, hap⟩ := C
  unfold tw_rj at hx
  split at hx
  · rename_i x r
    split at hx
    · rename_i hlt
      cases hx
      refine tw_pure (L' := tw_s2 L a (tw_J x)) (fun ok => tw_ok_s2 (tw_ok_hd ok) (tw_ok_tl ok)) (tw_s2_len _ _ _) (fun H locs ls hl hS hL kk => ?_) k
      exact lv_lstore hx1 hb hd (tw_LR_has hL) hlt rfl (fun ls' h => kk ls' (tw_LR_s2 (v := (tw_J x)) hF h))
    · cases hx
  · cases hx

theorem tw_o17 {a : Nat} (ha : a < 4) (C : tw_Cx g p s m args meth c i) (hd : decode (tw_by i) pc = .ok (.astore_n (Fin.ofNat 4 a), 1)) (hx : tw_ra a (pc + 1) L st μ = some (Sum.inl (q, L', st', μ'))) (k : tw_Kp g p l e s m args below meth c i Qf q L' st' μ') : tw_Kp g p l e s m args below meth c i Qf pc L st μ := by
  obtain ⟨hx1, hb, -, -, -, hown, hts, hF, hsh, hap⟩ := C
  unfold tw_ra at hx
  split at hx
  · rename_i x r
    split at hx
    · rename_i hlt
      cases hx
      refine tw_pure (L' := tw_s1 L a (Sum.inr (Sum.inr x))) (fun ok => tw_ok_s1 (tw_ok_hd ok) (tw_ok_tl ok)) (tw_s1_len _ _ _) (fun H locs ls hl hS hL kk => ?_) k
      rw [List.map_cons]
      have kk2 : ∀ ls' : Array Slot, lv_has ls' L.length ((a, tw_rv g (Sum.inr (Sum.inr x))) :: (tw_as g L).filter (fun q => !(q.1 == a) && !(q.1 + 1 == a && q.2.category == 2))) → _ := fun ls' h => kk ls' (tw_LR_s1 hF h)
      rcases tw_rv_ref hF x with z | ⟨t, z⟩
      · rw [z] at kk2 ⊢
        exact lv_astore_nN hx1 hb hd (Nat.mod_eq_of_lt ha) (tw_LR_has hL) hlt rfl kk2
      · rw [z] at kk2 ⊢
        exact lv_astore_n hx1 hb hd (Nat.mod_eq_of_lt ha) (tw_LR_has hL) hlt rfl kk2
    · cases hx
  · cases hx

theorem tw_o18 {a : Nat} (C : tw_Cx g p s m args meth c i) (hd : decode (tw_by i) pc = .ok (.astore a, 2)) (hx : tw_ra a (pc + 2) L st μ = some (Sum.inl (q, L', st', μ'))) (k : tw_Kp g p l e s m args below meth c i Qf q L' st' μ') : tw_Kp g p l e s m args below meth c i Qf pc L st μ := by
  obtain ⟨hx1, hb, -, -, -, hown, hts, hF, hsh, hap⟩ := C
  unfold tw_ra at hx
  split at hx
  · rename_i x r
    split at hx
    · rename_i hlt
      cases hx
      refine tw_pure (L' := tw_s1 L a (Sum.inr (Sum.inr x))) (fun ok => tw_ok_s1 (tw_ok_hd ok) (tw_ok_tl ok)) (tw_s1_len _ _ _) (fun H locs ls hl hS hL kk => ?_) k
      rw [List.map_cons]
      have kk2 : ∀ ls' : Array Slot, lv_has ls' L.length ((a, tw_rv g (Sum.inr (Sum.inr x))) :: (tw_as g L).filter (fun q => !(q.1 == a) && !(q.1 + 1 == a && q.2.category == 2))) → _ := fun ls' h => kk ls' (tw_LR_s1 hF h)
      rcases tw_rv_ref hF x with z | ⟨t, z⟩
      · rw [z] at kk2 ⊢
        exact lv_astoreN hx1 hb hd (tw_LR_has hL) hlt rfl kk2
      · rw [z] at kk2 ⊢
        exact lv_astore hx1 hb hd (tw_LR_has hL) hlt rfl kk2
    · cases hx
  · cases hx

theorem tw_o19 {a : Nat} {b : Int} {cv : Int32} (hv : Int32.ofInt b = cv) (C : tw_Cx g p s m args meth c i) (hd : decode (tw_by i) pc = .ok (.iinc a b, 3)) (hx : tw_ic a cv (pc + 3) L st μ = some (Sum.inl (q, L', st', μ'))) (k : tw_Kp g p l e s m args below meth c i Qf q L' st' μ') : tw_Kp g p l e s m args below meth c i Qf pc L st μ := by
  obtain ⟨hx1, hb, -, -, -, hown, hts, hF, hsh, hap⟩ := C
  unfold tw_ic at hx
  split at hx
  · rename_i x hLa
    split at hx
    · rename_i hlt
      cases hx
      refine tw_pure (L' := tw_s1 L a (tw_I (x + cv))) (fun ok => tw_ok_s1 (v := tw_I (x + cv)) True.intro ok) (tw_s1_len _ _ _) (fun H locs ls hl hS hL kk => ?_) k
      obtain ⟨j, hj⟩ := List.getElem?_of_mem (tw_as_in.mpr ⟨tw_I x, hLa, rfl⟩ : (a, tw_rv g (tw_I x)) ∈ tw_as g L)
      exact lv_iinc hx1 hb hd (tw_LR_has hL) hj (by rw [hv]) hlt rfl (fun ls' h => kk ls' (tw_LR_s1 (v := tw_I (x + cv)) hF h))
    · cases hx
  · cases hx

theorem tw_o20 (C : tw_Cx g p s m args meth c i) (hd : decode (tw_by i) pc = .ok (.iadd, 1)) (hx : tw_q2 (fun x y => x + y) (pc + 1) L st μ = some (Sum.inl (q, L', st', μ'))) (k : tw_Kp g p l e s m args below meth c i Qf q L' st' μ') : tw_Kp g p l e s m args below meth c i Qf pc L st μ := by
  obtain ⟨hx1, hb, -, -, -, hown, hts, hF, hsh, hap⟩ := C
  unfold tw_q2 at hx
  split at hx
  · rename_i y x r
    cases hx
    refine tw_pure (L' := L) (fun ok => tw_ok_cI (tw_ok_tl (tw_ok_tl ok))) rfl (fun H locs ls hl hS hL kk => ?_) k
    exact lv_iadd hx1 hb hd (kk ls hL)
  · cases hx

theorem tw_o21 (C : tw_Cx g p s m args meth c i) (hd : decode (tw_by i) pc = .ok (.isub, 1)) (hx : tw_q2 (fun x y => x - y) (pc + 1) L st μ = some (Sum.inl (q, L', st', μ'))) (k : tw_Kp g p l e s m args below meth c i Qf q L' st' μ') : tw_Kp g p l e s m args below meth c i Qf pc L st μ := by
  obtain ⟨hx1, hb, -, -, -, hown, hts, hF, hsh, hap⟩ := C
  unfold tw_q2 at hx
  split at hx
  · rename_i y x r
    cases hx
    refine tw_pure (L' := L) (fun ok => tw_ok_cI (tw_ok_tl (tw_ok_tl ok))) rfl (fun H locs ls hl hS hL kk => ?_) k
    exact lv_isub hx1 hb hd (kk ls hL)
  · cases hx

theorem tw_o22 (C : tw_Cx g p s m args meth c i) (hd : decode (tw_by i) pc = .ok (.imul, 1)) (hx : tw_q2 (fun x y => x * y) (pc + 1) L st μ = some (Sum.inl (q, L', st', μ'))) (k : tw_Kp g p l e s m args below meth c i Qf q L' st' μ') : tw_Kp g p l e s m args below meth c i Qf pc L st μ := by
  obtain ⟨hx1, hb, -, -, -, hown, hts, hF, hsh, hap⟩ := C
  unfold tw_q2 at hx
  split at hx
  · rename_i y x r
    cases hx
    refine tw_pure (L' := L) (fun ok => tw_ok_cI (tw_ok_tl (tw_ok_tl ok))) rfl (fun H locs ls hl hS hL kk => ?_) k
    exact lv_imul hx1 hb hd (kk ls hL)
  · cases hx

theorem tw_o25 (C : tw_Cx g p s m args meth c i) (hd : decode (tw_by i) pc = .ok (.iand, 1)) (hx : tw_q2 (fun x y => x &&& y) (pc + 1) L st μ = some (Sum.inl (q, L', st', μ'))) (k : tw_Kp g p l e s m args below meth c i Qf q L' st' μ') : tw_Kp g p l e s m args below meth c i Qf pc L st μ := by
  obtain ⟨hx1, hb, -, -, -, hown, hts, hF, hsh, hap⟩ := C
  unfold tw_q2 at hx
  split at hx
  · rename_i y x r
    cases hx
    refine tw_pure (L' := L) (fun ok => tw_ok_cI (tw_ok_tl (tw_ok_tl ok))) rfl (fun H locs ls hl hS hL kk => ?_) k
    exact lv_iand hx1 hb hd (kk ls hL)
  · cases hx

theorem tw_o26 (C : tw_Cx g p s m args meth c i) (hd : decode (tw_by i) pc = .ok (.ior, 1)) (hx : tw_q2 (fun x y => x ||| y) (pc + 1) L st μ = some (Sum.inl (q, L', st', μ'))) (k : tw_Kp g p l e s m args below meth c i Qf q L' st' μ') : tw_Kp g p l e s m args below meth c i Qf pc L st μ := by
  obtain ⟨hx1, hb, -, -, -, hown, hts, hF, hsh, hap⟩ := C
  unfold tw_q2 at hx
  split at hx
  · rename_i y x r
    cases hx
    refine tw_pure (L' := L) (fun ok => tw_ok_cI (tw_ok_tl (tw_ok_tl ok))) rfl (fun H locs ls hl hS hL kk => ?_) k
    exact lv_ior hx1 hb hd (kk ls hL)
  · cases hx

theorem tw_o28 (C : tw_Cx g p s m args meth c i) (hd : decode (tw_by i) pc = .ok (.ishl, 1)) (hx : tw_q2 (fun x y => x <<< (y &&& 31)) (pc + 1) L st μ = some (Sum.inl (q, L', st', μ'))) (k : tw_Kp g p l e s m args below meth c i Qf q L' st' μ') : tw_Kp g p l e s m args below meth c i Qf pc L st μ := by
  obtain ⟨hx1, hb, -, -, -, hown, hts, hF, hsh, hap⟩ := C
  unfold tw_q2 at hx
  split at hx
  · rename_i y x r
    cases hx
    refine tw_pure (L' := L) (fun ok => tw_ok_cI (tw_ok_tl (tw_ok_tl ok))) rfl (fun H locs ls hl hS hL kk => ?_) k
    exact lv_ishl hx1 hb hd (kk ls hL)
  · cases hx

theorem tw_o29 (C : tw_Cx g p s m args meth c i) (hd : decode (tw_by i) pc = .ok (.ishr, 1)) (hx : tw_q2 (fun x y => x >>> (y &&& 31)) (pc + 1) L st μ = some (Sum.inl (q, L', st', μ'))) (k : tw_Kp g p l e s m args below meth c i Qf q L' st' μ') : tw_Kp g p l e s m args below meth c i Qf pc L st μ := by
  obtain ⟨hx1, hb, -, -, -, hown, hts, hF, hsh, hap⟩ := C
  unfold tw_q2 at hx
  split at hx
  · rename_i y x r
    cases hx
    refine tw_pure (L' := L) (fun ok => tw_ok_cI (tw_ok_tl (tw_ok_tl ok))) rfl (fun H locs ls hl hS hL kk => ?_) k
    exact lv_ishr hx1 hb hd (kk ls hL)
  · cases hx

theorem tw_o31 (C : tw_Cx g p s m args meth c i) (hd : decode (tw_by i) pc = .ok (.ladd, 1)) (hx : tw_q3 (fun x y => x + y) (pc + 1) L st μ = some (Sum.inl (q, L', st', μ'))) (k : tw_Kp g p l e s m args below meth c i Qf q L' st' μ') : tw_Kp g p l e s m args below meth c i Qf pc L st μ := by
  obtain ⟨hx1, hb, -, -, -, hown, hts, hF, hsh, hap⟩ := C
  unfold tw_q3 at hx
  split at hx
  · rename_i y x r
    cases hx
    refine tw_pure (L' := L) (fun ok => tw_ok_cJ (tw_ok_tl (tw_ok_tl ok))) rfl (fun H locs ls hl hS hL kk => ?_) k
    exact lv_ladd hx1 hb hd (kk ls hL)
  · cases hx

theorem tw_o32 (C : tw_Cx g p s m args meth c i) (hd : decode (tw_by i) pc = .ok (.lsub, 1)) (hx : tw_q3 (fun x y => x - y) (pc + 1) L st μ = some (Sum.inl (q, L', st', μ'))) (k : tw_Kp g p l e s m args below meth c i Qf q L' st' μ') : tw_Kp g p l e s m args below meth c i Qf pc L st μ := by
  obtain ⟨hx1, hb, -, -, -, hown, hts, hF, hsh, hap⟩ := C
  unfold tw_q3 at hx
  split at hx
  · rename_i y x r
    cases hx
    refine tw_pure (L' := L) (fun ok => tw_ok_cJ (tw_ok_tl (tw_ok_tl ok))) rfl (fun H locs ls hl hS hL kk => ?_) k
    exact lv_lsub hx1 hb hd (kk ls hL)
  · cases hx

theorem tw_o33 (C : tw_Cx g p s m args meth c i) (hd : decode (tw_by i) pc = .ok (.lmul, 1)) (hx : tw_q3 (fun x y => x * y) (pc + 1) L st μ = some (Sum.inl (q, L', st', μ'))) (k : tw_Kp g p l e s m args below meth c i Qf q L' st' μ') : tw_Kp g p l e s m args below meth c i Qf pc L st μ := by
  obtain ⟨hx1, hb, -, -, -, hown, hts, hF, hsh, hap⟩ := C
  unfold tw_q3 at hx
  split at hx
  · rename_i y x r
    cases hx
    refine tw_pure (L' := L) (fun ok => tw_ok_cJ (tw_ok_tl (tw_ok_tl ok))) rfl (fun H locs ls hl hS hL kk => ?_) k
    exact lv_lmul hx1 hb hd (kk ls hL)
  · cases hx

theorem tw_o36 (C : tw_Cx g p s m args meth c i) (hd : decode (tw_by i) pc = .ok (.land, 1)) (hx : tw_q3 (fun x y => x &&& y) (pc + 1) L st μ = some (Sum.inl (q, L', st', μ'))) (k : tw_Kp g p l e s m args below meth c i Qf q L' st' μ') : tw_Kp g p l e s m args below meth c i Qf pc L st μ := by
  obtain ⟨hx1, hb, -, -, -, hown, hts, hF, hsh, hap⟩ := C
  unfold tw_q3 at hx
  split at hx
  · rename_i y x r
    cases hx
    refine tw_pure (L' := L) (fun ok => tw_ok_cJ (tw_ok_tl (tw_ok_tl ok))) rfl (fun H locs ls hl hS hL kk => ?_) k
    exact lv_land hx1 hb hd (kk ls hL)
  · cases hx

theorem tw_o37 (C : tw_Cx g p s m args meth c i) (hd : decode (tw_by i) pc = .ok (.lor, 1)) (hx : tw_q3 (fun x y => x ||| y) (pc + 1) L st μ = some (Sum.inl (q, L', st', μ'))) (k : tw_Kp g p l e s m args below meth c i Qf q L' st' μ') : tw_Kp g p l e s m args below meth c i Qf pc L st μ := by
  obtain ⟨hx1, hb, -, -, -, hown, hts, hF, hsh, hap⟩ := C
  unfold tw_q3 at hx
  split at hx
  · rename_i y x r
    cases hx
    refine tw_pure (L' := L) (fun ok => tw_ok_cJ (tw_ok_tl (tw_ok_tl ok))) rfl (fun H locs ls hl hS hL kk => ?_) k
    exact lv_lor hx1 hb hd (kk ls hL)
  · cases hx

theorem tw_o23 (C : tw_Cx g p s m args meth c i) (hd : decode (tw_by i) pc = .ok (.idiv, 1)) (hx : tw_qd (fun x y => x / y) (pc + 1) L st μ = some (Sum.inl (q, L', st', μ'))) (k : tw_Kp g p l e s m args below meth c i Qf q L' st' μ') : tw_Kp g p l e s m args below meth c i Qf pc L st μ := by
  obtain ⟨hx1, hb, -, -, -, hown, hts, hF, hsh, hap⟩ := C
  unfold tw_qd at hx
  split at hx
  · rename_i y x r
    split at hx
    · cases hx
    · rename_i hne
      cases hx
      refine tw_pure (L' := L) (fun ok => tw_ok_cI (tw_ok_tl (tw_ok_tl ok))) rfl (fun H locs ls hl hS hL kk => ?_) k
      exact lv_idiv hx1 hb hd hne (kk ls hL)
  · cases hx

theorem tw_o24 (C : tw_Cx g p s m args meth c i) (hd : decode (tw_by i) pc = .ok (.irem, 1)) (hx : tw_qd (fun x y => x - x / y * y) (pc + 1) L st μ = some (Sum.inl (q, L', st', μ'))) (k : tw_Kp g p l e s m args below meth c i Qf q L' st' μ') : tw_Kp g p l e s m args below meth c i Qf pc L st μ := by
  obtain ⟨hx1, hb, -, -, -, hown, hts, hF, hsh, hap⟩ := C
  unfold tw_qd at hx
  split at hx
  · rename_i y x r
    split at hx
    · cases hx
    · rename_i hne
      cases hx
      refine tw_pure (L' := L) (fun ok => tw_ok_cI (tw_ok_tl (tw_ok_tl ok))) rfl (fun H locs ls hl hS hL kk => ?_) k
      exact lv_irem hx1 hb hd hne (kk ls hL)
  · cases hx

theorem tw_o34 (C : tw_Cx g p s m args meth c i) (hd : decode (tw_by i) pc = .ok (.ldiv, 1)) (hx : tw_ql (fun x y => x / y) (pc + 1) L st μ = some (Sum.inl (q, L', st', μ'))) (k : tw_Kp g p l e s m args below meth c i Qf q L' st' μ') : tw_Kp g p l e s m args below meth c i Qf pc L st μ := by
  obtain ⟨hx1, hb, -, -, -, hown, hts, hF, hsh, hap⟩ := C
  unfold tw_ql at hx
  split at hx
  · rename_i y x r
    split at hx
    · cases hx
    · rename_i hne
      cases hx
      refine tw_pure (L' := L) (fun ok => tw_ok_cJ (tw_ok_tl (tw_ok_tl ok))) rfl (fun H locs ls hl hS hL kk => ?_) k
      exact lv_ldiv hx1 hb hd hne (kk ls hL)
  · cases hx

theorem tw_o35 (C : tw_Cx g p s m args meth c i) (hd : decode (tw_by i) pc = .ok (.lrem, 1)) (hx : tw_ql (fun x y => x - x / y * y) (pc + 1) L st μ = some (Sum.inl (q, L', st', μ'))) (k : tw_Kp g p l e s m args below meth c i Qf q L' st' μ') : tw_Kp g p l e s m args below meth c i Qf pc L st μ := by
  obtain ⟨hx1, hb, -, -, -, hown, hts, hF, hsh, hap⟩ := C
  unfold tw_ql at hx
  split at hx
  · rename_i y x r
    split at hx
    · cases hx
    · rename_i hne
      cases hx
      refine tw_pure (L' := L) (fun ok => tw_ok_cJ (tw_ok_tl (tw_ok_tl ok))) rfl (fun H locs ls hl hS hL kk => ?_) k
      exact lv_lrem hx1 hb hd hne (kk ls hL)
  · cases hx

theorem tw_o38 (C : tw_Cx g p s m args meth c i) (hd : decode (tw_by i) pc = .ok (.lshl, 1)) (hx : tw_q4 (fun x y => x <<< (y.toInt64 &&& 63)) (pc + 1) L st μ = some (Sum.inl (q, L', st', μ'))) (k : tw_Kp g p l e s m args below meth c i Qf q L' st' μ') : tw_Kp g p l e s m args below meth c i Qf pc L st μ := by
  obtain ⟨hx1, hb, -, -, -, hown, hts, hF, hsh, hap⟩ := C
  unfold tw_q4 at hx
  split at hx
  · rename_i y x r
    cases hx
    refine tw_pure (L' := L) (fun ok => tw_ok_cJ (tw_ok_tl (tw_ok_tl ok))) rfl (fun H locs ls hl hS hL kk => ?_) k
    exact lv_lshl hx1 hb hd rfl (kk ls hL)
  · cases hx

theorem tw_o39 (C : tw_Cx g p s m args meth c i) (hd : decode (tw_by i) pc = .ok (.lshr, 1)) (hx : tw_q4 (fun x y => x >>> (y.toInt64 &&& 63)) (pc + 1) L st μ = some (Sum.inl (q, L', st', μ'))) (k : tw_Kp g p l e s m args below meth c i Qf q L' st' μ') : tw_Kp g p l e s m args below meth c i Qf pc L st μ := by
  obtain ⟨hx1, hb, -, -, -, hown, hts, hF, hsh, hap⟩ := C
  unfold tw_q4 at hx
  split at hx
  · rename_i y x r
    cases hx
    refine tw_pure (L' := L) (fun ok => tw_ok_cJ (tw_ok_tl (tw_ok_tl ok))) rfl (fun H locs ls hl hS hL kk => ?_) k
    exact lv_lshr hx1 hb hd rfl (kk ls hL)
  · cases hx

theorem tw_o30 (C : tw_Cx g p s m args meth c i) (hd : decode (tw_by i) pc = .ok (.ineg, 1)) (hx : tw_q1 (fun x => some (-x)) (pc + 1) L st μ = some (Sum.inl (q, L', st', μ'))) (k : tw_Kp g p l e s m args below meth c i Qf q L' st' μ') : tw_Kp g p l e s m args below meth c i Qf pc L st μ := by
  obtain ⟨hx1, hb, -, -, -, hown, hts, hF, hsh, hap⟩ := C
  unfold tw_q1 at hx
  split at hx
  · rename_i x r
    cases hx
    refine tw_pure (L' := L) (fun ok => tw_ok_cI (tw_ok_tl ok)) rfl (fun H locs ls hl hS hL kk => ?_) k
    exact lv_ineg hx1 hb hd (kk ls hL)
  · cases hx

theorem tw_o43 (C : tw_Cx g p s m args meth c i) (hd : decode (tw_by i) pc = .ok (.i2c, 1)) (hx : tw_q1 (fun x => some ((x.toUInt32 % 65536).toInt32)) (pc + 1) L st μ = some (Sum.inl (q, L', st', μ'))) (k : tw_Kp g p l e s m args below meth c i Qf q L' st' μ') : tw_Kp g p l e s m args below meth c i Qf pc L st μ := by
  obtain ⟨hx1, hb, -, -, -, hown, hts, hF, hsh, hap⟩ := C
  unfold tw_q1 at hx
  split at hx
  · rename_i x r
    cases hx
    refine tw_pure (L' := L) (fun ok => tw_ok_cI (tw_ok_tl ok)) rfl (fun H locs ls hl hS hL kk => ?_) k
    exact lv_i2c hx1 hb hd rfl (kk ls hL)
  · cases hx

theorem tw_o40 (C : tw_Cx g p s m args meth c i) (hd : decode (tw_by i) pc = .ok (.lcmp, 1)) (hx : (match st with | Sum.inr (Sum.inl y) :: Sum.inr (Sum.inl x) :: r => tw_nx (pc + 1) L (tw_I (lg_cmp x y) :: r) μ | _ => none) = some (Sum.inl (q, L', st', μ'))) (k : tw_Kp g p l e s m args below meth c i Qf q L' st' μ') : tw_Kp g p l e s m args below meth c i Qf pc L st μ := by
  obtain ⟨hx1, hb, -, -, -, hown, hts, hF, hsh, hap⟩ := C
  split at hx
  · rename_i y x r
    cases hx
    refine tw_pure (L' := L) (fun ok => tw_ok_cI (tw_ok_tl (tw_ok_tl ok))) rfl (fun H locs ls hl hS hL kk => ?_) k
    exact W.lcmp hx1 hb hd (kk ls hL)
  · cases hx

theorem tw_o41 (C : tw_Cx g p s m args meth c i) (hd : decode (tw_by i) pc = .ok (.i2l, 1)) (hx : (match st with | Sum.inl x :: r => tw_nx (pc + 1) L (tw_J x.toInt64 :: r) μ | _ => none) = some (Sum.inl (q, L', st', μ'))) (k : tw_Kp g p l e s m args below meth c i Qf q L' st' μ') : tw_Kp g p l e s m args below meth c i Qf pc L st μ := by
  obtain ⟨hx1, hb, -, -, -, hown, hts, hF, hsh, hap⟩ := C
  split at hx
  · rename_i x r
    cases hx
    refine tw_pure (L' := L) (fun ok => tw_ok_cJ (tw_ok_tl ok)) rfl (fun H locs ls hl hS hL kk => ?_) k
    exact lv_i2l hx1 hb hd rfl (kk ls hL)
  · cases hx

theorem tw_o42 (C : tw_Cx g p s m args meth c i) (hd : decode (tw_by i) pc = .ok (.l2i, 1)) (hx : (match st with | Sum.inr (Sum.inl x) :: r => tw_nx (pc + 1) L (tw_I x.toInt32 :: r) μ | _ => none) = some (Sum.inl (q, L', st', μ'))) (k : tw_Kp g p l e s m args below meth c i Qf q L' st' μ') : tw_Kp g p l e s m args below meth c i Qf pc L st μ := by
  obtain ⟨hx1, hb, -, -, -, hown, hts, hF, hsh, hap⟩ := C
  split at hx
  · rename_i x r
    cases hx
    refine tw_pure (L' := L) (fun ok => tw_ok_cI (tw_ok_tl ok)) rfl (fun H locs ls hl hS hL kk => ?_) k
    exact lv_l2i hx1 hb hd rfl (kk ls hL)
  · cases hx

theorem tw_o44 (C : tw_Cx g p s m args meth c i) (hd : decode (tw_by i) pc = .ok (.dup, 1)) (hx : tw_du (pc + 1) L st μ = some (Sum.inl (q, L', st', μ'))) (k : tw_Kp g p l e s m args below meth c i Qf q L' st' μ') : tw_Kp g p l e s m args below meth c i Qf pc L st μ := by
  obtain ⟨hx1, hb, -, -, -, hown, hts, hF, hsh, hap⟩ := C
  unfold tw_du at hx
  split at hx
  · rename_i v r
    split at hx
    · rename_i hc1
      cases hx
      refine tw_pure (L' := L) (fun ok => tw_ok_cons (tw_ok_hd ok) ok) rfl (fun H locs ls hl hS hL kk => ?_) k
      exact lv_dup hx1 hb hd (by rw [tw_rv_cat hF]; exact hc1) (kk ls hL)
    · cases hx
  · cases hx

theorem tw_o45 (C : tw_Cx g p s m args meth c i) (hd : decode (tw_by i) pc = .ok (.dup2, 1)) (hx : tw_d2 (pc + 1) L st μ = some (Sum.inl (q, L', st', μ'))) (k : tw_Kp g p l e s m args below meth c i Qf q L' st' μ') : tw_Kp g p l e s m args below meth c i Qf pc L st μ := by
  obtain ⟨hx1, hb, -, -, -, hown, hts, hF, hsh, hap⟩ := C
  unfold tw_d2 at hx
  split at hx
  · rename_i v w r
    split at hx
    · rename_i hc1
      cases hx
      refine tw_pure (L' := L) (fun ok => tw_ok_cons (tw_ok_hd ok) (tw_ok_cons (tw_ok_hd (tw_ok_tl ok)) ok)) rfl (fun H locs ls hl hS hL kk => ?_) k
      exact lv_dup2_11 hx1 hb hd (by rw [tw_rv_cat hF]; exact hc1.1) (by rw [tw_rv_cat hF]; exact hc1.2) (kk ls hL)
    · cases hx
  · cases hx

theorem tw_o46 (C : tw_Cx g p s m args meth c i) (hd : decode (tw_by i) pc = .ok (.pop, 1)) (hx : tw_po (pc + 1) L st μ = some (Sum.inl (q, L', st', μ'))) (k : tw_Kp g p l e s m args below meth c i Qf q L' st' μ') : tw_Kp g p l e s m args below meth c i Qf pc L st μ := by
  obtain ⟨hx1, hb, -, -, -, hown, hts, hF, hsh, hap⟩ := C
  unfold tw_po at hx
  split at hx
  · rename_i v r
    split at hx
    · rename_i hc1
      cases hx
      refine tw_pure (L' := L) (fun ok => tw_ok_tl ok) rfl (fun H locs ls hl hS hL kk => ?_) k
      exact lv_pop hx1 hb hd (by rw [tw_rv_cat hF]; exact hc1) (kk ls hL)
    · cases hx
  · cases hx

end
end
section
section
variable {g : tw_E} {p : Program} {l : Launch} {e : Env} {s : State} {m : MethodId} {args : Array Value} {below : List Frame} {meth : Method} {c : Code} {i pc q : Nat} {Qf : State → Prop} {L L' : tw_L} {st st' : List tw_V} {μ μ' : tw_M}
theorem tw_rv_r (g : tw_E) {k n : Nat} (h : k ≠ 98) : ∃ t, tw_rv g (tw_R k n) = .ref t := by
  unfold tw_rv
  dsimp only
  split
  · exact ⟨_, rfl⟩
  · split
    · exact ⟨_, rfl⟩
    · exact ⟨_, rfl⟩
theorem tw_tgt {x pc : Nat} : (pc : Int) + ((x : Int) - pc) = (x : Int) := by omega

theorem tw_o47_0 {t : Nat} (C : tw_Cx g p s m args meth c i) (hd : decode (tw_by i) pc = .ok (.ifCond (tw_co 0) ((t : Int) - pc), 3)) (hx : tw_bz 0 t (pc + 3) L st μ = some (Sum.inl (q, L', st', μ'))) (k : tw_Kp g p l e s m args below meth c i Qf q L' st' μ') : tw_Kp g p l e s m args below meth c i Qf pc L st μ := by
  obtain ⟨hx1, hb, hml, -, -, hown, hts, hF, hsh, hap⟩ := C
  unfold tw_bz at hx
  split at hx
  · rename_i v r
    cases hx
    intro ok hl H locs ls hP hS hL
    refine lv_if_eq hx1 hb hd tw_tgt (fun h => ?_) (fun h => ?_)
    · rw [if_pos h] at k
      exact k (tw_ok_tl ok) hl H locs ls hP hS hL
    · rw [if_neg h] at k
      exact k (tw_ok_tl ok) hl H locs ls hP hS hL
  · cases hx

theorem tw_o48_0 {t : Nat} (C : tw_Cx g p s m args meth c i) (hd : decode (tw_by i) pc = .ok (.if_icmp (tw_co 0) ((t : Int) - pc), 3)) (hx : tw_bi 0 t (pc + 3) L st μ = some (Sum.inl (q, L', st', μ'))) (k : tw_Kp g p l e s m args below meth c i Qf q L' st' μ') : tw_Kp g p l e s m args below meth c i Qf pc L st μ := by
  obtain ⟨hx1, hb, hml, -, -, hown, hts, hF, hsh, hap⟩ := C
  unfold tw_bi at hx
  split at hx
  · rename_i w v r
    cases hx
    intro ok hl H locs ls hP hS hL
    refine lv_icmp_eq hx1 hb hd tw_tgt (fun h => ?_) (fun h => ?_)
    · rw [if_pos h] at k
      exact k (tw_ok_tl (tw_ok_tl ok)) hl H locs ls hP hS hL
    · rw [if_neg h] at k
      exact k (tw_ok_tl (tw_ok_tl ok)) hl H locs ls hP hS hL
  · cases hx

theorem tw_o47_1 {t : Nat} (C : tw_Cx g p s m args meth c i) (hd : decode (tw_by i) pc = .ok (.ifCond (tw_co 1) ((t : Int) - pc), 3)) (hx : tw_bz 1 t (pc + 3) L st μ = some (Sum.inl (q, L', st', μ'))) (k : tw_Kp g p l e s m args below meth c i Qf q L' st' μ') : tw_Kp g p l e s m args below meth c i Qf pc L st μ := by
  obtain ⟨hx1, hb, hml, -, -, hown, hts, hF, hsh, hap⟩ := C
  unfold tw_bz at hx
  split at hx
  · rename_i v r
    cases hx
    intro ok hl H locs ls hP hS hL
    refine lv_if_ne hx1 hb hd tw_tgt (fun h => ?_) (fun h => ?_)
    · rw [if_neg h] at k
      exact k (tw_ok_tl ok) hl H locs ls hP hS hL
    · rw [if_pos h] at k
      exact k (tw_ok_tl ok) hl H locs ls hP hS hL
  · cases hx

theorem tw_o48_1 {t : Nat} (C : tw_Cx g p s m args meth c i) (hd : decode (tw_by i) pc = .ok (.if_icmp (tw_co 1) ((t : Int) - pc), 3)) (hx : tw_bi 1 t (pc + 3) L st μ = some (Sum.inl (q, L', st', μ'))) (k : tw_Kp g p l e s m args below meth c i Qf q L' st' μ') : tw_Kp g p l e s m args below meth c i Qf pc L st μ := by
  obtain ⟨hx1, hb, hml, -, -, hown, hts, hF, hsh, hap⟩ := C
  unfold tw_bi at hx
  split at hx
  · rename_i w v r
    cases hx
    intro ok hl H locs ls hP hS hL
    refine lv_icmp_ne hx1 hb hd tw_tgt (fun h => ?_) (fun h => ?_)
    · rw [if_neg h] at k
      exact k (tw_ok_tl (tw_ok_tl ok)) hl H locs ls hP hS hL
    · rw [if_pos h] at k
      exact k (tw_ok_tl (tw_ok_tl ok)) hl H locs ls hP hS hL
  · cases hx

theorem tw_o47_2 {t : Nat} (C : tw_Cx g p s m args meth c i) (hd : decode (tw_by i) pc = .ok (.ifCond (tw_co 2) ((t : Int) - pc), 3)) (hx : tw_bz 2 t (pc + 3) L st μ = some (Sum.inl (q, L', st', μ'))) (k : tw_Kp g p l e s m args below meth c i Qf q L' st' μ') : tw_Kp g p l e s m args below meth c i Qf pc L st μ := by
  obtain ⟨hx1, hb, hml, -, -, hown, hts, hF, hsh, hap⟩ := C
  unfold tw_bz at hx
  split at hx
  · rename_i v r
    cases hx
    intro ok hl H locs ls hP hS hL
    refine lv_if_lt hx1 hb hd tw_tgt (fun h => ?_) (fun h => ?_)
    · rw [if_pos h] at k
      exact k (tw_ok_tl ok) hl H locs ls hP hS hL
    · rw [if_neg h] at k
      exact k (tw_ok_tl ok) hl H locs ls hP hS hL
  · cases hx

theorem tw_o48_2 {t : Nat} (C : tw_Cx g p s m args meth c i) (hd : decode (tw_by i) pc = .ok (.if_icmp (tw_co 2) ((t : Int) - pc), 3)) (hx : tw_bi 2 t (pc + 3) L st μ = some (Sum.inl (q, L', st', μ'))) (k : tw_Kp g p l e s m args below meth c i Qf q L' st' μ') : tw_Kp g p l e s m args below meth c i Qf pc L st μ := by
  obtain ⟨hx1, hb, hml, -, -, hown, hts, hF, hsh, hap⟩ := C
  unfold tw_bi at hx
  split at hx
  · rename_i w v r
    cases hx
    intro ok hl H locs ls hP hS hL
    refine lv_icmp_lt hx1 hb hd tw_tgt (fun h => ?_) (fun h => ?_)
    · rw [if_pos h] at k
      exact k (tw_ok_tl (tw_ok_tl ok)) hl H locs ls hP hS hL
    · rw [if_neg h] at k
      exact k (tw_ok_tl (tw_ok_tl ok)) hl H locs ls hP hS hL
  · cases hx

theorem tw_o47_3 {t : Nat} (C : tw_Cx g p s m args meth c i) (hd : decode (tw_by i) pc = .ok (.ifCond (tw_co 3) ((t : Int) - pc), 3)) (hx : tw_bz 3 t (pc + 3) L st μ = some (Sum.inl (q, L', st', μ'))) (k : tw_Kp g p l e s m args below meth c i Qf q L' st' μ') : tw_Kp g p l e s m args below meth c i Qf pc L st μ := by
  obtain ⟨hx1, hb, hml, -, -, hown, hts, hF, hsh, hap⟩ := C
  unfold tw_bz at hx
  split at hx
  · rename_i v r
    cases hx
    intro ok hl H locs ls hP hS hL
    refine lv_if_ge hx1 hb hd tw_tgt (fun h => ?_) (fun h => ?_)
    · rw [if_pos h] at k
      exact k (tw_ok_tl ok) hl H locs ls hP hS hL
    · rw [if_neg h] at k
      exact k (tw_ok_tl ok) hl H locs ls hP hS hL
  · cases hx

theorem tw_o48_3 {t : Nat} (C : tw_Cx g p s m args meth c i) (hd : decode (tw_by i) pc = .ok (.if_icmp (tw_co 3) ((t : Int) - pc), 3)) (hx : tw_bi 3 t (pc + 3) L st μ = some (Sum.inl (q, L', st', μ'))) (k : tw_Kp g p l e s m args below meth c i Qf q L' st' μ') : tw_Kp g p l e s m args below meth c i Qf pc L st μ := by
  obtain ⟨hx1, hb, hml, -, -, hown, hts, hF, hsh, hap⟩ := C
  unfold tw_bi at hx
  split at hx
  · rename_i w v r
    cases hx
    intro ok hl H locs ls hP hS hL
    refine lv_icmp_ge hx1 hb hd tw_tgt (fun h => ?_) (fun h => ?_)
    · rw [if_pos h] at k
      exact k (tw_ok_tl (tw_ok_tl ok)) hl H locs ls hP hS hL
    · rw [if_neg h] at k
      exact k (tw_ok_tl (tw_ok_tl ok)) hl H locs ls hP hS hL
  · cases hx

theorem tw_o47_4 {t : Nat} (C : tw_Cx g p s m args meth c i) (hd : decode (tw_by i) pc = .ok (.ifCond (tw_co 4) ((t : Int) - pc), 3)) (hx : tw_bz 4 t (pc + 3) L st μ = some (Sum.inl (q, L', st', μ'))) (k : tw_Kp g p l e s m args below meth c i Qf q L' st' μ') : tw_Kp g p l e s m args below meth c i Qf pc L st μ := by
  obtain ⟨hx1, hb, hml, -, -, hown, hts, hF, hsh, hap⟩ := C
  unfold tw_bz at hx
  split at hx
  · rename_i v r
    cases hx
    intro ok hl H locs ls hP hS hL
    refine lv_if_gt hx1 hb hd tw_tgt (fun h => ?_) (fun h => ?_)
    · rw [if_pos h] at k
      exact k (tw_ok_tl ok) hl H locs ls hP hS hL
    · rw [if_neg h] at k
      exact k (tw_ok_tl ok) hl H locs ls hP hS hL
  · cases hx

theorem tw_o48_4 {t : Nat} (C : tw_Cx g p s m args meth c i) (hd : decode (tw_by i) pc = .ok (.if_icmp (tw_co 4) ((t : Int) - pc), 3)) (hx : tw_bi 4 t (pc + 3) L st μ = some (Sum.inl (q, L', st', μ'))) (k : tw_Kp g p l e s m args below meth c i Qf q L' st' μ') : tw_Kp g p l e s m args below meth c i Qf pc L st μ := by
  obtain ⟨hx1, hb, hml, -, -, hown, hts, hF, hsh, hap⟩ := C
  unfold tw_bi at hx
  split at hx
  · rename_i w v r
    cases hx
    intro ok hl H locs ls hP hS hL
    refine lv_icmp_gt hx1 hb hd tw_tgt (fun h => ?_) (fun h => ?_)
    · rw [if_pos h] at k
      exact k (tw_ok_tl (tw_ok_tl ok)) hl H locs ls hP hS hL
    · rw [if_neg h] at k
      exact k (tw_ok_tl (tw_ok_tl ok)) hl H locs ls hP hS hL
  · cases hx

theorem tw_o47_5 {t : Nat} (C : tw_Cx g p s m args meth c i) (hd : decode (tw_by i) pc = .ok (.ifCond (tw_co 5) ((t : Int) - pc), 3)) (hx : tw_bz 5 t (pc + 3) L st μ = some (Sum.inl (q, L', st', μ'))) (k : tw_Kp g p l e s m args below meth c i Qf q L' st' μ') : tw_Kp g p l e s m args below meth c i Qf pc L st μ := by
  obtain ⟨hx1, hb, hml, -, -, hown, hts, hF, hsh, hap⟩ := C
  unfold tw_bz at hx
  split at hx
  · rename_i v r
    cases hx
    intro ok hl H locs ls hP hS hL
    refine lv_if_le hx1 hb hd tw_tgt (fun h => ?_) (fun h => ?_)
    · rw [if_pos h] at k
      exact k (tw_ok_tl ok) hl H locs ls hP hS hL
    · rw [if_neg h] at k
      exact k (tw_ok_tl ok) hl H locs ls hP hS hL
  · cases hx

theorem tw_o48_5 {t : Nat} (C : tw_Cx g p s m args meth c i) (hd : decode (tw_by i) pc = .ok (.if_icmp (tw_co 5) ((t : Int) - pc), 3)) (hx : tw_bi 5 t (pc + 3) L st μ = some (Sum.inl (q, L', st', μ'))) (k : tw_Kp g p l e s m args below meth c i Qf q L' st' μ') : tw_Kp g p l e s m args below meth c i Qf pc L st μ := by
  obtain ⟨hx1, hb, hml, -, -, hown, hts, hF, hsh, hap⟩ := C
  unfold tw_bi at hx
  split at hx
  · rename_i w v r
    cases hx
    intro ok hl H locs ls hP hS hL
    refine lv_icmp_le hx1 hb hd tw_tgt (fun h => ?_) (fun h => ?_)
    · rw [if_pos h] at k
      exact k (tw_ok_tl (tw_ok_tl ok)) hl H locs ls hP hS hL
    · rw [if_neg h] at k
      exact k (tw_ok_tl (tw_ok_tl ok)) hl H locs ls hP hS hL
  · cases hx

theorem tw_o47 {a t : Nat} (ha : a < 6) (C : tw_Cx g p s m args meth c i) (hd : decode (tw_by i) pc = .ok (.ifCond (tw_co a) ((t : Int) - pc), 3)) (hx : tw_bz a t (pc + 3) L st μ = some (Sum.inl (q, L', st', μ'))) (k : tw_Kp g p l e s m args below meth c i Qf q L' st' μ') : tw_Kp g p l e s m args below meth c i Qf pc L st μ := by
  match a, ha with
  | 0, _ => exact tw_o47_0 C hd hx k
  | 1, _ => exact tw_o47_1 C hd hx k
  | 2, _ => exact tw_o47_2 C hd hx k
  | 3, _ => exact tw_o47_3 C hd hx k
  | 4, _ => exact tw_o47_4 C hd hx k
  | 5, _ => exact tw_o47_5 C hd hx k
  | n + 6, h => exact absurd h (by omega)

theorem tw_o48 {a t : Nat} (ha : a < 6) (C : tw_Cx g p s m args meth c i) (hd : decode (tw_by i) pc = .ok (.if_icmp (tw_co a) ((t : Int) - pc), 3)) (hx : tw_bi a t (pc + 3) L st μ = some (Sum.inl (q, L', st', μ'))) (k : tw_Kp g p l e s m args below meth c i Qf q L' st' μ') : tw_Kp g p l e s m args below meth c i Qf pc L st μ := by
  match a, ha with
  | 0, _ => exact tw_o48_0 C hd hx k
  | 1, _ => exact tw_o48_1 C hd hx k
  | 2, _ => exact tw_o48_2 C hd hx k
  | 3, _ => exact tw_o48_3 C hd hx k
  | 4, _ => exact tw_o48_4 C hd hx k
  | 5, _ => exact tw_o48_5 C hd hx k
  | n + 6, h => exact absurd h (by omega)

theorem tw_o49 {t : Nat} (C : tw_Cx g p s m args meth c i) (hd : decode (tw_by i) pc = .ok (.ifnull ((t : Int) - pc), 3)) (hx : tw_bn t (pc + 3) L st μ = some (Sum.inl (q, L', st', μ'))) (k : tw_Kp g p l e s m args below meth c i Qf q L' st' μ') : tw_Kp g p l e s m args below meth c i Qf pc L st μ := by
  obtain ⟨hx1, hb, hml, -, -, hown, hts, hF, hsh, hap⟩ := C
  unfold tw_bn at hx
  split at hx
  · rename_i r
    cases hx
    intro ok hl H locs ls hP hS hL
    exact lv_ifnullN hx1 hb hd tw_tgt (k (tw_ok_tl ok) hl H locs ls hP hS hL)
  · rename_i kk nn r
    split at hx
    · cases hx
    · rename_i hne
      cases hx
      intro ok hl H locs ls hP hS hL
      rw [List.map_cons]
      obtain ⟨t, z⟩ := tw_rv_r g (n := nn) (fun z : kk = 98 => by rw [z] at hne; cases hne)
      rw [z]
      exact lv_ifnull hx1 hb hd (k (tw_ok_tl ok) hl H locs ls hP hS hL)
  · cases hx

theorem tw_o50 {t : Nat} (C : tw_Cx g p s m args meth c i) (hd : decode (tw_by i) pc = .ok (.ifnonnull ((t : Int) - pc), 3)) (hx : tw_bn (pc + 3) t L st μ = some (Sum.inl (q, L', st', μ'))) (k : tw_Kp g p l e s m args below meth c i Qf q L' st' μ') : tw_Kp g p l e s m args below meth c i Qf pc L st μ := by
  obtain ⟨hx1, hb, hml, -, -, hown, hts, hF, hsh, hap⟩ := C
  unfold tw_bn at hx
  split at hx
  · rename_i r
    cases hx
    intro ok hl H locs ls hP hS hL
    exact lv_ifnonnullN hx1 hb hd (k (tw_ok_tl ok) hl H locs ls hP hS hL)
  · rename_i kk nn r
    split at hx
    · cases hx
    · rename_i hne
      cases hx
      intro ok hl H locs ls hP hS hL
      rw [List.map_cons]
      obtain ⟨t, z⟩ := tw_rv_r g (n := nn) (fun z : kk = 98 => by rw [z] at hne; cases hne)
      rw [z]
      exact lv_ifnonnull hx1 hb hd tw_tgt (k (tw_ok_tl ok) hl H locs ls hP hS hL)
  · cases hx

theorem tw_o51 {t : Nat} (C : tw_Cx g p s m args meth c i) (hd : decode (tw_by i) pc = .ok (.goto ((t : Int) - pc), 3)) (hx : tw_nx t L st μ = some (Sum.inl (q, L', st', μ'))) (k : tw_Kp g p l e s m args below meth c i Qf q L' st' μ') : tw_Kp g p l e s m args below meth c i Qf pc L st μ := by
  have C0 := C
  obtain ⟨hx1, hb, hml, -, -, hown, hts, hF, hsh, hap⟩ := C
  cases hx
  intro ok hl H locs ls hP hS hL
  exact lv_goto hx1 hb hd tw_tgt (k ok hl H locs ls hP hS hL)

theorem tw_sw_tab : ∀ (sw : List (Int32 × Nat)) (o d : Nat) (v : Int32), sw.map (fun q => q.1) = (List.range' o sw.length).map nI → o + sw.length < 1000 →
    (v.toInt < o ∨ (o : Int) + sw.length ≤ v.toInt → tw_sw sw d v = d) ∧ (∀ j : Nat, j < sw.length → v.toInt = (o : Int) + j → tw_sw sw d v = (sw.getD j (0, 0)).2)
  | [], o, d, v, h, hl => ⟨fun _ => rfl, fun j hj => by simp at hj⟩
  | (a, x) :: sw, o, d, v, h, hl => by
    rw [List.length_cons] at h hl
    rw [List.range'_succ, List.map_cons, List.map_cons] at h
    injection h with h1 h2
    have ih := tw_sw_tab sw (o + 1) d v h2 (by omega)
    have ea : a.toInt = (o : Int) := by
      have : a = nI o := h1
      rw [this]; exact nI_toInt (by omega)
    refine ⟨fun hv => ?_, fun j hj hv => ?_⟩
    · rw [tw_sw, if_neg]
      · refine ih.1 ?_
        rcases hv with z | z
        · left; omega
        · right; rw [List.length_cons] at z; push_cast at z ⊢; omega
      · intro z
        subst z
        rcases hv with z | z
        · omega
        · rw [List.length_cons] at z; push_cast at z; omega
    · cases j with
      | zero =>
        rw [tw_sw, if_pos]
        · rfl
        · exact Int32.toInt_inj.mp (by rw [ea, hv]; omega)
      | succ j =>
        rw [List.length_cons] at hj
        rw [tw_sw, if_neg]
        · have := ih.2 j (by omega) (by rw [hv]; push_cast; omega)
          rw [this]
          rfl
        · intro z
          subst z
          rw [ea] at hv
          push_cast at hv
          omega
theorem tw_o52 {t : Nat} {sw : List (Int32 × Nat)} {w : Nat} (hs : sw.map (fun q => q.1) = (List.range sw.length).map nI) (hl0 : sw.length < 100) (C : tw_Cx g p s m args meth c i) (hd : decode (tw_by i) pc = .ok (.tableswitch ((t : Int) - pc) 0 ((sw.length : Int) - 1) (sw.map (fun q => (q.2 : Int) - pc)).toArray, w)) (hx : tw_bs sw t L st μ = some (Sum.inl (q, L', st', μ'))) (k : tw_Kp g p l e s m args below meth c i Qf q L' st' μ') : tw_Kp g p l e s m args below meth c i Qf pc L st μ := by
  obtain ⟨hx1, hb, hml, -, -, hown, hts, hF, hsh, hap⟩ := C
  unfold tw_bs at hx
  split at hx
  · rename_i v r
    cases hx
    have hT := tw_sw_tab sw 0 t v (by rw [hs, List.range_eq_range']) (by omega)
    intro ok hl H locs ls hP hS hL
    by_cases hv : v.toInt < (0 : Int) ∨ (sw.length : Int) - 1 < v.toInt
    · have hv2 : v.toInt < ((0 : Nat) : Int) ∨ ((0 : Nat) : Int) + sw.length ≤ v.toInt := by omega
      rw [hT.1 hv2] at k
      exact lv_tableOut hx1 hb hd hv tw_tgt (k (tw_ok_tl ok) hl H locs ls hP hS hL)
    · have h1 : ¬ v.toInt < (0 : Int) := fun z => hv (Or.inl z)
      have h2 : ¬ (sw.length : Int) - 1 < v.toInt := fun z => hv (Or.inr z)
      have hj : v.toInt.toNat < sw.length := by omega
      rw [hT.2 v.toInt.toNat hj (by omega)] at k
      refine lv_tableIn hx1 hb hd h1 h2 (off := ((sw.getD v.toInt.toNat (0, 0)).2 : Int) - pc) ?_ tw_tgt (k (tw_ok_tl ok) hl H locs ls hP hS hL)
      rw [Int.sub_zero]
      generalize v.toInt.toNat = jj at hj ⊢
      rw [List.getElem?_toArray, List.getElem?_map, List.getD_eq_getElem?_getD, List.getElem?_eq_getElem hj]
      rfl
  · cases hx
theorem tw_o53 {t x y : Nat} {w : Nat} (C : tw_Cx g p s m args meth c i) (hd : decode (tw_by i) pc = .ok (.lookupswitch ((t : Int) - pc) #[((0 : Int32).toInt, (x : Int) - pc), ((1 : Int32).toInt, (y : Int) - pc)], w)) (hx : tw_bs [((0 : Int32), x), ((1 : Int32), y)] t L st μ = some (Sum.inl (q, L', st', μ'))) (k : tw_Kp g p l e s m args below meth c i Qf q L' st' μ') : tw_Kp g p l e s m args below meth c i Qf pc L st μ := by
  obtain ⟨hx1, hb, hml, -, -, hown, hts, hF, hsh, hap⟩ := C
  unfold tw_bs at hx
  split at hx
  · rename_i v r
    cases hx
    intro ok hl H locs ls hP hS hL
    have k2 := fun h => k (tw_ok_tl ok) hl H locs ls hP hS h
    by_cases h0 : v = 0
    · subst h0
      exact lv_lookup hx1 hb hd rfl (off := (x : Int) - pc) rfl tw_tgt (k2 hL)
    · by_cases h1 : v = 1
      · subst h1
        exact lv_lookup hx1 hb hd rfl (off := (y : Int) - pc) rfl tw_tgt (k2 hL)
      · simp only [tw_sw, if_neg h0, if_neg h1] at k2
        refine lv_lookup hx1 hb hd rfl (off := (t : Int) - pc) ?_ tw_tgt (k2 hL)
        rw [lv_osw h0 rfl, lv_osw h1 rfl]
        rfl
  · cases hx
theorem tw_nb {a b : Nat} (h : Nat.beq a b = true) : a = b := Nat.eq_of_beq_eq_true h
theorem tw_kind {k n : Nat} (hsh : tw_sh g) (h : (k, n) ∈ tw_vs g) : k ≠ 8 ∧ k ≠ 9 ∧ k ≠ 98 := by
  have := hsh.2.2.2.1 _ h
  dsimp only at this
  unfold tw_ia at this
  simp only [Bool.or_eq_true, Bool.and_eq_true, Nat.ble_eq] at this
  omega
theorem tw_vd_in {k n : Nat} (h : tw_vd g (tw_R k n)) (h8 : k ≠ 8) (h9 : k ≠ 9) (h98 : k ≠ 98) : (k, n) ∈ tw_vs g := by
  rcases h with z | z | z | z
  · exact absurd z.1 h8
  · exact absurd z.1 h9
  · exact absurd z h98
  · exact z
theorem tw_rv_in {k n : Nat} (hsh : tw_sh g) (h : (k, n) ∈ tw_vs g) : tw_rv g (tw_R k n) = .ref (tw_ad g k n) := by
  obtain ⟨h8, h9, h98⟩ := tw_kind hsh h
  unfold tw_rv
  dsimp only
  rw [if_neg h8, if_neg h9, if_neg h98]
theorem tw_vd_of {k n : Nat} (h : (k, n) ∈ tw_vs g) : tw_vd g (tw_R k n) := Or.inr (Or.inr (Or.inr h))
theorem tw_vd_fv {c0 n j : Nat} (hsh : tw_sh g) (h : (c0, n) ∈ tw_vs g) (hc : c0 < 7) (hj : j < tw_nf c0) : tw_vd g (tw_fv μ c0 n j) := by
  unfold tw_fv
  split
  · exact True.intro
  · rename_i h2
    exact tw_vd_of (hsh.1 _ h hc j hj h2)
  · exact True.intro
theorem tw_ent_o {c0 n : Nat} (hc : c0 < 7) : tw_ent g μ c0 n = .inr (c0, (List.range (tw_nf c0)).map (fun j => tw_rv g (tw_fv μ c0 n j))) := by
  unfold tw_ent
  rw [if_pos hc]
theorem tw_ia_of {k : Nat} (h : tw_ia k = true) : ¬ k < 7 ∧ k ≠ 21 ∧ k ≠ 22 ∧ k ≠ 38 ∧ k ≠ 8 ∧ k ≠ 9 ∧ k ≠ 98 := by
  unfold tw_ia at h
  simp only [Bool.or_eq_true, Bool.and_eq_true, Nat.ble_eq] at h
  omega
theorem tw_ent_i {k n : Nat} (h : tw_ia k = true) : tw_ent g μ k n = .inl (tw_cy g 0, (tw_al k, .inl (fun j => tw_gi μ k n j))) := by
  obtain ⟨h1, h2, h3, h4, -⟩ := tw_ia_of h
  unfold tw_ent
  rw [if_neg h1, if_neg h2, if_neg h3, if_neg h4]
theorem tw_ent_s {n : Nat} : tw_ent g μ 21 n = .inl (tw_cy g 3, (8, .inr (.inr (.inr (.inr (fun j => some (tw_ad g 2 (8 * n + j)))))))) := rfl
theorem tw_ent_e {n : Nat} : tw_ent g μ 22 n = .inl (tw_cy g 2, (4, .inr (.inr (.inr (.inr (fun j => some (tw_ad g 1 (4 * n + j)))))))) := rfl
theorem tw_ent_z {n : Nat} : tw_ent g μ 38 n = .inl (tw_cy g 1, (2, .inl (fun j => tw_gi μ 38 n j))) := rfl
theorem tw_cl_bg {i : Nat} {w : Cond} (h : w ∈ tw_big) : w ∈ tw_wm i := List.mem_cons_of_mem _ h
theorem tw_o54 {a c0 j : Nat} (hc : c0 < 7) (hj : j < tw_nf c0) (hw : Cond.fieldLink (tw_nm i).cls a (tw_cl c0).1 ((tw_cl c0).2.1 j).2.1 ((tw_cl c0).2.1 j).2.2.1 ∈ tw_big) (C : tw_Cx g p s m args meth c i) (hd : decode (tw_by i) pc = .ok (.getfield a, 3)) (hx : tw_gf c0 j (pc + 3) L st μ = some (Sum.inl (q, L', st', μ'))) (k : tw_Kp g p l e s m args below meth c i Qf q L' st' μ') : tw_Kp g p l e s m args below meth c i Qf pc L st μ := by
  have C0 := C
  obtain ⟨hx1, hb, hml, -, -, hown, hts, hF, hsh, hap⟩ := C
  unfold tw_gf at hx
  split at hx
  · rename_i k0 n r
    split at hx
    · rename_i hkc
      have hkc := tw_nb hkc
      subst hkc
      cases hx
      intro ok hl H locs ls hP hS hL
      have hin : (k0, n) ∈ tw_vs g := tw_vd_in (tw_ok_hd ok) (by omega) (by omega) (by omega)
      obtain ⟨ix, -, hix⟩ := tw_ws_at (μ := μ) hin
      rw [tw_ent_o hc] at hix
      rw [List.map_cons, tw_rv_in hsh hin]
      have hN := tw_cl_n hc
      exact va_get (C := (tw_cl k0).1) (T := (tw_cl k0).2.1) (N := (tw_cl k0).2.2) (ref := (tw_cl k0).1) (v := tw_rv g (tw_fv μ k0 n j)) hx1 hb hts (fun w h => tw_cl_bg (tw_cl_w hc w h)) hown hF.1 hP ix hix (tw_cl_at hc) j (by rw [hN]; exact hj) (tw_hi hts hw) (fun x h => by rw [tw_cl_own hc hj] at h; exact h) (by simp [hj]) hd (k (tw_ok_cons (tw_vd_fv hsh hin hc hj) (tw_ok_tl ok)) hl H locs ls hP hS hL)
    · cases hx
  · cases hx

theorem tw_put {a k0 n j : Nat} {x : Value} {ty : FieldType} {r : List tw_V} (hc : k0 < 7) (hj : j < tw_nf k0) (hw : Cond.fieldLink (tw_nm i).cls a (tw_cl k0).1 ((tw_cl k0).2.1 j).2.1 ((tw_cl k0).2.1 j).2.2.1 ∈ tw_big) (hfk : tw_fk k0 j ≠ 2) (hty : tw_tyf k0 j = ty) (hn : narrow ty x = x) (hfit : fits ty x = true) (hset : tw_rv g (tw_fv μ' k0 n j) = x) (ho : ∀ y, y ∈ tw_vs g → y ≠ (k0, n) → tw_ent g μ' y.1 y.2 = tw_ent g μ y.1 y.2) (ho2 : ∀ j', j' ≠ j → tw_fv μ' k0 n j' = tw_fv μ k0 n j') (hin : (k0, n) ∈ tw_vs g)
    (C : tw_Cx g p s m args meth c i) (hd : decode (tw_by i) pc = .ok (.putfield a, 3)) (ok : tw_ok g L r) (hl : L.length = tw_ml i) (k : tw_Kp g p l e s m args below meth c i Qf (pc + 3) L r μ') : ∀ (H : Heap) (locs : List Loc) (ls : Array Slot), va_P (tw_D g) vwCl (tw_ws g μ) H → va_S (tw_A g) s.heap H locs → tw_LR g L ls → W p l e (tw_rm i) s m args below meth c H locs 0 0 Qf (F0 m pc ls (x :: .ref (tw_ad g k0 n) :: r.map (tw_rv g))) := by
  intro H locs ls hP hS hL
  obtain ⟨hx1, hb, hml, -, -, hown, hts, hF, hsh, hap⟩ := C
  obtain ⟨ix, hvx, hix⟩ := tw_ws_at (μ := μ) hin
  have hent := tw_ent_o (g := g) (μ := μ) (n := n) hc
  have hent' := tw_ent_o (g := g) (μ := μ') (n := n) hc
  rw [hent] at hix
  have hN := tw_cl_n hc
  have hfr : ((tw_cl k0).2.1 j).2.2.2 = false := by
    rcases (tw_cl_free hc hj).1 with z | z
    · exact absurd z hfk
    · exact z
  refine va_put (C := (tw_cl k0).1) (T := (tw_cl k0).2.1) (N := (tw_cl k0).2.2) (ref := (tw_cl k0).1) (v := x) (ty := ty) hx1 hb hts (fun w h => tw_cl_bg (tw_cl_w hc w h)) (tw_tyf k0) (tw_cl_ty hc) (tw_cl_nm hc) hown hF.1 hP (tw_ws_D hap μ) hS ix hix (tw_cl_at hc) j (by rw [hN]; exact hj) (tw_hi hts hw) (fun x h => by rw [tw_cl_own hc hj] at h; exact h) hfr (by rw [tw_cl_ty hc j (by rw [hN]; exact hj), hty]) hn hfit (by simp [hj]) hd (fun H1 locs1 hP1 hD1 hS1 => ?_)
  have hm := tw_map_set (fun j => tw_rv g (tw_fv μ k0 n j)) (fun j => tw_rv g (tw_fv μ' k0 n j)) (tw_nf k0) j (fun j' hj' => by rw [ho2 j' hj'])
  rw [hset] at hm
  rw [hm, ← hent', tw_ws_set hap hvx ho] at hP1
  exact k ok hl H1 locs1 ls hP1 hS1 hL
theorem tw_ent_sl {μ : tw_M} {k0 : Nat} {v : Int64} (x : Nat × Nat) (h : x.1 ≠ k0) : tw_ent g (tw_sl μ k0 v) x.1 x.2 = tw_ent g μ x.1 x.2 := by
  have e2 : ∀ j', tw_fv (tw_sl μ k0 v) x.1 x.2 j' = tw_fv μ x.1 x.2 j' := by
    intro j'
    unfold tw_fv
    rw [tw_gi_sl, tw_gl_sl, if_neg h]
  unfold tw_ent
  simp only [e2, tw_gi_sl]
theorem tw_fk1 {c0 j : Nat} (h : tw_fk c0 j = 1) : (c0 = 5 ∧ j = 6) ∨ (c0 = 6 ∧ j = 1) := by
  have h7 : ∀ c, c < 7 → ∀ j, j < 25 → tw_fk c j = 1 → (c = 5 ∧ j = 6) ∨ (c = 6 ∧ j = 1) := by decide +kernel
  by_cases hc : c0 < 7
  · by_cases hj : j < 25
    · exact h7 c0 hc j hj h
    · exfalso
      have hz : tw_fk c0 j = 0 := by
        have hl : ∀ c, c < 7 → (tw_fkT.getD c []).length ≤ 25 := by decide +kernel
        have := hl c0 hc
        unfold tw_fk
        rw [List.getD_eq_getElem?_getD, List.getElem?_eq_none (by omega)]
        rfl
      rw [hz] at h; cases h
  · exfalso
    have hz : tw_fk c0 j = 0 := by
      unfold tw_fk
      rw [List.getD_eq_getElem?_getD (l := tw_fkT), List.getElem?_eq_none (by have : tw_fkT.length = 7 := rfl; omega)]
      rfl
    rw [hz] at h; cases h
theorem tw_o55 {a c0 j : Nat} (hc : c0 < 7) (hj : j < tw_nf c0) (hw : Cond.fieldLink (tw_nm i).cls a (tw_cl c0).1 ((tw_cl c0).2.1 j).2.1 ((tw_cl c0).2.1 j).2.2.1 ∈ tw_big) (C : tw_Cx g p s m args meth c i) (hd : decode (tw_by i) pc = .ok (.putfield a, 3)) (hx : tw_pf c0 j (pc + 3) L st μ = some (Sum.inl (q, L', st', μ'))) (k : tw_Kp g p l e s m args below meth c i Qf q L' st' μ') : tw_Kp g p l e s m args below meth c i Qf pc L st μ := by
  have C0 := C
  obtain ⟨hx1, hb, hml, -, -, hown, hts, hF, hsh, hap⟩ := C
  unfold tw_pf at hx
  split at hx
  · rename_i x k0 n r
    split at hx
    · rename_i hkc h0
      have hkc := tw_nb hkc
      subst hkc
      cases hx
      intro ok hl H locs ls hP hS hL
      have hin : (k0, n) ∈ tw_vs g := tw_vd_in (tw_ok_hd (tw_ok_tl ok)) (by omega) (by omega) (by omega)
      rw [List.map_cons, List.map_cons, tw_rv_in hsh hin]
      refine tw_put (x := .int x) (ty := .int) hc hj hw (by rw [h0]; decide) ((tw_cl_free hc hj).2.1 h0) rfl rfl ?_ (fun y _ hy => tw_ent_si y hy) ?_ hin C0 hd (tw_ok_tl (tw_ok_tl ok)) hl k H locs ls hP hS hL
      · simp only [tw_fv, h0, tw_gi_si]
        simp [tw_rv]
      · intro j' hj'
        simp only [tw_fv, tw_gi_si, tw_gl_si]
        simp [hj']
    · rename_i hkc h0
      have hkc := tw_nb hkc
      subst hkc
      split at hx
      · rename_i h01
        cases hx
        intro ok hl H locs ls hP hS hL
        have hin : (k0, n) ∈ tw_vs g := tw_vd_in (tw_ok_hd (tw_ok_tl ok)) (by omega) (by omega) (by omega)
        rw [List.map_cons, List.map_cons, tw_rv_in hsh hin]
        refine tw_put (x := .int x) (ty := .boolean) hc hj hw (by rw [h0]; decide) ((tw_cl_free hc hj).2.2.2 h0) (by rcases h01 with z | z <;> rw [z] <;> rfl) (by rcases h01 with z | z <;> rw [z] <;> rfl) ?_ (fun y _ hy => tw_ent_si y hy) ?_ hin C0 hd (tw_ok_tl (tw_ok_tl ok)) hl k H locs ls hP hS hL
        · simp only [tw_fv, h0, tw_gi_si]
          simp [tw_rv]
        · intro j' hj'
          simp only [tw_fv, tw_gi_si, tw_gl_si]
          simp [hj']
      · cases hx
    · cases hx
  · rename_i x k0 n r
    split at hx
    · rename_i hkc h0
      have hkc := tw_nb hkc
      subst hkc
      cases hx
      intro ok hl H locs ls hP hS hL
      have hin : (k0, n) ∈ tw_vs g := tw_vd_in (tw_ok_hd (tw_ok_tl ok)) (by omega) (by omega) (by omega)
      have h56 : k0 = 5 ∨ k0 = 6 := by rcases tw_fk1 h0 with z | z <;> omega
      have hone : ∀ y, y ∈ tw_vs g → y ≠ (k0, n) → y.1 ≠ k0 := by
        intro y hy hne z
        have e1 := hsh.2.2.2.2 y hy (by rw [z]; exact h56)
        have e2 := hsh.2.2.2.2 _ hin h56
        exact hne (Prod.ext z (e1.trans e2.symm))
      rw [List.map_cons, List.map_cons, tw_rv_in hsh hin]
      refine tw_put (x := .long x) (ty := .long) hc hj hw (by rw [h0]; decide) ((tw_cl_free hc hj).2.2.1 h0) rfl rfl ?_ (fun y hm hy => tw_ent_sl y (hone y hm hy)) ?_ hin C0 hd (tw_ok_tl (tw_ok_tl ok)) hl k H locs ls hP hS hL
      · simp only [tw_fv, h0, tw_gl_sl]
        simp [tw_rv]
      · intro j' hj'
        have h1 : tw_fk k0 j' ≠ 1 := by
          intro z
          rcases tw_fk1 z with z1 | z1 <;> rcases tw_fk1 h0 with z2 | z2 <;> omega
        unfold tw_fv
        split
        · rename_i z; exact absurd z h1
        · rfl
        · rfl
    · cases hx
  · cases hx

theorem tw_o56 (C : tw_Cx g p s m args meth c i) (hd : decode (tw_by i) pc = .ok (.iaload, 1)) (hx : tw_il (pc + 1) L st μ = some (Sum.inl (q, L', st', μ'))) (k : tw_Kp g p l e s m args below meth c i Qf q L' st' μ') : tw_Kp g p l e s m args below meth c i Qf pc L st μ := by
  have C0 := C
  obtain ⟨hx1, hb, hml, -, -, hown, hts, hF, hsh, hap⟩ := C
  unfold tw_il at hx
  split at hx
  · rename_i a k0 n r
    split at hx
    · rename_i hia
      split at hx
      · rename_i hin2
        cases hx
        intro ok hl H locs ls hP hS hL
        have hin : (k0, n) ∈ tw_vs g := tw_vd_in (tw_ok_hd (tw_ok_tl ok)) (tw_ia_of hia).2.2.2.2.1 (tw_ia_of hia).2.2.2.2.2.1 (tw_ia_of hia).2.2.2.2.2.2
        obtain ⟨ix, -, hix⟩ := tw_ws_at (μ := μ) hin
        rw [tw_ent_i hia] at hix
        rw [List.map_cons, List.map_cons, tw_rv_in hsh hin]
        exact va_iald hx1 hb hF.1 hP ix 0 hix rfl hin2 hd (k (tw_ok_cI (tw_ok_tl (tw_ok_tl ok))) hl H locs ls hP hS hL)
      · cases hx
    · cases hx
  · cases hx

theorem tw_o57 (C : tw_Cx g p s m args meth c i) (hd : decode (tw_by i) pc = .ok (.iastore, 1)) (hx : tw_is (pc + 1) L st μ = some (Sum.inl (q, L', st', μ'))) (k : tw_Kp g p l e s m args below meth c i Qf q L' st' μ') : tw_Kp g p l e s m args below meth c i Qf pc L st μ := by
  have C0 := C
  obtain ⟨hx1, hb, hml, -, -, hown, hts, hF, hsh, hap⟩ := C
  unfold tw_is at hx
  split at hx
  · rename_i x a k0 n r
    split at hx
    · rename_i hia
      split at hx
      · rename_i hin2
        cases hx
        intro ok hl H locs ls hP hS hL
        have hin : (k0, n) ∈ tw_vs g := tw_vd_in (tw_ok_hd (tw_ok_tl (tw_ok_tl ok))) (tw_ia_of hia).2.2.2.2.1 (tw_ia_of hia).2.2.2.2.2.1 (tw_ia_of hia).2.2.2.2.2.2
        obtain ⟨ix, hvx, hix⟩ := tw_ws_at (μ := μ) hin
        rw [tw_ent_i hia] at hix
        rw [List.map_cons, List.map_cons, List.map_cons, tw_rv_in hsh hin]
        refine va_iast hx1 hb hF.1 hP (tw_ws_D hap μ) hS ix 0 hix rfl hin2 hd (fun H1 locs1 hP1 hD1 hS1 => ?_)
        have he : (va_E → Prop) := fun _ => True
        have e1 : (.inl (tw_cy g 0, (tw_al k0, .inl (upd (fun j => tw_gi μ k0 n j) a.toNatClampNeg x))) : va_E) = tw_ent g (tw_si μ k0 n a.toNatClampNeg x) k0 n := by
          rw [tw_ent_i hia]
          congr 4
          funext j
          simp [upd, tw_gi_si]
        rw [e1, tw_ws_set hap hvx (fun y _ hy => tw_ent_si y hy)] at hP1
        exact k (tw_ok_tl (tw_ok_tl (tw_ok_tl ok))) hl H1 locs1 ls hP1 hS1 hL
      · cases hx
    · cases hx
  · cases hx

theorem tw_o58 (C : tw_Cx g p s m args meth c i) (hd : decode (tw_by i) pc = .ok (.baload, 1)) (hx : tw_zl (pc + 1) L st μ = some (Sum.inl (q, L', st', μ'))) (k : tw_Kp g p l e s m args below meth c i Qf q L' st' μ') : tw_Kp g p l e s m args below meth c i Qf pc L st μ := by
  have C0 := C
  obtain ⟨hx1, hb, hml, -, -, hown, hts, hF, hsh, hap⟩ := C
  unfold tw_zl at hx
  split at hx
  · rename_i a k0 n r
    split at hx
    · rename_i hia
      have hia := tw_nb hia
      subst hia
      split at hx
      · rename_i hin2
        cases hx
        intro ok hl H locs ls hP hS hL
        have hin : (38, n) ∈ tw_vs g := tw_vd_in (tw_ok_hd (tw_ok_tl ok)) (by decide) (by decide) (by decide)
        obtain ⟨ix, -, hix⟩ := tw_ws_at (μ := μ) hin
        rw [tw_ent_z] at hix
        rw [List.map_cons, List.map_cons, tw_rv_in hsh hin]
        exact va_zald hx1 hb hF.1 hP ix 1 hix rfl hin2 hd (k (tw_ok_cI (tw_ok_tl (tw_ok_tl ok))) hl H locs ls hP hS hL)
      · cases hx
    · cases hx
  · cases hx

theorem tw_o59 (C : tw_Cx g p s m args meth c i) (hd : decode (tw_by i) pc = .ok (.bastore, 1)) (hx : tw_zs (pc + 1) L st μ = some (Sum.inl (q, L', st', μ'))) (k : tw_Kp g p l e s m args below meth c i Qf q L' st' μ') : tw_Kp g p l e s m args below meth c i Qf pc L st μ := by
  have C0 := C
  obtain ⟨hx1, hb, hml, -, -, hown, hts, hF, hsh, hap⟩ := C
  unfold tw_zs at hx
  split at hx
  · rename_i x a k0 n r
    split at hx
    · rename_i hia
      have hia := tw_nb hia
      subst hia
      split at hx
      · rename_i hin2
        cases hx
        intro ok hl H locs ls hP hS hL
        have hin : (38, n) ∈ tw_vs g := tw_vd_in (tw_ok_hd (tw_ok_tl (tw_ok_tl ok))) (by decide) (by decide) (by decide)
        obtain ⟨ix, hvx, hix⟩ := tw_ws_at (μ := μ) hin
        rw [tw_ent_z] at hix
        rw [List.map_cons, List.map_cons, List.map_cons, tw_rv_in hsh hin]
        refine va_zast hx1 hb hF.1 hP (tw_ws_D hap μ) hS ix 1 hix rfl hin2.2 hd (fun H1 locs1 hP1 hD1 hS1 => ?_)
        have e0 : vp_nar .boolean x = x := by rcases hin2.1 with z | z <;> rw [z] <;> rfl
        rw [e0] at hP1
        have e1 : (.inl (tw_cy g 1, (2, .inl (upd (fun j => tw_gi μ 38 n j) a.toNatClampNeg x))) : va_E) = tw_ent g (tw_si μ 38 n a.toNatClampNeg x) 38 n := by
          rw [tw_ent_z]
          congr 4
          funext j
          simp [upd, tw_gi_si]
        rw [e1, tw_ws_set hap hvx (fun y _ hy => tw_ent_si y hy)] at hP1
        exact k (tw_ok_tl (tw_ok_tl (tw_ok_tl ok))) hl H1 locs1 ls hP1 hS1 hL
      · cases hx
    · cases hx
  · cases hx

theorem tw_o60 (C : tw_Cx g p s m args meth c i) (hd : decode (tw_by i) pc = .ok (.aaload, 1)) (hx : tw_ql2 (pc + 1) L st μ = some (Sum.inl (q, L', st', μ'))) (k : tw_Kp g p l e s m args below meth c i Qf q L' st' μ') : tw_Kp g p l e s m args below meth c i Qf pc L st μ := by
  have C0 := C
  obtain ⟨hx1, hb, hml, -, -, hown, hts, hF, hsh, hap⟩ := C
  unfold tw_ql2 at hx
  split at hx
  · rename_i a k0 n r
    split at hx
    · rename_i hia
      have hia := tw_nb hia
      subst hia
      split at hx
      · rename_i hin2
        cases hx
        intro ok hl H locs ls hP hS hL
        have hin : (21, n) ∈ tw_vs g := tw_vd_in (tw_ok_hd (tw_ok_tl ok)) (by decide) (by decide) (by decide)
        obtain ⟨ix, -, hix⟩ := tw_ws_at (μ := μ) hin
        rw [tw_ent_s] at hix
        have hlt : a.toNatClampNeg < 8 := Nat.not_le.mp fun q => hin2 (Or.inr q)
        have hin3 := hsh.2.1 n hin _ hlt
        have k2 := k (tw_ok_cons (tw_vd_of hin3) (tw_ok_tl (tw_ok_tl ok))) hl H locs ls hP hS hL
        rw [List.map_cons, List.map_cons, tw_rv_in hsh hin]
        rw [List.map_cons, tw_rv_in hsh hin3] at k2
        exact va_aldq hx1 hb hF.1 hP ix 3 hix rfl hin2 hd k2
      · cases hx
    · rename_i hia hno
      have hia := tw_nb hia
      subst hia
      split at hx
      · rename_i hin2
        cases hx
        intro ok hl H locs ls hP hS hL
        have hin : (22, n) ∈ tw_vs g := tw_vd_in (tw_ok_hd (tw_ok_tl ok)) (by decide) (by decide) (by decide)
        obtain ⟨ix, -, hix⟩ := tw_ws_at (μ := μ) hin
        rw [tw_ent_e] at hix
        have hlt : a.toNatClampNeg < 4 := Nat.not_le.mp fun q => hin2 (Or.inr q)
        have hin3 := hsh.2.2.1 n hin _ hlt
        have k2 := k (tw_ok_cons (tw_vd_of hin3) (tw_ok_tl (tw_ok_tl ok))) hl H locs ls hP hS hL
        rw [List.map_cons, List.map_cons, tw_rv_in hsh hin]
        rw [List.map_cons, tw_rv_in hsh hin3] at k2
        exact va_aldq hx1 hb hF.1 hP ix 2 hix rfl hin2 hd k2
      · cases hx
    · cases hx
  · cases hx

theorem tw_o61 (C : tw_Cx g p s m args meth c i) (hd : decode (tw_by i) pc = .ok (.arraylength, 1)) (hx : tw_an (pc + 1) L st μ = some (Sum.inl (q, L', st', μ'))) (k : tw_Kp g p l e s m args below meth c i Qf q L' st' μ') : tw_Kp g p l e s m args below meth c i Qf pc L st μ := by
  have C0 := C
  obtain ⟨hx1, hb, hml, -, -, hown, hts, hF, hsh, hap⟩ := C
  unfold tw_an at hx
  split at hx
  · rename_i k0 n r
    split at hx
    · rename_i hia
      cases hx
      intro ok hl H locs ls hP hS hL
      have hin : (k0, n) ∈ tw_vs g := tw_vd_in (tw_ok_hd ok) (tw_ia_of hia).2.2.2.2.1 (tw_ia_of hia).2.2.2.2.2.1 (tw_ia_of hia).2.2.2.2.2.2
      obtain ⟨ix, -, hix⟩ := tw_ws_at (μ := μ) hin
      rw [tw_ent_i hia] at hix
      rw [List.map_cons, tw_rv_in hsh hin]
      exact va_alen hx1 hb hF.1 hP ix 0 hix rfl rfl hd (k (tw_ok_cI (tw_ok_tl ok)) hl H locs ls hP hS hL)
    · rename_i hia hno
      have hia := tw_nb hia
      subst hia
      cases hx
      intro ok hl H locs ls hP hS hL
      have hin : (21, n) ∈ tw_vs g := tw_vd_in (tw_ok_hd ok) (by decide) (by decide) (by decide)
      obtain ⟨ix, -, hix⟩ := tw_ws_at (μ := μ) hin
      rw [tw_ent_s] at hix
      rw [List.map_cons, tw_rv_in hsh hin]
      exact va_alen hx1 hb hF.1 hP ix 3 hix rfl rfl hd (k (tw_ok_cI (tw_ok_tl ok)) hl H locs ls hP hS hL)
    · rename_i hia hno1 hno2
      have hia := tw_nb hia
      subst hia
      cases hx
      intro ok hl H locs ls hP hS hL
      have hin : (22, n) ∈ tw_vs g := tw_vd_in (tw_ok_hd ok) (by decide) (by decide) (by decide)
      obtain ⟨ix, -, hix⟩ := tw_ws_at (μ := μ) hin
      rw [tw_ent_e] at hix
      rw [List.map_cons, tw_rv_in hsh hin]
      exact va_alen hx1 hb hF.1 hP ix 2 hix rfl rfl hd (k (tw_ok_cI (tw_ok_tl ok)) hl H locs ls hP hS hL)
    · cases hx
  · cases hx

theorem tw_o62_0 {a : Nat} (hw : Cond.fieldLink (tw_nm i).cls a "java/lang/String" "COMPACT_STRINGS" "Z" ∈ tw_big) (C : tw_Cx g p s m args meth c i) (hd : decode (tw_by i) pc = .ok (.getstatic a, 3)) (hx : tw_gs 0 (pc + 3) L st μ = some (Sum.inl (q, L', st', μ'))) (k : tw_Kp g p l e s m args below meth c i Qf q L' st' μ') : tw_Kp g p l e s m args below meth c i Qf pc L st μ := by
  have C0 := C
  obtain ⟨hx1, hb, hml, -, -, hown, hts, hF, hsh, hap⟩ := C
  cases hx
  intro ok hl H locs ls hP hS hL
  exact va_gets hx1 hb hF.2.2.1 hS hown (tw_hi hts hw) (fun x h => h) hd (k (tw_ok_cI ok) hl H locs ls hP hS hL)

theorem tw_o62_1 {a : Nat} (hw : Cond.fieldLink (tw_nm i).cls a "jdk/internal/util/Preconditions" "SIOOBE_FORMATTER" "Ljava/util/function/BiFunction;" ∈ tw_big) (C : tw_Cx g p s m args meth c i) (hd : decode (tw_by i) pc = .ok (.getstatic a, 3)) (hx : tw_gs 1 (pc + 3) L st μ = some (Sum.inl (q, L', st', μ'))) (k : tw_Kp g p l e s m args below meth c i Qf q L' st' μ') : tw_Kp g p l e s m args below meth c i Qf pc L st μ := by
  have C0 := C
  obtain ⟨hx1, hb, hml, -, -, hown, hts, hF, hsh, hap⟩ := C
  cases hx
  intro ok hl H locs ls hP hS hL
  exact va_gets hx1 hb hF.2.2.2.1 hS hown (tw_hi hts hw) (fun x h => h) hd (k (tw_ok_cons (v := tw_R 98 0) (Or.inr (Or.inr (Or.inl rfl))) ok) hl H locs ls hP hS hL)

theorem tw_o63 {a t : Nat} (hn : (tw_nm i).cls = "ThawWords$Text") (ht : t < 6) (ha : (tw_stT.getD t (0, "")).1 = a) (C : tw_Cx g p s m args meth c i) (hd : decode (tw_by i) pc = .ok (.ldc a, 2)) (hx : tw_nx (pc + 2) L (tw_R 8 t :: st) μ = some (Sum.inl (q, L', st', μ'))) (k : tw_Kp g p l e s m args below meth c i Qf q L' st' μ') : tw_Kp g p l e s m args below meth c i Qf pc L st μ := by
  have C0 := C
  obtain ⟨hx1, hb, hml, -, -, hown, hts, hF, hsh, hap⟩ := C
  cases hx
  intro ok hl H locs ls hP hS hL
  have h6 := hF.2.2.2.2.2.1 t ht
  rw [ha, ← hn] at h6
  exact va_ldcS hx1 hb hown h6 hd (k (tw_ok_cons (v := tw_R 8 t) (Or.inl ⟨rfl, ht⟩) ok) hl H locs ls hP hS hL)

theorem tw_vd_8 {n : Nat} (hsh : tw_sh g) (h : tw_vd g (tw_R 8 n)) : n < 6 := by
  rcases h with z | z | z | z
  · exact z.2
  · cases z.1
  · cases z
  · exact absurd rfl (tw_kind hsh z).1
theorem tw_vd_9 {n : Nat} (hsh : tw_sh g) (h : tw_vd g (tw_R 9 n)) : n < 6 := by
  rcases h with z | z | z | z
  · cases z.1
  · exact z.2
  · cases z
  · exact absurd rfl (tw_kind hsh z).2.1
theorem tw_o70 {a : Nat} (hw : Cond.fieldLink (tw_nm i).cls a "java/lang/String" "value" "[B" ∈ tw_big) (C : tw_Cx g p s m args meth c i) (hd : decode (tw_by i) pc = .ok (.getfield a, 3)) (hx : tw_sv (pc + 3) L st μ = some (Sum.inl (q, L', st', μ'))) (k : tw_Kp g p l e s m args below meth c i Qf q L' st' μ') : tw_Kp g p l e s m args below meth c i Qf pc L st μ := by
  have C0 := C
  obtain ⟨hx1, hb, hml, -, -, hown, hts, hF, hsh, hap⟩ := C
  unfold tw_sv at hx
  split at hx
  · rename_i k0 n r
    split at hx
    · rename_i hia
      have hia := tw_nb hia
      subst hia
      cases hx
      intro ok hl H locs ls hP hS hL
      have h6 := tw_vd_8 hsh (tw_ok_hd ok)
      exact vk_getf hx1 hb (hF.2.1.1 n h6).2.2.1 hS hown (tw_hi hts hw) (fun x h => h) hd (k (tw_ok_cons (v := tw_R 9 n) (Or.inr (Or.inl ⟨rfl, h6⟩)) (tw_ok_tl ok)) hl H locs ls hP hS hL)
    · cases hx
  · cases hx

theorem tw_o71 {a : Nat} (hw : Cond.fieldLink (tw_nm i).cls a "java/lang/String" "coder" "B" ∈ tw_big) (C : tw_Cx g p s m args meth c i) (hd : decode (tw_by i) pc = .ok (.getfield a, 3)) (hx : tw_sc (pc + 3) L st μ = some (Sum.inl (q, L', st', μ'))) (k : tw_Kp g p l e s m args below meth c i Qf q L' st' μ') : tw_Kp g p l e s m args below meth c i Qf pc L st μ := by
  have C0 := C
  obtain ⟨hx1, hb, hml, -, -, hown, hts, hF, hsh, hap⟩ := C
  unfold tw_sc at hx
  split at hx
  · rename_i k0 n r
    split at hx
    · rename_i hia
      have hia := tw_nb hia
      subst hia
      cases hx
      intro ok hl H locs ls hP hS hL
      have h6 := tw_vd_8 hsh (tw_ok_hd ok)
      exact vk_getf hx1 hb (hF.2.1.1 n h6).2.1 hS hown (tw_hi hts hw) (fun x h => h) hd (k (tw_ok_cI (tw_ok_tl ok)) hl H locs ls hP hS hL)
    · cases hx
  · cases hx

theorem tw_o72 (C : tw_Cx g p s m args meth c i) (hd : decode (tw_by i) pc = .ok (.baload, 1)) (hx : tw_bl (pc + 1) L st μ = some (Sum.inl (q, L', st', μ'))) (k : tw_Kp g p l e s m args below meth c i Qf q L' st' μ') : tw_Kp g p l e s m args below meth c i Qf pc L st μ := by
  have C0 := C
  obtain ⟨hx1, hb, hml, -, -, hown, hts, hF, hsh, hap⟩ := C
  unfold tw_bl at hx
  split at hx
  · rename_i a k0 n r
    split at hx
    · rename_i hia
      have hia := tw_nb hia
      subst hia
      split at hx
      · rename_i hin2
        cases hx
        intro ok hl H locs ls hP hS hL
        have h6 := tw_vd_9 hsh (tw_ok_hd (tw_ok_tl ok))
        exact va_tb hx1 hb (hF.2.1.1 n h6).2.2.2 hS hin2 rfl hd (k (tw_ok_cI (tw_ok_tl (tw_ok_tl ok))) hl H locs ls hP hS hL)
      · cases hx
    · cases hx
  · cases hx

theorem tw_o73 (C : tw_Cx g p s m args meth c i) (hd : decode (tw_by i) pc = .ok (.arraylength, 1)) (hx : tw_bn2 (pc + 1) L st μ = some (Sum.inl (q, L', st', μ'))) (k : tw_Kp g p l e s m args below meth c i Qf q L' st' μ') : tw_Kp g p l e s m args below meth c i Qf pc L st μ := by
  have C0 := C
  obtain ⟨hx1, hb, hml, -, -, hown, hts, hF, hsh, hap⟩ := C
  unfold tw_bn2 at hx
  split at hx
  · rename_i k0 n r
    split at hx
    · rename_i hia
      have hia := tw_nb hia
      subst hia
      cases hx
      intro ok hl H locs ls hP hS hL
      have h6 := tw_vd_9 hsh (tw_ok_hd ok)
      exact va_tlen hx1 hb (hF.2.1.1 n h6).2.2.2 hS rfl hd (k (tw_ok_cI (tw_ok_tl ok)) hl H locs ls hP hS hL)
    · cases hx
  · cases hx

theorem tw_cats {s : State} {H : Heap} (hF : tw_F g s H) (r : List tw_V) : ((r.map (tw_rv g)).map fun v => v.category).sum = (r.map tw_ca).sum := by
  rw [List.map_map]
  congr 1
  apply List.map_congr_left
  intro v _
  exact tw_rv_cat hF v
theorem tw_o76 {a : Nat} (hw1 : Cond.methodLink (tw_nm i).cls a Lib.Math.max.name ∈ tw_big) (hw2 : Cond.static Lib.Math.max.name ∈ tw_big) (hw3 : Cond.initialized "java/lang/Math" ∈ tw_big) (hw4 : Cond.code Lib.Math.max.name Lib.Math.max.code 2 (some .int) ∈ tw_big) (hr1 : 1 ≤ tw_fr i) (hr2 : 21 ≤ tw_lo i) (C : tw_Cx g p s m args meth c i) (hd : decode (tw_by i) pc = .ok (.invokestatic a, 3)) (hx : tw_mx (fun x y => if x < y then y else x) (pc + 3) L st μ = some (Sum.inl (q, L', st', μ'))) (k : tw_Kp g p l e s m args below meth c i Qf q L' st' μ') : tw_Kp g p l e s m args below meth c i Qf pc L st μ := by
  have C0 := C
  obtain ⟨hx1, hb, hml, -, -, hown, hts, hF, hsh, hap⟩ := C
  unfold tw_mx at hx
  split at hx
  · rename_i y x r
    split at hx
    · rename_i h8
      cases hx
      intro ok hl H locs ls hP hS hL
      exact va_mmax hx1 hb (by rw [hml, hL.1, hl]) hown (tw_hi hts hw1) (tw_hi hts hw2) (tw_hi hts hw3) (tw_hi hts hw4) hr1 (by rw [tw_cats hF]; show _ ≤ tw_lo i; omega) (Nat.zero_le _) (Nat.zero_le _) hd (k (tw_ok_cI (tw_ok_tl (tw_ok_tl ok))) hl H locs ls hP hS hL)
    · cases hx
  · cases hx

theorem tw_o77 {a : Nat} (hw1 : Cond.methodLink (tw_nm i).cls a Lib.Math.min.name ∈ tw_big) (hw2 : Cond.static Lib.Math.min.name ∈ tw_big) (hw3 : Cond.initialized "java/lang/Math" ∈ tw_big) (hw4 : Cond.code Lib.Math.min.name Lib.Math.min.code 2 (some .int) ∈ tw_big) (hr1 : 1 ≤ tw_fr i) (hr2 : 21 ≤ tw_lo i) (C : tw_Cx g p s m args meth c i) (hd : decode (tw_by i) pc = .ok (.invokestatic a, 3)) (hx : tw_mx (fun x y => if y < x then y else x) (pc + 3) L st μ = some (Sum.inl (q, L', st', μ'))) (k : tw_Kp g p l e s m args below meth c i Qf q L' st' μ') : tw_Kp g p l e s m args below meth c i Qf pc L st μ := by
  have C0 := C
  obtain ⟨hx1, hb, hml, -, -, hown, hts, hF, hsh, hap⟩ := C
  unfold tw_mx at hx
  split at hx
  · rename_i y x r
    split at hx
    · rename_i h8
      cases hx
      intro ok hl H locs ls hP hS hL
      exact va_mmin hx1 hb (by rw [hml, hL.1, hl]) hown (tw_hi hts hw1) (tw_hi hts hw2) (tw_hi hts hw3) (tw_hi hts hw4) hr1 (by rw [tw_cats hF]; show _ ≤ tw_lo i; omega) (Nat.zero_le _) (Nat.zero_le _) hd (k (tw_ok_cI (tw_ok_tl (tw_ok_tl ok))) hl H locs ls hP hS hL)
    · cases hx
  · cases hx

theorem tw_o78 {a : Nat} (hw1 : Cond.methodLink (tw_nm i).cls a Lib.Math.abs.name ∈ tw_big) (hw2 : Cond.static Lib.Math.abs.name ∈ tw_big) (hw3 : Cond.initialized "java/lang/Math" ∈ tw_big) (hw4 : Cond.code Lib.Math.abs.name Lib.Math.abs.code 1 (some .int) ∈ tw_big) (hr1 : 1 ≤ tw_fr i) (hr2 : 21 ≤ tw_lo i) (C : tw_Cx g p s m args meth c i) (hd : decode (tw_by i) pc = .ok (.invokestatic a, 3)) (hx : tw_ma (pc + 3) L st μ = some (Sum.inl (q, L', st', μ'))) (k : tw_Kp g p l e s m args below meth c i Qf q L' st' μ') : tw_Kp g p l e s m args below meth c i Qf pc L st μ := by
  have C0 := C
  obtain ⟨hx1, hb, hml, -, -, hown, hts, hF, hsh, hap⟩ := C
  unfold tw_ma at hx
  split at hx
  · rename_i x r
    split at hx
    · rename_i h8
      cases hx
      intro ok hl H locs ls hP hS hL
      exact va_mabs hx1 hb (by rw [hml, hL.1, hl]) hown (tw_hi hts hw1) (tw_hi hts hw2) (tw_hi hts hw3) (tw_hi hts hw4) hr1 (by rw [tw_cats hF]; show _ ≤ tw_lo i; omega) (Nat.zero_le _) (Nat.zero_le _) hd (k (tw_ok_cI (tw_ok_tl ok)) hl H locs ls hP hS hL)
    · cases hx
  · cases hx

end
end
section
def tw_Q (g : tw_E) (r : Option tw_V) (μ' : tw_M) : Array Value → State → Outcome → State → Prop := fun _ st o t => o = .returned (r.map (tw_rv g)) ∧ va_P (tw_D g) vwCl (tw_ws g μ') t.heap ∧ va_F (tw_A g) st t ∧ ∀ w, r = some w → tw_vd g w
def tw_Pr (g : tw_E) (as : List tw_V) (μ : tw_M) : Array Value → State → Prop := va_Pc (as.map (tw_rv g)) (fun U => (∀ v, v ∈ as → tw_vd g v) ∧ va_P (tw_D g) vwCl (tw_ws g μ) U.heap ∧ tw_F g U U.heap)
/-- a method's contract: called so, it answers so -/
def tw_Me (g : tw_E) (l : Launch) (i : Nat) (as : List tw_V) (μ : tw_M) (r : Option tw_V) (μ' : tw_M) : Prop := Met l (tw_nm i) (tw_wm i) (tw_rm i) (tw_Pr g as μ) (tw_Q g r μ') 0 0 (tw_A g)
theorem tw_blind {g : tw_E} {as : List tw_V} {μ : tw_M} : FrameBlind (tw_Pr g as μ) := fun a U _ mk h => ⟨h.1, h.2.1, h.2.2.1, tw_F.calling h.2.2.2⟩
theorem tw_good {w : Cond} (h : w ∈ tw_big) : (w.onTables && w.keeps) = true ∨ ∃ ty, w = .arrayClass ty := good_of_word (List.mem_filter.mp h).2
theorem tw_goodIn {i j : Nat} (h : Cond.code (tw_nm j) (tw_by j) (tw_ml j) (tw_re j) ∈ tw_big) : GoodIn (tw_wm i) (tw_wm j) := by
  intro w hw
  rcases List.mem_cons.mp hw with z | z
  · rw [z]; exact ⟨List.mem_cons_of_mem _ h, tw_good h⟩
  · exact ⟨List.mem_cons_of_mem _ z, tw_good z⟩
section
variable {g : tw_E} {p : Program} {l : Launch} {e : Env} {s : State} {m : MethodId} {args : Array Value} {below : List Frame} {meth : Method} {c : Code} {i pc q : Nat} {Qf : State → Prop} {L L' : tw_L} {st st' : List tw_V} {μ μ' : tw_M}
theorem tw_after {R : Room} {H : Heap} {locs : List Loc} {ls : Array Slot} {st0 rest : List Value} {a : Array Value} {r : Option tw_V} (hr : va_Run p l e R s m args below meth c H locs 0 0 0 0 (F0 m pc ls st0) rest (tw_Q g r μ' a) (tw_A g)) (hS : va_S (tw_A g) s.heap H locs)
    (kk : ∀ (H1 : Heap) (locs1 : List Loc), va_P (tw_D g) vwCl (tw_ws g μ') H1 → va_S (tw_A g) s.heap H1 locs1 → (∀ w, r = some w → tw_vd g w) → W p l e R s m args below meth c H1 locs1 0 0 Qf (F0 m (pc + 3) ls ((r.map (tw_rv g)).toList ++ rest))) : W p l e R s m args below meth c H locs 0 0 Qf (F0 m pc ls st0) := by
  intro T hT X
  obtain ⟨v, st₀, t, T', L, h0, X', hL, e1, e2, ⟨hv, hP, ⟨hz, hk⟩, hvd⟩, st⟩ := hr T hT X
  cases hv
  rw [h0] at hz hk
  obtain ⟨t2, a1, b1⟩ := kk T'.heap (locs ++ L) (by rw [e1]; exact hP) ⟨Nat.le_trans hS.1 (by rw [e1]; exact hz), fun q h1 h2 => by rw [e1, hk q (Nat.lt_of_lt_of_le h1 hS.1) h2]; exact hS.2.1 q h1 h2, fun q hq => by
    rcases List.mem_append.mp hq with h | h
    · exact hS.2.2 q h
    · exact hL q h⟩ hvd T' rfl X'
  exact ⟨t2, st t2 a1, b1⟩
theorem tw_toL (g : tw_E) (r : Option tw_V) (st : List tw_V) : (r.map (tw_rv g)).toList ++ st.map (tw_rv g) = (r.toList ++ st).map (tw_rv g) := by
  cases r <;> simp
theorem tw_ok_app {r : Option tw_V} {st : List tw_V} (hv : ∀ w, r = some w → tw_vd g w) (h : tw_ok g L st) : tw_ok g L (r.toList ++ st) := by
  cases r with
  | none => exact h
  | some v => exact tw_ok_cons (hv v rfl) h
theorem tw_ok_drop {n : Nat} (h : tw_ok g L st) : tw_ok g L (st.drop n) := ⟨h.1, fun w hw => h.2 w (List.mem_of_mem_drop hw)⟩
theorem tw_pre {H : Heap} {locs : List Loc} {as : List tw_V} (hv : ∀ v, v ∈ as → tw_vd g v) (hF : tw_F g s s.heap) (hP : va_P (tw_D g) vwCl (tw_ws g μ) H) (hS : va_S (tw_A g) s.heap H locs) : ∀ U : State, U.heap = H → s.WarmedH U.vm → tw_Pr g as μ (as.map (tw_rv g)).toArray U := fun U hU hW => ⟨rfl, hv, by rw [hU]; exact hP, by rw [hU]; exact tw_F.go hF hW hS.2.1⟩
theorem tw_o64 {a j na kd : Nat} {as r : List tw_V} {rv0 : Option tw_V} (hw1 : Cond.methodLink (tw_nm i).cls a (tw_nm j) ∈ tw_big) (hw2 : Cond.instanceMethod (tw_nm j) ∈ tw_big) (hw3 : Cond.selects (tw_nm j).cls (tw_nm j) (tw_nm j) ∈ tw_big) (hw4 : Cond.initialized (tw_nm j).cls ∈ tw_big) (hw5 : Cond.code (tw_nm j) (tw_by j) (tw_ml j) (tw_re j) ∈ tw_big) (hmh : tw_mh (tw_nm j) = true) (hnp : tw_np (tw_nm j) (na - 1) = true) (hrm : tw_rmk i j = true) (hkd : tw_kdk kd (tw_nm j).cls = true)
    (C : tw_Cx g p s m args meth c i) (hd : decode (tw_by i) pc = .ok (.invokevirtual a, 3)) (hx : tw_cv j na kd (pc + 3) st = some (Sum.inr (Sum.inr (j, as, r, q)))) (hM : tw_Me g l j as μ rv0 μ') (k : tw_Kp g p l e s m args below meth c i Qf q L (rv0.toList ++ r) μ') : tw_Kp g p l e s m args below meth c i Qf pc L st μ := by
  obtain ⟨hx1, hb, hml, -, -, hown, hts, hF, hsh, hap⟩ := C
  unfold tw_cv at hx
  split at hx
  · rename_i k0 n as' hrev
    split at hx
    · rename_i hk0
      have hk0 := tw_nb hk0
      subst hk0
      split at hx
      · rename_i hcond
        obtain ⟨hna, h8, hlen⟩ := hcond
        cases hx
        have hst : st = as'.reverse ++ tw_R k0 n :: st.drop na := by
          have h1 : st.take na = (tw_R k0 n :: as').reverse := by rw [← hrev, List.reverse_reverse]
          conv => lhs; rw [← List.take_append_drop na st, h1]
          simp
        intro ok hl H locs ls hP hS hL
        have hvd : tw_vd g (tw_R k0 n) := ok.2 _ (by rw [hst]; simp)
        have hcell : ∃ b : Nat, tw_rv g (tw_R k0 n) = .ref b ∧ ∃ cellB : Cell, H[b]? = some cellB ∧ cellB.vm.isStatics = false ∧ s.vm.findClass (tw_nm j).cls = some cellB.cls := by
          unfold tw_kdk at hkd
          by_cases h7 : k0 < 7
          · rw [if_pos h7] at hkd
            have hcls := of_decide_eq_true hkd
            have hin : (k0, n) ∈ tw_vs g := tw_vd_in hvd (by omega) (by omega) (by omega)
            obtain ⟨ix, -, hix⟩ := tw_ws_at (μ := μ) hin
            rw [tw_ent_o h7] at hix
            refine ⟨_, tw_rv_in hsh hin, ?_⟩
            have := va_recv hF.1 hP (tw_cl_at h7) hix
            rw [← hcls]
            exact this
          · rw [if_neg h7, Bool.and_eq_true] at hkd
            have h88 := of_decide_eq_true hkd.1
            have hcls := of_decide_eq_true hkd.2
            subst h88
            have h6 := tw_vd_8 hsh hvd
            refine ⟨tw_aK g n, rfl, ?_⟩
            rw [hcls]
            exact vk_recv hF.2.1 h6 hS
        obtain ⟨b, hb1, hb2⟩ := hcell
        unfold tw_mh at hmh
        rw [Bool.and_eq_true] at hmh
        unfold tw_rmk at hrm
        rw [Bool.and_eq_true] at hrm
        have hstack : st.map (tw_rv g) = (as'.map (tw_rv g)).reverse ++ .ref b :: (st.drop na).map (tw_rv g) := by
          conv => lhs; rw [hst]
          rw [List.map_append, List.map_cons, hb1, List.map_reverse]
        have hpre : PreV s H (tw_nm j).cls b (tw_Pr g (tw_R k0 n :: as') μ) (as'.map (tw_rv g)) := by
          refine ⟨tw_blind, hb2, fun U hU hW => ?_⟩
          have := tw_pre (as := tw_R k0 n :: as') (fun v hv => ok.2 v (by
            rw [hst]
            rcases List.mem_cons.mp hv with z | z
            · rw [z]; simp
            · simp [z])) hF hP hS U hU hW
          rw [List.map_cons, hb1] at this
          exact this
        have hcw : CallW (tw_rm i) s args (tw_nm i).cls (tw_nm j).cls a (tw_nm j) (tw_by j) (tw_ml j) (tw_re j) (tw_wm j) (tw_rm j) 0 0 (na - 1) :=
          ⟨callB_of (na - 1) hts (tw_goodIn hw5) rfl rfl rfl (tw_hi hts hw4) (tw_hi hts hw1) ⟨of_decide_eq_true hmh.1, of_decide_eq_true hmh.2, of_decide_eq_true hnp⟩ ⟨of_decide_eq_true hrm.1, of_decide_eq_true hrm.2⟩, tw_hi hts hw2, tw_hi hts hw3⟩
        have hrun := va_runV (l := l) (e := e) (below := below) (meth := meth) (locs := locs) (cells := 0) (slots := 0) (g := F0 m pc ls (st.map (tw_rv g))) (rest := (st.drop na).map (tw_rv g)) ⟨hx1, hb, hml, hown, hts⟩ hM hcw hpre rfl (by rw [List.length_map]; omega) (show ls.size = tw_ml i from hL.1.trans hl) hstack (lv_room (by rw [tw_cats hF]; exact h8)) hd ⟨Nat.le_refl 0, Nat.le_refl 0⟩
        refine tw_after hrun hS (fun H1 locs1 hP1 hS1 hv1 => ?_)
        rw [tw_toL]
        exact k (tw_ok_app hv1 (tw_ok_drop ok)) hl H1 locs1 ls hP1 hS1 hL
      · cases hx
    · cases hx
  · cases hx
theorem tw_o65 {a j na : Nat} {as r : List tw_V} {rv0 : Option tw_V} (hw1 : Cond.methodLink (tw_nm i).cls a (tw_nm j) ∈ tw_big) (hw2 : Cond.static (tw_nm j) ∈ tw_big) (hw4 : Cond.initialized (tw_nm j).cls ∈ tw_big) (hw5 : Cond.code (tw_nm j) (tw_by j) (tw_ml j) (tw_re j) ∈ tw_big) (hmh : tw_mh (tw_nm j) = true) (hnp : tw_np (tw_nm j) na = true) (hrm : tw_rmk i j = true)
    (C : tw_Cx g p s m args meth c i) (hd : decode (tw_by i) pc = .ok (.invokestatic a, 3)) (hx : tw_cs j na (pc + 3) st = some (Sum.inr (Sum.inr (j, as, r, q)))) (hM : tw_Me g l j as μ rv0 μ') (k : tw_Kp g p l e s m args below meth c i Qf q L (rv0.toList ++ r) μ') : tw_Kp g p l e s m args below meth c i Qf pc L st μ := by
  obtain ⟨hx1, hb, hml, -, -, hown, hts, hF, hsh, hap⟩ := C
  unfold tw_cs at hx
  split at hx
  · rename_i hcond
    obtain ⟨hna, h8, hlen⟩ := hcond
    cases hx
    intro ok hl H locs ls hP hS hL
    unfold tw_mh at hmh
    rw [Bool.and_eq_true] at hmh
    unfold tw_rmk at hrm
    rw [Bool.and_eq_true] at hrm
    have hstack : st.map (tw_rv g) = ((st.take na).reverse.map (tw_rv g)).reverse ++ (st.drop na).map (tw_rv g) := by
      rw [List.map_reverse, List.reverse_reverse, ← List.map_append, List.take_append_drop]
    have hcw : CallB (tw_rm i) s args (tw_nm i).cls a (tw_nm j) (tw_by j) (tw_ml j) (tw_re j) (tw_wm j) (tw_rm j) 0 0 na ∧ (Cond.static (tw_nm j)).before args s = true :=
      ⟨callB_of na hts (tw_goodIn hw5) rfl rfl rfl (tw_hi hts hw4) (tw_hi hts hw1) ⟨of_decide_eq_true hmh.1, of_decide_eq_true hmh.2, of_decide_eq_true hnp⟩ ⟨of_decide_eq_true hrm.1, of_decide_eq_true hrm.2⟩, tw_hi hts hw2⟩
    have hrun := va_runS (l := l) (e := e) (below := below) (meth := meth) (locs := locs) (cells := 0) (slots := 0) (g := F0 m pc ls (st.map (tw_rv g))) (rest := (st.drop na).map (tw_rv g)) ⟨hx1, hb, hml, hown, hts⟩ hM hcw ⟨tw_blind, tw_pre (fun v hv => ok.2 v (List.mem_of_mem_take (List.mem_reverse.mp hv))) hF hP hS⟩ rfl (by rw [List.length_map, List.length_reverse]; exact hna) (show ls.size = tw_ml i from hL.1.trans hl) hstack (lv_room (by rw [tw_cats hF]; exact h8)) hd ⟨Nat.le_refl 0, Nat.le_refl 0⟩
    refine tw_after hrun hS (fun H1 locs1 hP1 hS1 hv1 => ?_)
    rw [tw_toL]
    exact k (tw_ok_app hv1 (tw_ok_drop ok)) hl H1 locs1 ls hP1 hS1 hL
  · cases hx
theorem tw_o74 {a j na t : Nat} {as r : List tw_V} {rv0 : Option tw_V} (hnest : tw_nest[t]? = some ((tw_nm i).cls, a, tw_nm j)) (hw2 : Cond.static (tw_nm j) ∈ tw_big) (hw4 : Cond.initialized (tw_nm j).cls ∈ tw_big) (hw5 : Cond.code (tw_nm j) (tw_by j) (tw_ml j) (tw_re j) ∈ tw_big) (hmh : tw_mh (tw_nm j) = true) (hnp : tw_np (tw_nm j) na = true) (hrm : tw_rmk i j = true)
    (C : tw_Cx g p s m args meth c i) (hd : decode (tw_by i) pc = .ok (.invokestatic a, 3)) (hx : tw_cs j na (pc + 3) st = some (Sum.inr (Sum.inr (j, as, r, q)))) (hM : tw_Me g l j as μ rv0 μ') (k : tw_Kp g p l e s m args below meth c i Qf q L (rv0.toList ++ r) μ') : tw_Kp g p l e s m args below meth c i Qf pc L st μ := by
  obtain ⟨hx1, hb, hml, -, -, hown, hts, hF, hsh, hap⟩ := C
  unfold tw_cs at hx
  split at hx
  · rename_i hcond
    obtain ⟨hna, h8, hlen⟩ := hcond
    cases hx
    intro ok hl H locs ls hP hS hL
    unfold tw_mh at hmh
    rw [Bool.and_eq_true] at hmh
    unfold tw_rmk at hrm
    rw [Bool.and_eq_true] at hrm
    have hstack : st.map (tw_rv g) = ((st.take na).reverse.map (tw_rv g)).reverse ++ (st.drop na).map (tw_rv g) := by
      rw [List.map_reverse, List.reverse_reverse, ← List.map_append, List.take_append_drop]
    have hnw := hF.2.2.2.2.2.2 _ (List.mem_of_getElem? hnest)
    have hcw : va_CN (tw_rm i) s args (tw_nm i).cls a (tw_nm j) "ThawWords" (tw_by j) (tw_ml j) (tw_re j) (tw_wm j) (tw_rm j) 0 0 na ∧ (Cond.static (tw_nm j)).before args s = true ∧ True :=
      ⟨va_cnB na hts (tw_goodIn hw5) rfl rfl rfl hnw (tw_hi hts hw4) ⟨of_decide_eq_true hmh.1, of_decide_eq_true hmh.2, of_decide_eq_true hnp⟩ ⟨of_decide_eq_true hrm.1, of_decide_eq_true hrm.2⟩, tw_hi hts hw2, trivial⟩
    have hrun := va_runSN (l := l) (e := e) (below := below) (meth := meth) (locs := locs) (cells := 0) (slots := 0) (g := F0 m pc ls (st.map (tw_rv g))) (rest := (st.drop na).map (tw_rv g)) ⟨hx1, hb, hml, hown, hts⟩ hM hcw ⟨tw_blind, tw_pre (fun v hv => ok.2 v (List.mem_of_mem_take (List.mem_reverse.mp hv))) hF hP hS⟩ rfl (by rw [List.length_map, List.length_reverse]; exact hna) (show ls.size = tw_ml i from hL.1.trans hl) hstack (lv_room (by rw [tw_cats hF]; exact h8)) hd ⟨Nat.le_refl 0, Nat.le_refl 0⟩
    refine tw_after hrun hS (fun H1 locs1 hP1 hS1 hv1 => ?_)
    rw [tw_toL]
    exact k (tw_ok_app hv1 (tw_ok_drop ok)) hl H1 locs1 ls hP1 hS1 hL
  · cases hx
theorem tw_o66 {r : Option tw_V} (hre : tw_re i = some .int) (C : tw_Cx g p s m args meth c i) (hd : decode (tw_by i) pc = .ok (.ireturn, 1)) (hx : tw_ri1 st = some (Sum.inr (Sum.inl r))) : tw_Kp g p l e s m args below meth c i (MQ below (tw_Q g r μ) args s 0 0 (tw_A g)) pc L st μ := by
  obtain ⟨hx1, hb, hml, hr, hlk, hown, hts, hF, hsh, hap⟩ := C
  unfold tw_ri1 at hx
  split at hx
  · rename_i x
    cases hx
    intro ok hl H locs ls hP hS hL
    exact W.iret (v := x) hx1 hb (hr.trans hre) (fun t ht hW => ⟨rfl, by rw [ht]; exact hP, hS.F ht, fun w hw => by cases hw; exact True.intro⟩) hS.2.2 hd (hlocks := hlk)
  · cases hx
theorem tw_o75 {ty : FieldType} {r : Option tw_V} (hre : tw_re i = some ty) (hty : ty = .boolean ∨ ty = .char ∨ ty = .byte ∨ ty = .int) (C : tw_Cx g p s m args meth c i) (hd : decode (tw_by i) pc = .ok (.ireturn, 1)) (hx : tw_rn ty st = some (Sum.inr (Sum.inl r))) : tw_Kp g p l e s m args below meth c i (MQ below (tw_Q g r μ) args s 0 0 (tw_A g)) pc L st μ := by
  obtain ⟨hx1, hb, hml, hr, hlk, hown, hts, hF, hsh, hap⟩ := C
  unfold tw_rn at hx
  split at hx
  · rename_i x
    unfold tw_rt at hx
    split at hx
    · rename_i hn
      cases hx
      have hn2 : narrow ty (.int x) = .int x := by
        rcases hty with z | z | z | z <;> subst z <;> exact congrArg Value.int hn
      intro ok hl H locs ls hP hS hL
      exact W.zret (v := x) hx1 hb (hr.trans hre) hn2 (fun t ht hW => ⟨rfl, by rw [ht]; exact hP, hS.F ht, fun w hw => by cases hw; exact True.intro⟩) hS.2.2 hd (hlocks := hlk)
    · cases hx
  · cases hx
theorem tw_o67 {r : Option tw_V} (hre : tw_re i = some .long) (C : tw_Cx g p s m args meth c i) (hd : decode (tw_by i) pc = .ok (.lreturn, 1)) (hx : tw_rl st = some (Sum.inr (Sum.inl r))) : tw_Kp g p l e s m args below meth c i (MQ below (tw_Q g r μ) args s 0 0 (tw_A g)) pc L st μ := by
  obtain ⟨hx1, hb, hml, hr, hlk, hown, hts, hF, hsh, hap⟩ := C
  unfold tw_rl at hx
  split at hx
  · rename_i x
    cases hx
    intro ok hl H locs ls hP hS hL
    exact W.lret (v := x) hx1 hb (hr.trans hre) (fun t ht hW => ⟨rfl, by rw [ht]; exact hP, hS.F ht, fun w hw => by cases hw; exact True.intro⟩) hS.2.2 hd (hlocks := hlk)
  · cases hx
theorem tw_o68 {rt : FieldType} {r : Option tw_V} (hre : tw_re i = some rt) (hrt : (∃ n, rt = .object n) ∨ ∃ t, rt = .array t) (C : tw_Cx g p s m args meth c i) (hd : decode (tw_by i) pc = .ok (.areturn, 1)) (hx : tw_rr st = some (Sum.inr (Sum.inl r))) : tw_Kp g p l e s m args below meth c i (MQ below (tw_Q g r μ) args s 0 0 (tw_A g)) pc L st μ := by
  obtain ⟨hx1, hb, hml, hr, hlk, hown, hts, hF, hsh, hap⟩ := C
  unfold tw_rr at hx
  split at hx
  · rename_i x
    cases hx
    intro ok hl H locs ls hP hS hL
    exact W.aret (v := tw_rv g (Sum.inr (Sum.inr x))) hx1 hb (hr.trans hre) hrt (tw_rv_ref hF x) (fun t ht hW => ⟨rfl, by rw [ht]; exact hP, hS.F ht, fun w hw => by cases hw; exact tw_ok_hd ok⟩) hS.2.2 hd (hlocks := hlk)
  · cases hx
theorem tw_o69 {r : Option tw_V} (hre : tw_re i = none) (C : tw_Cx g p s m args meth c i) (hd : decode (tw_by i) pc = .ok (.return_, 1)) (hx : tw_rv0 st = some (Sum.inr (Sum.inl r))) : tw_Kp g p l e s m args below meth c i (MQ below (tw_Q g r μ) args s 0 0 (tw_A g)) pc L st μ := by
  obtain ⟨hx1, hb, hml, hr, hlk, hown, hts, hF, hsh, hap⟩ := C
  unfold tw_rv0 at hx
  split at hx
  · cases hx
    intro ok hl H locs ls hP hS hL
    exact W.vret hx1 hb (hr.trans hre) (fun t ht hW => ⟨rfl, by rw [ht]; exact hP, hS.F ht, fun w hw => by cases hw⟩) hS.2.2 hd (hlocks := hlk)
  · cases hx
end
end
section
theorem tw_op_in : ∀ {cd : List (Nat × tw_Op)} {pc : Nat} {o : tw_Op}, tw_op cd pc = some o → (pc, o) ∈ cd
  | [], pc, o, h => by cases h
  | (q, x) :: cd, pc, o, h => by
    rw [tw_op] at h
    split at h
    · rename_i hq
      have hq := tw_nb hq
      cases h
      rw [hq]
      exact List.mem_cons_self
    · exact List.mem_cons_of_mem _ (tw_op_in h)
theorem tw_ex_big {n w a : Nat} {b : Int} {cv : Int32} {d : Int64} {t : List Nat} {sw : List (Int32 × Nat)} {pc : Nat} {L : tw_L} {st : List tw_V} {μ : tw_M} (h : 79 ≤ n) : tw_ex (n, w, a, b, cv, d, t, sw) pc L st μ = none := by
  unfold tw_ex
  dsimp only
  split <;> first | rfl | (exfalso; omega)
def tw_isI (o : tw_O) : Prop := ∀ x, o ≠ some (Sum.inr x)
def tw_isR (o : tw_O) : Prop := ∀ x, o ≠ some (Sum.inl x)

theorem tw_qi_I {a q r : Nat} {cv : Int32} {f1 : Int32 → Option Int32} {f2 : Int32 → Int32 → Int32} {f3 : Int64 → Int64 → Int64} {f4 : Int64 → Int32 → Int64} {sw : List (Int32 × Nat)} {L : tw_L} {st : List tw_V} {μ : tw_M} : tw_isI (tw_qi a q L st μ) := by
  intro x h
  simp only [tw_qi, tw_nx] at h
  repeat' (split at h)
  all_goals (first | (cases h; done) | (exact Sum.noConfusion (Option.some.inj h)) | (simp at h; done))
theorem tw_qj_I {a q r : Nat} {cv : Int32} {f1 : Int32 → Option Int32} {f2 : Int32 → Int32 → Int32} {f3 : Int64 → Int64 → Int64} {f4 : Int64 → Int32 → Int64} {sw : List (Int32 × Nat)} {L : tw_L} {st : List tw_V} {μ : tw_M} : tw_isI (tw_qj a q L st μ) := by
  intro x h
  simp only [tw_qj, tw_nx] at h
  repeat' (split at h)
  all_goals (first | (cases h; done) | (exact Sum.noConfusion (Option.some.inj h)) | (simp at h; done))
theorem tw_qa_I {a q r : Nat} {cv : Int32} {f1 : Int32 → Option Int32} {f2 : Int32 → Int32 → Int32} {f3 : Int64 → Int64 → Int64} {f4 : Int64 → Int32 → Int64} {sw : List (Int32 × Nat)} {L : tw_L} {st : List tw_V} {μ : tw_M} : tw_isI (tw_qa a q L st μ) := by
  intro x h
  simp only [tw_qa, tw_nx] at h
  repeat' (split at h)
  all_goals (first | (cases h; done) | (exact Sum.noConfusion (Option.some.inj h)) | (simp at h; done))
theorem tw_ri_I {a q r : Nat} {cv : Int32} {f1 : Int32 → Option Int32} {f2 : Int32 → Int32 → Int32} {f3 : Int64 → Int64 → Int64} {f4 : Int64 → Int32 → Int64} {sw : List (Int32 × Nat)} {L : tw_L} {st : List tw_V} {μ : tw_M} : tw_isI (tw_ri a q L st μ) := by
  intro x h
  simp only [tw_ri, tw_nx] at h
  repeat' (split at h)
  all_goals (first | (cases h; done) | (exact Sum.noConfusion (Option.some.inj h)) | (simp at h; done))
theorem tw_rj_I {a q r : Nat} {cv : Int32} {f1 : Int32 → Option Int32} {f2 : Int32 → Int32 → Int32} {f3 : Int64 → Int64 → Int64} {f4 : Int64 → Int32 → Int64} {sw : List (Int32 × Nat)} {L : tw_L} {st : List tw_V} {μ : tw_M} : tw_isI (tw_rj a q L st μ) := by
  intro x h
  simp only [tw_rj, tw_nx] at h
  repeat' (split at h)
  all_goals (first | (cases h; done) | (exact Sum.noConfusion (Option.some.inj h)) | (simp at h; done))
theorem tw_ra_I {a q r : Nat} {cv : Int32} {f1 : Int32 → Option Int32} {f2 : Int32 → Int32 → Int32} {f3 : Int64 → Int64 → Int64} {f4 : Int64 → Int32 → Int64} {sw : List (Int32 × Nat)} {L : tw_L} {st : List tw_V} {μ : tw_M} : tw_isI (tw_ra a q L st μ) := by
  intro x h
  simp only [tw_ra, tw_nx] at h
  repeat' (split at h)
  all_goals (first | (cases h; done) | (exact Sum.noConfusion (Option.some.inj h)) | (simp at h; done))
theorem tw_ic_I {a q r : Nat} {cv : Int32} {f1 : Int32 → Option Int32} {f2 : Int32 → Int32 → Int32} {f3 : Int64 → Int64 → Int64} {f4 : Int64 → Int32 → Int64} {sw : List (Int32 × Nat)} {L : tw_L} {st : List tw_V} {μ : tw_M} : tw_isI (tw_ic a cv q L st μ) := by
  intro x h
  simp only [tw_ic, tw_nx] at h
  repeat' (split at h)
  all_goals (first | (cases h; done) | (exact Sum.noConfusion (Option.some.inj h)) | (simp at h; done))
theorem tw_q1_I {a q r : Nat} {cv : Int32} {f1 : Int32 → Option Int32} {f2 : Int32 → Int32 → Int32} {f3 : Int64 → Int64 → Int64} {f4 : Int64 → Int32 → Int64} {sw : List (Int32 × Nat)} {L : tw_L} {st : List tw_V} {μ : tw_M} : tw_isI (tw_q1 f1 q L st μ) := by
  intro x h
  simp only [tw_q1, tw_nx] at h
  repeat' (split at h)
  all_goals (first | (cases h; done) | (exact Sum.noConfusion (Option.some.inj h)) | (simp at h; done))
theorem tw_q2_I {a q r : Nat} {cv : Int32} {f1 : Int32 → Option Int32} {f2 : Int32 → Int32 → Int32} {f3 : Int64 → Int64 → Int64} {f4 : Int64 → Int32 → Int64} {sw : List (Int32 × Nat)} {L : tw_L} {st : List tw_V} {μ : tw_M} : tw_isI (tw_q2 f2 q L st μ) := by
  intro x h
  simp only [tw_q2, tw_nx] at h
  repeat' (split at h)
  all_goals (first | (cases h; done) | (exact Sum.noConfusion (Option.some.inj h)) | (simp at h; done))
theorem tw_q3_I {a q r : Nat} {cv : Int32} {f1 : Int32 → Option Int32} {f2 : Int32 → Int32 → Int32} {f3 : Int64 → Int64 → Int64} {f4 : Int64 → Int32 → Int64} {sw : List (Int32 × Nat)} {L : tw_L} {st : List tw_V} {μ : tw_M} : tw_isI (tw_q3 f3 q L st μ) := by
  intro x h
  simp only [tw_q3, tw_nx] at h
  repeat' (split at h)
  all_goals (first | (cases h; done) | (exact Sum.noConfusion (Option.some.inj h)) | (simp at h; done))
theorem tw_q4_I {a q r : Nat} {cv : Int32} {f1 : Int32 → Option Int32} {f2 : Int32 → Int32 → Int32} {f3 : Int64 → Int64 → Int64} {f4 : Int64 → Int32 → Int64} {sw : List (Int32 × Nat)} {L : tw_L} {st : List tw_V} {μ : tw_M} : tw_isI (tw_q4 f4 q L st μ) := by
  intro x h
  simp only [tw_q4, tw_nx] at h
  repeat' (split at h)
  all_goals (first | (cases h; done) | (exact Sum.noConfusion (Option.some.inj h)) | (simp at h; done))
theorem tw_qd_I {a q r : Nat} {cv : Int32} {f1 : Int32 → Option Int32} {f2 : Int32 → Int32 → Int32} {f3 : Int64 → Int64 → Int64} {f4 : Int64 → Int32 → Int64} {sw : List (Int32 × Nat)} {L : tw_L} {st : List tw_V} {μ : tw_M} : tw_isI (tw_qd f2 q L st μ) := by
  intro x h
  simp only [tw_qd, tw_nx] at h
  repeat' (split at h)
  all_goals (first | (cases h; done) | (exact Sum.noConfusion (Option.some.inj h)) | (simp at h; done))
theorem tw_ql_I {a q r : Nat} {cv : Int32} {f1 : Int32 → Option Int32} {f2 : Int32 → Int32 → Int32} {f3 : Int64 → Int64 → Int64} {f4 : Int64 → Int32 → Int64} {sw : List (Int32 × Nat)} {L : tw_L} {st : List tw_V} {μ : tw_M} : tw_isI (tw_ql f3 q L st μ) := by
  intro x h
  simp only [tw_ql, tw_nx] at h
  repeat' (split at h)
  all_goals (first | (cases h; done) | (exact Sum.noConfusion (Option.some.inj h)) | (simp at h; done))
theorem tw_du_I {a q r : Nat} {cv : Int32} {f1 : Int32 → Option Int32} {f2 : Int32 → Int32 → Int32} {f3 : Int64 → Int64 → Int64} {f4 : Int64 → Int32 → Int64} {sw : List (Int32 × Nat)} {L : tw_L} {st : List tw_V} {μ : tw_M} : tw_isI (tw_du q L st μ) := by
  intro x h
  simp only [tw_du, tw_nx] at h
  repeat' (split at h)
  all_goals (first | (cases h; done) | (exact Sum.noConfusion (Option.some.inj h)) | (simp at h; done))
theorem tw_d2_I {a q r : Nat} {cv : Int32} {f1 : Int32 → Option Int32} {f2 : Int32 → Int32 → Int32} {f3 : Int64 → Int64 → Int64} {f4 : Int64 → Int32 → Int64} {sw : List (Int32 × Nat)} {L : tw_L} {st : List tw_V} {μ : tw_M} : tw_isI (tw_d2 q L st μ) := by
  intro x h
  simp only [tw_d2, tw_nx] at h
  repeat' (split at h)
  all_goals (first | (cases h; done) | (exact Sum.noConfusion (Option.some.inj h)) | (simp at h; done))
theorem tw_po_I {a q r : Nat} {cv : Int32} {f1 : Int32 → Option Int32} {f2 : Int32 → Int32 → Int32} {f3 : Int64 → Int64 → Int64} {f4 : Int64 → Int32 → Int64} {sw : List (Int32 × Nat)} {L : tw_L} {st : List tw_V} {μ : tw_M} : tw_isI (tw_po q L st μ) := by
  intro x h
  simp only [tw_po, tw_nx] at h
  repeat' (split at h)
  all_goals (first | (cases h; done) | (exact Sum.noConfusion (Option.some.inj h)) | (simp at h; done))
theorem tw_bz_I {a q r : Nat} {cv : Int32} {f1 : Int32 → Option Int32} {f2 : Int32 → Int32 → Int32} {f3 : Int64 → Int64 → Int64} {f4 : Int64 → Int32 → Int64} {sw : List (Int32 × Nat)} {L : tw_L} {st : List tw_V} {μ : tw_M} : tw_isI (tw_bz a q r L st μ) := by
  intro x h
  simp only [tw_bz, tw_nx] at h
  repeat' (split at h)
  all_goals (first | (cases h; done) | (exact Sum.noConfusion (Option.some.inj h)) | (simp at h; done))
theorem tw_bi_I {a q r : Nat} {cv : Int32} {f1 : Int32 → Option Int32} {f2 : Int32 → Int32 → Int32} {f3 : Int64 → Int64 → Int64} {f4 : Int64 → Int32 → Int64} {sw : List (Int32 × Nat)} {L : tw_L} {st : List tw_V} {μ : tw_M} : tw_isI (tw_bi a q r L st μ) := by
  intro x h
  simp only [tw_bi, tw_nx] at h
  repeat' (split at h)
  all_goals (first | (cases h; done) | (exact Sum.noConfusion (Option.some.inj h)) | (simp at h; done))
theorem tw_bn_I {a q r : Nat} {cv : Int32} {f1 : Int32 → Option Int32} {f2 : Int32 → Int32 → Int32} {f3 : Int64 → Int64 → Int64} {f4 : Int64 → Int32 → Int64} {sw : List (Int32 × Nat)} {L : tw_L} {st : List tw_V} {μ : tw_M} : tw_isI (tw_bn q r L st μ) := by
  intro x h
  simp only [tw_bn, tw_nx] at h
  repeat' (split at h)
  all_goals (first | (cases h; done) | (exact Sum.noConfusion (Option.some.inj h)) | (simp at h; done))
theorem tw_bs_I {a q r : Nat} {cv : Int32} {f1 : Int32 → Option Int32} {f2 : Int32 → Int32 → Int32} {f3 : Int64 → Int64 → Int64} {f4 : Int64 → Int32 → Int64} {sw : List (Int32 × Nat)} {L : tw_L} {st : List tw_V} {μ : tw_M} : tw_isI (tw_bs sw q L st μ) := by
  intro x h
  simp only [tw_bs, tw_nx] at h
  repeat' (split at h)
  all_goals (first | (cases h; done) | (exact Sum.noConfusion (Option.some.inj h)) | (simp at h; done))
theorem tw_gf_I {a q r : Nat} {cv : Int32} {f1 : Int32 → Option Int32} {f2 : Int32 → Int32 → Int32} {f3 : Int64 → Int64 → Int64} {f4 : Int64 → Int32 → Int64} {sw : List (Int32 × Nat)} {L : tw_L} {st : List tw_V} {μ : tw_M} : tw_isI (tw_gf a r q L st μ) := by
  intro x h
  simp only [tw_gf, tw_nx] at h
  repeat' (split at h)
  all_goals (first | (cases h; done) | (exact Sum.noConfusion (Option.some.inj h)) | (simp at h; done))
theorem tw_pf_I {a q r : Nat} {cv : Int32} {f1 : Int32 → Option Int32} {f2 : Int32 → Int32 → Int32} {f3 : Int64 → Int64 → Int64} {f4 : Int64 → Int32 → Int64} {sw : List (Int32 × Nat)} {L : tw_L} {st : List tw_V} {μ : tw_M} : tw_isI (tw_pf a r q L st μ) := by
  intro x h
  simp only [tw_pf, tw_nx] at h
  repeat' (split at h)
  all_goals (first | (cases h; done) | (exact Sum.noConfusion (Option.some.inj h)) | (simp at h; done))
theorem tw_il_I {a q r : Nat} {cv : Int32} {f1 : Int32 → Option Int32} {f2 : Int32 → Int32 → Int32} {f3 : Int64 → Int64 → Int64} {f4 : Int64 → Int32 → Int64} {sw : List (Int32 × Nat)} {L : tw_L} {st : List tw_V} {μ : tw_M} : tw_isI (tw_il q L st μ) := by
  intro x h
  simp only [tw_il, tw_nx] at h
  repeat' (split at h)
  all_goals (first | (cases h; done) | (exact Sum.noConfusion (Option.some.inj h)) | (simp at h; done))
theorem tw_is_I {a q r : Nat} {cv : Int32} {f1 : Int32 → Option Int32} {f2 : Int32 → Int32 → Int32} {f3 : Int64 → Int64 → Int64} {f4 : Int64 → Int32 → Int64} {sw : List (Int32 × Nat)} {L : tw_L} {st : List tw_V} {μ : tw_M} : tw_isI (tw_is q L st μ) := by
  intro x h
  simp only [tw_is, tw_nx] at h
  repeat' (split at h)
  all_goals (first | (cases h; done) | (exact Sum.noConfusion (Option.some.inj h)) | (simp at h; done))
theorem tw_zl_I {a q r : Nat} {cv : Int32} {f1 : Int32 → Option Int32} {f2 : Int32 → Int32 → Int32} {f3 : Int64 → Int64 → Int64} {f4 : Int64 → Int32 → Int64} {sw : List (Int32 × Nat)} {L : tw_L} {st : List tw_V} {μ : tw_M} : tw_isI (tw_zl q L st μ) := by
  intro x h
  simp only [tw_zl, tw_nx] at h
  repeat' (split at h)
  all_goals (first | (cases h; done) | (exact Sum.noConfusion (Option.some.inj h)) | (simp at h; done))
theorem tw_zs_I {a q r : Nat} {cv : Int32} {f1 : Int32 → Option Int32} {f2 : Int32 → Int32 → Int32} {f3 : Int64 → Int64 → Int64} {f4 : Int64 → Int32 → Int64} {sw : List (Int32 × Nat)} {L : tw_L} {st : List tw_V} {μ : tw_M} : tw_isI (tw_zs q L st μ) := by
  intro x h
  simp only [tw_zs, tw_nx] at h
  repeat' (split at h)
  all_goals (first | (cases h; done) | (exact Sum.noConfusion (Option.some.inj h)) | (simp at h; done))
theorem tw_ql2_I {a q r : Nat} {cv : Int32} {f1 : Int32 → Option Int32} {f2 : Int32 → Int32 → Int32} {f3 : Int64 → Int64 → Int64} {f4 : Int64 → Int32 → Int64} {sw : List (Int32 × Nat)} {L : tw_L} {st : List tw_V} {μ : tw_M} : tw_isI (tw_ql2 q L st μ) := by
  intro x h
  simp only [tw_ql2, tw_nx] at h
  repeat' (split at h)
  all_goals (first | (cases h; done) | (exact Sum.noConfusion (Option.some.inj h)) | (simp at h; done))
theorem tw_an_I {a q r : Nat} {cv : Int32} {f1 : Int32 → Option Int32} {f2 : Int32 → Int32 → Int32} {f3 : Int64 → Int64 → Int64} {f4 : Int64 → Int32 → Int64} {sw : List (Int32 × Nat)} {L : tw_L} {st : List tw_V} {μ : tw_M} : tw_isI (tw_an q L st μ) := by
  intro x h
  simp only [tw_an, tw_nx] at h
  repeat' (split at h)
  all_goals (first | (cases h; done) | (exact Sum.noConfusion (Option.some.inj h)) | (simp at h; done))
theorem tw_bl_I {a q r : Nat} {cv : Int32} {f1 : Int32 → Option Int32} {f2 : Int32 → Int32 → Int32} {f3 : Int64 → Int64 → Int64} {f4 : Int64 → Int32 → Int64} {sw : List (Int32 × Nat)} {L : tw_L} {st : List tw_V} {μ : tw_M} : tw_isI (tw_bl q L st μ) := by
  intro x h
  simp only [tw_bl, tw_nx] at h
  repeat' (split at h)
  all_goals (first | (cases h; done) | (exact Sum.noConfusion (Option.some.inj h)) | (simp at h; done))
theorem tw_bn2_I {a q r : Nat} {cv : Int32} {f1 : Int32 → Option Int32} {f2 : Int32 → Int32 → Int32} {f3 : Int64 → Int64 → Int64} {f4 : Int64 → Int32 → Int64} {sw : List (Int32 × Nat)} {L : tw_L} {st : List tw_V} {μ : tw_M} : tw_isI (tw_bn2 q L st μ) := by
  intro x h
  simp only [tw_bn2, tw_nx] at h
  repeat' (split at h)
  all_goals (first | (cases h; done) | (exact Sum.noConfusion (Option.some.inj h)) | (simp at h; done))
theorem tw_sv_I {a q r : Nat} {cv : Int32} {f1 : Int32 → Option Int32} {f2 : Int32 → Int32 → Int32} {f3 : Int64 → Int64 → Int64} {f4 : Int64 → Int32 → Int64} {sw : List (Int32 × Nat)} {L : tw_L} {st : List tw_V} {μ : tw_M} : tw_isI (tw_sv q L st μ) := by
  intro x h
  simp only [tw_sv, tw_nx] at h
  repeat' (split at h)
  all_goals (first | (cases h; done) | (exact Sum.noConfusion (Option.some.inj h)) | (simp at h; done))
theorem tw_sc_I {a q r : Nat} {cv : Int32} {f1 : Int32 → Option Int32} {f2 : Int32 → Int32 → Int32} {f3 : Int64 → Int64 → Int64} {f4 : Int64 → Int32 → Int64} {sw : List (Int32 × Nat)} {L : tw_L} {st : List tw_V} {μ : tw_M} : tw_isI (tw_sc q L st μ) := by
  intro x h
  simp only [tw_sc, tw_nx] at h
  repeat' (split at h)
  all_goals (first | (cases h; done) | (exact Sum.noConfusion (Option.some.inj h)) | (simp at h; done))
theorem tw_gs_I {a q r : Nat} {cv : Int32} {f1 : Int32 → Option Int32} {f2 : Int32 → Int32 → Int32} {f3 : Int64 → Int64 → Int64} {f4 : Int64 → Int32 → Int64} {sw : List (Int32 × Nat)} {L : tw_L} {st : List tw_V} {μ : tw_M} : tw_isI (tw_gs a q L st μ) := by
  intro x h
  simp only [tw_gs, tw_nx] at h
  repeat' (split at h)
  all_goals (first | (cases h; done) | (exact Sum.noConfusion (Option.some.inj h)) | (simp at h; done))
theorem tw_mx_I {a q r : Nat} {cv : Int32} {f1 : Int32 → Option Int32} {f2 : Int32 → Int32 → Int32} {f3 : Int64 → Int64 → Int64} {f4 : Int64 → Int32 → Int64} {sw : List (Int32 × Nat)} {L : tw_L} {st : List tw_V} {μ : tw_M} : tw_isI (tw_mx f2 q L st μ) := by
  intro x h
  simp only [tw_mx, tw_nx] at h
  repeat' (split at h)
  all_goals (first | (cases h; done) | (exact Sum.noConfusion (Option.some.inj h)) | (simp at h; done))
theorem tw_ma_I {a q r : Nat} {cv : Int32} {f1 : Int32 → Option Int32} {f2 : Int32 → Int32 → Int32} {f3 : Int64 → Int64 → Int64} {f4 : Int64 → Int32 → Int64} {sw : List (Int32 × Nat)} {L : tw_L} {st : List tw_V} {μ : tw_M} : tw_isI (tw_ma q L st μ) := by
  intro x h
  simp only [tw_ma, tw_nx] at h
  repeat' (split at h)
  all_goals (first | (cases h; done) | (exact Sum.noConfusion (Option.some.inj h)) | (simp at h; done))
theorem tw_nx_I {a q r : Nat} {cv : Int32} {f1 : Int32 → Option Int32} {f2 : Int32 → Int32 → Int32} {f3 : Int64 → Int64 → Int64} {f4 : Int64 → Int32 → Int64} {sw : List (Int32 × Nat)} {L : tw_L} {st : List tw_V} {μ : tw_M} : tw_isI (tw_nx q L st μ) := by
  intro x h
  simp only [tw_nx, tw_nx] at h
  repeat' (split at h)
  all_goals (first | (cases h; done) | (exact Sum.noConfusion (Option.some.inj h)) | (simp at h; done))
theorem tw_cv_R {a q r w : Nat} {ty : FieldType} {st : List tw_V} : tw_isR (tw_cv a q r w st) := by
  intro x h
  simp only [tw_cv, tw_rt] at h
  repeat' (split at h)
  all_goals (first | (cases h; done) | (exact Sum.noConfusion (Option.some.inj h)) | (simp at h; done))
theorem tw_cs_R {a q r w : Nat} {ty : FieldType} {st : List tw_V} : tw_isR (tw_cs a q r st) := by
  intro x h
  simp only [tw_cs, tw_rt] at h
  repeat' (split at h)
  all_goals (first | (cases h; done) | (exact Sum.noConfusion (Option.some.inj h)) | (simp at h; done))
theorem tw_ri1_R {a q r w : Nat} {ty : FieldType} {st : List tw_V} : tw_isR (tw_ri1 st) := by
  intro x h
  simp only [tw_ri1, tw_rt] at h
  repeat' (split at h)
  all_goals (first | (cases h; done) | (exact Sum.noConfusion (Option.some.inj h)) | (simp at h; done))
theorem tw_rn_R {a q r w : Nat} {ty : FieldType} {st : List tw_V} : tw_isR (tw_rn ty st) := by
  intro x h
  simp only [tw_rn, tw_rt] at h
  repeat' (split at h)
  all_goals (first | (cases h; done) | (exact Sum.noConfusion (Option.some.inj h)) | (simp at h; done))
theorem tw_rl_R {a q r w : Nat} {ty : FieldType} {st : List tw_V} : tw_isR (tw_rl st) := by
  intro x h
  simp only [tw_rl, tw_rt] at h
  repeat' (split at h)
  all_goals (first | (cases h; done) | (exact Sum.noConfusion (Option.some.inj h)) | (simp at h; done))
theorem tw_rr_R {a q r w : Nat} {ty : FieldType} {st : List tw_V} : tw_isR (tw_rr st) := by
  intro x h
  simp only [tw_rr, tw_rt] at h
  repeat' (split at h)
  all_goals (first | (cases h; done) | (exact Sum.noConfusion (Option.some.inj h)) | (simp at h; done))
theorem tw_rv0_R {a q r w : Nat} {ty : FieldType} {st : List tw_V} : tw_isR (tw_rv0 st) := by
  intro x h
  simp only [tw_rv0, tw_rt] at h
  repeat' (split at h)
  all_goals (first | (cases h; done) | (exact Sum.noConfusion (Option.some.inj h)) | (simp at h; done))
section
variable {g : tw_E} {p : Program} {l : Launch} {e : Env} {s : State} {m : MethodId} {args : Array Value} {below : List Frame} {meth : Method} {c : Code} {i pc q : Nat} {Qf : State → Prop} {L L' : tw_L} {st st' : List tw_V} {μ μ' : tw_M}
theorem tw_cv_j {j na kd q : Nat} {st : List tw_V} {j' : Nat} {as r : List tw_V} {q' : Nat} (h : tw_cv j na kd q st = some (Sum.inr (Sum.inr (j', as, r, q')))) : j' = j := by
  unfold tw_cv at h
  repeat' (split at h)
  all_goals first | (cases h; rfl) | cases h
theorem tw_cv_l {j na kd q : Nat} {st : List tw_V} {j' : Nat} {as r : List tw_V} {q' : Nat} (h : tw_cv j na kd q st = some (Sum.inr (Sum.inr (j', as, r, q')))) : (tw_el as).length ≤ tw_ml j' := by
  unfold tw_cv at h
  split at h
  · split at h
    · split at h
      · rename_i hc
        cases h
        exact hc.2.2
      · cases h
    · cases h
  · cases h
theorem tw_cs_l {j na q : Nat} {st : List tw_V} {j' : Nat} {as r : List tw_V} {q' : Nat} (h : tw_cs j na q st = some (Sum.inr (Sum.inr (j', as, r, q')))) : (tw_el as).length ≤ tw_ml j' := by
  unfold tw_cs at h
  split at h
  · rename_i hc
    cases h
    exact hc.2.2
  · cases h
theorem tw_cs_j {j na q : Nat} {st : List tw_V} {j' : Nat} {as r : List tw_V} {q' : Nat} (h : tw_cs j na q st = some (Sum.inr (Sum.inr (j', as, r, q')))) : j' = j := by
  unfold tw_cs at h
  repeat' (split at h)
  all_goals first | (cases h; rfl) | cases h

set_option maxHeartbeats 4000000 in
theorem tw_step {o : tw_Op} {out : (Nat × tw_L × List tw_V × tw_M) ⊕ (Option tw_V ⊕ (Nat × List tw_V × List tw_V × Nat))} (hk : tw_opk i pc o = true) (C : tw_Cx g p s m args meth c i) (hx : tw_ex o pc L st μ = some out)
    (hnx : ∀ q L' st' μ', out = Sum.inl (q, L', st', μ') → tw_Kp g p l e s m args below meth c i Qf q L' st' μ') (hrt : ∀ r, out = Sum.inr (Sum.inl r) → Qf = MQ below (tw_Q g r μ) args s 0 0 (tw_A g)) (hcl : ∀ j as r q, j < tw_tab.length → (tw_el as).length ≤ tw_ml j → out = Sum.inr (Sum.inr (j, as, r, q)) → ∃ rv0 μ', tw_Me g l j as μ rv0 μ' ∧ tw_Kp g p l e s m args below meth c i Qf q L (rv0.toList ++ r) μ') : tw_Kp g p l e s m args below meth c i Qf pc L st μ := by
  obtain ⟨n, w, a, b, cv, d, t, sw⟩ := o
  by_cases hn : n < 79
  · match n, hn, hk, hx with
    | 0, _, hk, hx =>
      have hk2 : (decide (w = 1) && decide (Int32.ofInt b = cv) && decide (decode (tw_by i) pc = .ok (.iconst b, w))) = true := hk
      simp only [Bool.and_eq_true, decide_eq_true_eq] at hk2
      obtain ⟨⟨hw, h1⟩, hd⟩ := hk2
      subst hw
      rcases out with ⟨q, L', st', μ'⟩ | x
      · exact tw_o0 h1 C hd hx (hnx _ _ _ _ rfl)
      · cases hx
    | 1, _, hk, hx =>
      have hk2 : (decide (w = 2) && decide ((Int8.ofInt b).toInt32 = cv) && decide (decode (tw_by i) pc = .ok (.bipush b, w))) = true := hk
      simp only [Bool.and_eq_true, decide_eq_true_eq] at hk2
      obtain ⟨⟨hw, h1⟩, hd⟩ := hk2
      subst hw
      rcases out with ⟨q, L', st', μ'⟩ | x
      · exact tw_o1 h1 C hd hx (hnx _ _ _ _ rfl)
      · cases hx
    | 2, _, hk, hx =>
      have hk2 : (decide (w = 3) && decide ((Int16.ofInt b).toInt32 = cv) && decide (decode (tw_by i) pc = .ok (.sipush b, w))) = true := hk
      simp only [Bool.and_eq_true, decide_eq_true_eq] at hk2
      obtain ⟨⟨hw, h1⟩, hd⟩ := hk2
      subst hw
      rcases out with ⟨q, L', st', μ'⟩ | x
      · exact tw_o2 h1 C hd hx (hnx _ _ _ _ rfl)
      · cases hx
    | 3, _, hk, hx =>
      have hk2 : (decide (w = 2) && tw_g (tw_t t 0) (.constant (tw_nm i).cls a cv) && decide (decode (tw_by i) pc = .ok (.ldc a, w))) = true := hk
      simp only [Bool.and_eq_true, decide_eq_true_eq] at hk2
      obtain ⟨⟨hw, h1⟩, hd⟩ := hk2
      subst hw
      rcases out with ⟨q, L', st', μ'⟩ | x
      · exact tw_o3 (tw_g_in h1) C hd hx (hnx _ _ _ _ rfl)
      · cases hx
    | 4, _, hk, hx =>
      have hk2 : (decide (w = 1) && (decide (a < 2) && decide (Int64.ofNat a = d)) && decide (decode (tw_by i) pc = .ok (.lconst (Fin.ofNat 2 a), w))) = true := hk
      simp only [Bool.and_eq_true, decide_eq_true_eq] at hk2
      obtain ⟨⟨hw, ⟨h1, h2⟩⟩, hd⟩ := hk2
      subst hw
      rcases out with ⟨q, L', st', μ'⟩ | x
      · exact tw_o4 h1 h2 C hd hx (hnx _ _ _ _ rfl)
      · cases hx
    | 5, _, hk, hx =>
      have hk2 : (decide (w = 3) && tw_g (tw_t t 0) (.constantLong (tw_nm i).cls a d) && decide (decode (tw_by i) pc = .ok (.ldc2_w a, w))) = true := hk
      simp only [Bool.and_eq_true, decide_eq_true_eq] at hk2
      obtain ⟨⟨hw, h1⟩, hd⟩ := hk2
      subst hw
      rcases out with ⟨q, L', st', μ'⟩ | x
      · exact tw_o5 (tw_g_in h1) C hd hx (hnx _ _ _ _ rfl)
      · cases hx
    | 6, _, hk, hx =>
      have hk2 : (decide (w = 1) && true && decide (decode (tw_by i) pc = .ok (.aconst_null, w))) = true := hk
      simp only [Bool.and_eq_true, decide_eq_true_eq] at hk2
      obtain ⟨⟨hw, -⟩, hd⟩ := hk2
      subst hw
      rcases out with ⟨q, L', st', μ'⟩ | x
      · exact tw_o6 C hd hx (hnx _ _ _ _ rfl)
      · cases hx
    | 7, _, hk, hx =>
      have hk2 : (decide (w = 1) && decide (a < 4) && decide (decode (tw_by i) pc = .ok (.iload_n (Fin.ofNat 4 a), w))) = true := hk
      simp only [Bool.and_eq_true, decide_eq_true_eq] at hk2
      obtain ⟨⟨hw, h1⟩, hd⟩ := hk2
      subst hw
      rcases out with ⟨q, L', st', μ'⟩ | x
      · exact tw_o7 h1 C hd hx (hnx _ _ _ _ rfl)
      · exact absurd hx (tw_qi_I (a := _) (q := _) (r := 0) (cv := 0) (f1 := fun _ => none) (f2 := fun x _ => x) (f3 := fun x _ => x) (f4 := fun x _ => x) (sw := []) x)
    | 8, _, hk, hx =>
      have hk2 : (decide (w = 2) && true && decide (decode (tw_by i) pc = .ok (.iload a, w))) = true := hk
      simp only [Bool.and_eq_true, decide_eq_true_eq] at hk2
      obtain ⟨⟨hw, -⟩, hd⟩ := hk2
      subst hw
      rcases out with ⟨q, L', st', μ'⟩ | x
      · exact tw_o8 C hd hx (hnx _ _ _ _ rfl)
      · exact absurd hx (tw_qi_I (a := _) (q := _) (r := 0) (cv := 0) (f1 := fun _ => none) (f2 := fun x _ => x) (f3 := fun x _ => x) (f4 := fun x _ => x) (sw := []) x)
    | 9, _, hk, hx =>
      have hk2 : (decide (w = 1) && decide (a < 4) && decide (decode (tw_by i) pc = .ok (.lload_n (Fin.ofNat 4 a), w))) = true := hk
      simp only [Bool.and_eq_true, decide_eq_true_eq] at hk2
      obtain ⟨⟨hw, h1⟩, hd⟩ := hk2
      subst hw
      rcases out with ⟨q, L', st', μ'⟩ | x
      · exact tw_o9 h1 C hd hx (hnx _ _ _ _ rfl)
      · exact absurd hx (tw_qj_I (a := _) (q := _) (r := 0) (cv := 0) (f1 := fun _ => none) (f2 := fun x _ => x) (f3 := fun x _ => x) (f4 := fun x _ => x) (sw := []) x)
    | 10, _, hk, hx =>
      have hk2 : (decide (w = 2) && true && decide (decode (tw_by i) pc = .ok (.lload a, w))) = true := hk
      simp only [Bool.and_eq_true, decide_eq_true_eq] at hk2
      obtain ⟨⟨hw, -⟩, hd⟩ := hk2
      subst hw
      rcases out with ⟨q, L', st', μ'⟩ | x
      · exact tw_o10 C hd hx (hnx _ _ _ _ rfl)
      · exact absurd hx (tw_qj_I (a := _) (q := _) (r := 0) (cv := 0) (f1 := fun _ => none) (f2 := fun x _ => x) (f3 := fun x _ => x) (f4 := fun x _ => x) (sw := []) x)
    | 11, _, hk, hx =>
      have hk2 : (decide (w = 1) && decide (a < 4) && decide (decode (tw_by i) pc = .ok (.aload_n (Fin.ofNat 4 a), w))) = true := hk
      simp only [Bool.and_eq_true, decide_eq_true_eq] at hk2
      obtain ⟨⟨hw, h1⟩, hd⟩ := hk2
      subst hw
      rcases out with ⟨q, L', st', μ'⟩ | x
      · exact tw_o11 h1 C hd hx (hnx _ _ _ _ rfl)
      · exact absurd hx (tw_qa_I (a := _) (q := _) (r := 0) (cv := 0) (f1 := fun _ => none) (f2 := fun x _ => x) (f3 := fun x _ => x) (f4 := fun x _ => x) (sw := []) x)
    | 12, _, hk, hx =>
      have hk2 : (decide (w = 2) && true && decide (decode (tw_by i) pc = .ok (.aload a, w))) = true := hk
      simp only [Bool.and_eq_true, decide_eq_true_eq] at hk2
      obtain ⟨⟨hw, -⟩, hd⟩ := hk2
      subst hw
      rcases out with ⟨q, L', st', μ'⟩ | x
      · exact tw_o12 C hd hx (hnx _ _ _ _ rfl)
      · exact absurd hx (tw_qa_I (a := _) (q := _) (r := 0) (cv := 0) (f1 := fun _ => none) (f2 := fun x _ => x) (f3 := fun x _ => x) (f4 := fun x _ => x) (sw := []) x)
    | 13, _, hk, hx =>
      have hk2 : (decide (w = 1) && decide (a < 4) && decide (decode (tw_by i) pc = .ok (.istore_n (Fin.ofNat 4 a), w))) = true := hk
      simp only [Bool.and_eq_true, decide_eq_true_eq] at hk2
      obtain ⟨⟨hw, h1⟩, hd⟩ := hk2
      subst hw
      rcases out with ⟨q, L', st', μ'⟩ | x
      · exact tw_o13 h1 C hd hx (hnx _ _ _ _ rfl)
      · exact absurd hx (tw_ri_I (a := _) (q := _) (r := 0) (cv := 0) (f1 := fun _ => none) (f2 := fun x _ => x) (f3 := fun x _ => x) (f4 := fun x _ => x) (sw := []) x)
    | 14, _, hk, hx =>
      have hk2 : (decide (w = 2) && true && decide (decode (tw_by i) pc = .ok (.istore a, w))) = true := hk
      simp only [Bool.and_eq_true, decide_eq_true_eq] at hk2
      obtain ⟨⟨hw, -⟩, hd⟩ := hk2
      subst hw
      rcases out with ⟨q, L', st', μ'⟩ | x
      · exact tw_o14 C hd hx (hnx _ _ _ _ rfl)
      · exact absurd hx (tw_ri_I (a := _) (q := _) (r := 0) (cv := 0) (f1 := fun _ => none) (f2 := fun x _ => x) (f3 := fun x _ => x) (f4 := fun x _ => x) (sw := []) x)
    | 15, _, hk, hx =>
      have hk2 : (decide (w = 1) && decide (a < 4) && decide (decode (tw_by i) pc = .ok (.lstore_n (Fin.ofNat 4 a), w))) = true := hk
      simp only [Bool.and_eq_true, decide_eq_true_eq] at hk2
      obtain ⟨⟨hw, h1⟩, hd⟩ := hk2
      subst hw
      rcases out with ⟨q, L', st', μ'⟩ | x
      · exact tw_o15 h1 C hd hx (hnx _ _ _ _ rfl)
      · exact absurd hx (tw_rj_I (a := _) (q := _) (r := 0) (cv := 0) (f1 := fun _ => none) (f2 := fun x _ => x) (f3 := fun x _ => x) (f4 := fun x _ => x) (sw := []) x)
    | 16, _, hk, hx =>
      have hk2 : (decide (w = 2) && true && decide (decode (tw_by i) pc = .ok (.lstore a, w))) = true := hk
      simp only [Bool.and_eq_true, decide_eq_true_eq] at hk2
      obtain ⟨⟨hw, -⟩, hd⟩ := hk2
      subst hw
      rcases out with ⟨q, L', st', μ'⟩ | x
      · exact tw_o16 C hd hx (hnx _ _ _ _ rfl)
      · exact absurd hx (tw_rj_I (a := _) (q := _) (r := 0) (cv := 0) (f1 := fun _ => none) (f2 := fun x _ => x) (f3 := fun x _ => x) (f4 := fun x _ => x) (sw := []) x)
    | 17, _, hk, hx =>
      have hk2 : (decide (w = 1) && decide (a < 4) && decide (decode (tw_by i) pc = .ok (.astore_n (Fin.ofNat 4 a), w))) = true := hk
      simp only [Bool.and_eq_true, decide_eq_true_eq] at hk2
      obtain ⟨⟨hw, h1⟩, hd⟩ := hk2
      subst hw
      rcases out with ⟨q, L', st', μ'⟩ | x
      · exact tw_o17 h1 C hd hx (hnx _ _ _ _ rfl)
      · exact absurd hx (tw_ra_I (a := _) (q := _) (r := 0) (cv := 0) (f1 := fun _ => none) (f2 := fun x _ => x) (f3 := fun x _ => x) (f4 := fun x _ => x) (sw := []) x)
    | 18, _, hk, hx =>
      have hk2 : (decide (w = 2) && true && decide (decode (tw_by i) pc = .ok (.astore a, w))) = true := hk
      simp only [Bool.and_eq_true, decide_eq_true_eq] at hk2
      obtain ⟨⟨hw, -⟩, hd⟩ := hk2
      subst hw
      rcases out with ⟨q, L', st', μ'⟩ | x
      · exact tw_o18 C hd hx (hnx _ _ _ _ rfl)
      · exact absurd hx (tw_ra_I (a := _) (q := _) (r := 0) (cv := 0) (f1 := fun _ => none) (f2 := fun x _ => x) (f3 := fun x _ => x) (f4 := fun x _ => x) (sw := []) x)
    | 19, _, hk, hx =>
      have hk2 : (decide (w = 3) && decide (Int32.ofInt b = cv) && decide (decode (tw_by i) pc = .ok (.iinc a b, w))) = true := hk
      simp only [Bool.and_eq_true, decide_eq_true_eq] at hk2
      obtain ⟨⟨hw, h1⟩, hd⟩ := hk2
      subst hw
      rcases out with ⟨q, L', st', μ'⟩ | x
      · exact tw_o19 h1 C hd hx (hnx _ _ _ _ rfl)
      · exact absurd hx (tw_ic_I (a := _) (q := _) (r := 0) (cv := _) (f1 := fun _ => none) (f2 := fun x _ => x) (f3 := fun x _ => x) (f4 := fun x _ => x) (sw := []) x)
    | 20, _, hk, hx =>
      have hk2 : (decide (w = 1) && true && decide (decode (tw_by i) pc = .ok (.iadd, w))) = true := hk
      simp only [Bool.and_eq_true, decide_eq_true_eq] at hk2
      obtain ⟨⟨hw, -⟩, hd⟩ := hk2
      subst hw
      rcases out with ⟨q, L', st', μ'⟩ | x
      · exact tw_o20 C hd hx (hnx _ _ _ _ rfl)
      · exact absurd hx (tw_q2_I (a := 0) (q := _) (r := 0) (cv := 0) (f1 := fun _ => none) (f2 := _) (f3 := fun x _ => x) (f4 := fun x _ => x) (sw := []) x)
    | 21, _, hk, hx =>
      have hk2 : (decide (w = 1) && true && decide (decode (tw_by i) pc = .ok (.isub, w))) = true := hk
      simp only [Bool.and_eq_true, decide_eq_true_eq] at hk2
      obtain ⟨⟨hw, -⟩, hd⟩ := hk2
      subst hw
      rcases out with ⟨q, L', st', μ'⟩ | x
      · exact tw_o21 C hd hx (hnx _ _ _ _ rfl)
      · exact absurd hx (tw_q2_I (a := 0) (q := _) (r := 0) (cv := 0) (f1 := fun _ => none) (f2 := _) (f3 := fun x _ => x) (f4 := fun x _ => x) (sw := []) x)
    | 22, _, hk, hx =>
      have hk2 : (decide (w = 1) && true && decide (decode (tw_by i) pc = .ok (.imul, w))) = true := hk
      simp only [Bool.and_eq_true, decide_eq_true_eq] at hk2
      obtain ⟨⟨hw, -⟩, hd⟩ := hk2
      subst hw
      rcases out with ⟨q, L', st', μ'⟩ | x
      · exact tw_o22 C hd hx (hnx _ _ _ _ rfl)
      · exact absurd hx (tw_q2_I (a := 0) (q := _) (r := 0) (cv := 0) (f1 := fun _ => none) (f2 := _) (f3 := fun x _ => x) (f4 := fun x _ => x) (sw := []) x)
    | 23, _, hk, hx =>
      have hk2 : (decide (w = 1) && true && decide (decode (tw_by i) pc = .ok (.idiv, w))) = true := hk
      simp only [Bool.and_eq_true, decide_eq_true_eq] at hk2
      obtain ⟨⟨hw, -⟩, hd⟩ := hk2
      subst hw
      rcases out with ⟨q, L', st', μ'⟩ | x
      · exact tw_o23 C hd hx (hnx _ _ _ _ rfl)
      · exact absurd hx (tw_qd_I (a := 0) (q := _) (r := 0) (cv := 0) (f1 := fun _ => none) (f2 := _) (f3 := fun x _ => x) (f4 := fun x _ => x) (sw := []) x)
    | 24, _, hk, hx =>
      have hk2 : (decide (w = 1) && true && decide (decode (tw_by i) pc = .ok (.irem, w))) = true := hk
      simp only [Bool.and_eq_true, decide_eq_true_eq] at hk2
      obtain ⟨⟨hw, -⟩, hd⟩ := hk2
      subst hw
      rcases out with ⟨q, L', st', μ'⟩ | x
      · exact tw_o24 C hd hx (hnx _ _ _ _ rfl)
      · exact absurd hx (tw_qd_I (a := 0) (q := _) (r := 0) (cv := 0) (f1 := fun _ => none) (f2 := _) (f3 := fun x _ => x) (f4 := fun x _ => x) (sw := []) x)
    | 25, _, hk, hx =>
      have hk2 : (decide (w = 1) && true && decide (decode (tw_by i) pc = .ok (.iand, w))) = true := hk
      simp only [Bool.and_eq_true, decide_eq_true_eq] at hk2
      obtain ⟨⟨hw, -⟩, hd⟩ := hk2
      subst hw
      rcases out with ⟨q, L', st', μ'⟩ | x
      · exact tw_o25 C hd hx (hnx _ _ _ _ rfl)
      · exact absurd hx (tw_q2_I (a := 0) (q := _) (r := 0) (cv := 0) (f1 := fun _ => none) (f2 := _) (f3 := fun x _ => x) (f4 := fun x _ => x) (sw := []) x)
    | 26, _, hk, hx =>
      have hk2 : (decide (w = 1) && true && decide (decode (tw_by i) pc = .ok (.ior, w))) = true := hk
      simp only [Bool.and_eq_true, decide_eq_true_eq] at hk2
      obtain ⟨⟨hw, -⟩, hd⟩ := hk2
      subst hw
      rcases out with ⟨q, L', st', μ'⟩ | x
      · exact tw_o26 C hd hx (hnx _ _ _ _ rfl)
      · exact absurd hx (tw_q2_I (a := 0) (q := _) (r := 0) (cv := 0) (f1 := fun _ => none) (f2 := _) (f3 := fun x _ => x) (f4 := fun x _ => x) (sw := []) x)
    | 27, _, hk, hx =>
      cases hx
    | 28, _, hk, hx =>
      have hk2 : (decide (w = 1) && true && decide (decode (tw_by i) pc = .ok (.ishl, w))) = true := hk
      simp only [Bool.and_eq_true, decide_eq_true_eq] at hk2
      obtain ⟨⟨hw, -⟩, hd⟩ := hk2
      subst hw
      rcases out with ⟨q, L', st', μ'⟩ | x
      · exact tw_o28 C hd hx (hnx _ _ _ _ rfl)
      · exact absurd hx (tw_q2_I (a := 0) (q := _) (r := 0) (cv := 0) (f1 := fun _ => none) (f2 := _) (f3 := fun x _ => x) (f4 := fun x _ => x) (sw := []) x)
    | 29, _, hk, hx =>
      have hk2 : (decide (w = 1) && true && decide (decode (tw_by i) pc = .ok (.ishr, w))) = true := hk
      simp only [Bool.and_eq_true, decide_eq_true_eq] at hk2
      obtain ⟨⟨hw, -⟩, hd⟩ := hk2
      subst hw
      rcases out with ⟨q, L', st', μ'⟩ | x
      · exact tw_o29 C hd hx (hnx _ _ _ _ rfl)
      · exact absurd hx (tw_q2_I (a := 0) (q := _) (r := 0) (cv := 0) (f1 := fun _ => none) (f2 := _) (f3 := fun x _ => x) (f4 := fun x _ => x) (sw := []) x)
    | 30, _, hk, hx =>
      have hk2 : (decide (w = 1) && true && decide (decode (tw_by i) pc = .ok (.ineg, w))) = true := hk
      simp only [Bool.and_eq_true, decide_eq_true_eq] at hk2
      obtain ⟨⟨hw, -⟩, hd⟩ := hk2
      subst hw
      rcases out with ⟨q, L', st', μ'⟩ | x
      · exact tw_o30 C hd hx (hnx _ _ _ _ rfl)
      · exact absurd hx (tw_q1_I (a := 0) (q := _) (r := 0) (cv := 0) (f1 := fun x => some (-x)) (f2 := fun x _ => x) (f3 := fun x _ => x) (f4 := fun x _ => x) (sw := []) x)
    | 31, _, hk, hx =>
      have hk2 : (decide (w = 1) && true && decide (decode (tw_by i) pc = .ok (.ladd, w))) = true := hk
      simp only [Bool.and_eq_true, decide_eq_true_eq] at hk2
      obtain ⟨⟨hw, -⟩, hd⟩ := hk2
      subst hw
      rcases out with ⟨q, L', st', μ'⟩ | x
      · exact tw_o31 C hd hx (hnx _ _ _ _ rfl)
      · exact absurd hx (tw_q3_I (a := 0) (q := _) (r := 0) (cv := 0) (f1 := fun _ => none) (f2 := fun x _ => x) (f3 := _) (f4 := fun x _ => x) (sw := []) x)
    | 32, _, hk, hx =>
      have hk2 : (decide (w = 1) && true && decide (decode (tw_by i) pc = .ok (.lsub, w))) = true := hk
      simp only [Bool.and_eq_true, decide_eq_true_eq] at hk2
      obtain ⟨⟨hw, -⟩, hd⟩ := hk2
      subst hw
      rcases out with ⟨q, L', st', μ'⟩ | x
      · exact tw_o32 C hd hx (hnx _ _ _ _ rfl)
      · exact absurd hx (tw_q3_I (a := 0) (q := _) (r := 0) (cv := 0) (f1 := fun _ => none) (f2 := fun x _ => x) (f3 := _) (f4 := fun x _ => x) (sw := []) x)
    | 33, _, hk, hx =>
      have hk2 : (decide (w = 1) && true && decide (decode (tw_by i) pc = .ok (.lmul, w))) = true := hk
      simp only [Bool.and_eq_true, decide_eq_true_eq] at hk2
      obtain ⟨⟨hw, -⟩, hd⟩ := hk2
      subst hw
      rcases out with ⟨q, L', st', μ'⟩ | x
      · exact tw_o33 C hd hx (hnx _ _ _ _ rfl)
      · exact absurd hx (tw_q3_I (a := 0) (q := _) (r := 0) (cv := 0) (f1 := fun _ => none) (f2 := fun x _ => x) (f3 := _) (f4 := fun x _ => x) (sw := []) x)
    | 34, _, hk, hx =>
      have hk2 : (decide (w = 1) && true && decide (decode (tw_by i) pc = .ok (.ldiv, w))) = true := hk
      simp only [Bool.and_eq_true, decide_eq_true_eq] at hk2
      obtain ⟨⟨hw, -⟩, hd⟩ := hk2
      subst hw
      rcases out with ⟨q, L', st', μ'⟩ | x
      · exact tw_o34 C hd hx (hnx _ _ _ _ rfl)
      · exact absurd hx (tw_ql_I (a := 0) (q := _) (r := 0) (cv := 0) (f1 := fun _ => none) (f2 := fun x _ => x) (f3 := _) (f4 := fun x _ => x) (sw := []) x)
    | 35, _, hk, hx =>
      have hk2 : (decide (w = 1) && true && decide (decode (tw_by i) pc = .ok (.lrem, w))) = true := hk
      simp only [Bool.and_eq_true, decide_eq_true_eq] at hk2
      obtain ⟨⟨hw, -⟩, hd⟩ := hk2
      subst hw
      rcases out with ⟨q, L', st', μ'⟩ | x
      · exact tw_o35 C hd hx (hnx _ _ _ _ rfl)
      · exact absurd hx (tw_ql_I (a := 0) (q := _) (r := 0) (cv := 0) (f1 := fun _ => none) (f2 := fun x _ => x) (f3 := _) (f4 := fun x _ => x) (sw := []) x)
    | 36, _, hk, hx =>
      have hk2 : (decide (w = 1) && true && decide (decode (tw_by i) pc = .ok (.land, w))) = true := hk
      simp only [Bool.and_eq_true, decide_eq_true_eq] at hk2
      obtain ⟨⟨hw, -⟩, hd⟩ := hk2
      subst hw
      rcases out with ⟨q, L', st', μ'⟩ | x
      · exact tw_o36 C hd hx (hnx _ _ _ _ rfl)
      · exact absurd hx (tw_q3_I (a := 0) (q := _) (r := 0) (cv := 0) (f1 := fun _ => none) (f2 := fun x _ => x) (f3 := _) (f4 := fun x _ => x) (sw := []) x)
    | 37, _, hk, hx =>
      have hk2 : (decide (w = 1) && true && decide (decode (tw_by i) pc = .ok (.lor, w))) = true := hk
      simp only [Bool.and_eq_true, decide_eq_true_eq] at hk2
      obtain ⟨⟨hw, -⟩, hd⟩ := hk2
      subst hw
      rcases out with ⟨q, L', st', μ'⟩ | x
      · exact tw_o37 C hd hx (hnx _ _ _ _ rfl)
      · exact absurd hx (tw_q3_I (a := 0) (q := _) (r := 0) (cv := 0) (f1 := fun _ => none) (f2 := fun x _ => x) (f3 := _) (f4 := fun x _ => x) (sw := []) x)
    | 38, _, hk, hx =>
      have hk2 : (decide (w = 1) && true && decide (decode (tw_by i) pc = .ok (.lshl, w))) = true := hk
      simp only [Bool.and_eq_true, decide_eq_true_eq] at hk2
      obtain ⟨⟨hw, -⟩, hd⟩ := hk2
      subst hw
      rcases out with ⟨q, L', st', μ'⟩ | x
      · exact tw_o38 C hd hx (hnx _ _ _ _ rfl)
      · exact absurd hx (tw_q4_I (a := 0) (q := _) (r := 0) (cv := 0) (f1 := fun _ => none) (f2 := fun x _ => x) (f3 := fun x _ => x) (f4 := _) (sw := []) x)
    | 39, _, hk, hx =>
      have hk2 : (decide (w = 1) && true && decide (decode (tw_by i) pc = .ok (.lshr, w))) = true := hk
      simp only [Bool.and_eq_true, decide_eq_true_eq] at hk2
      obtain ⟨⟨hw, -⟩, hd⟩ := hk2
      subst hw
      rcases out with ⟨q, L', st', μ'⟩ | x
      · exact tw_o39 C hd hx (hnx _ _ _ _ rfl)
      · exact absurd hx (tw_q4_I (a := 0) (q := _) (r := 0) (cv := 0) (f1 := fun _ => none) (f2 := fun x _ => x) (f3 := fun x _ => x) (f4 := _) (sw := []) x)
    | 40, _, hk, hx =>
      have hk2 : (decide (w = 1) && true && decide (decode (tw_by i) pc = .ok (.lcmp, w))) = true := hk
      simp only [Bool.and_eq_true, decide_eq_true_eq] at hk2
      obtain ⟨⟨hw, -⟩, hd⟩ := hk2
      subst hw
      rcases out with ⟨q, L', st', μ'⟩ | x
      · exact tw_o40 C hd hx (hnx _ _ _ _ rfl)
      · simp only [tw_ex, tw_nx] at hx
        split at hx <;> cases hx
    | 41, _, hk, hx =>
      have hk2 : (decide (w = 1) && true && decide (decode (tw_by i) pc = .ok (.i2l, w))) = true := hk
      simp only [Bool.and_eq_true, decide_eq_true_eq] at hk2
      obtain ⟨⟨hw, -⟩, hd⟩ := hk2
      subst hw
      rcases out with ⟨q, L', st', μ'⟩ | x
      · exact tw_o41 C hd hx (hnx _ _ _ _ rfl)
      · simp only [tw_ex, tw_nx] at hx
        split at hx <;> cases hx
    | 42, _, hk, hx =>
      have hk2 : (decide (w = 1) && true && decide (decode (tw_by i) pc = .ok (.l2i, w))) = true := hk
      simp only [Bool.and_eq_true, decide_eq_true_eq] at hk2
      obtain ⟨⟨hw, -⟩, hd⟩ := hk2
      subst hw
      rcases out with ⟨q, L', st', μ'⟩ | x
      · exact tw_o42 C hd hx (hnx _ _ _ _ rfl)
      · simp only [tw_ex, tw_nx] at hx
        split at hx <;> cases hx
    | 43, _, hk, hx =>
      have hk2 : (decide (w = 1) && true && decide (decode (tw_by i) pc = .ok (.i2c, w))) = true := hk
      simp only [Bool.and_eq_true, decide_eq_true_eq] at hk2
      obtain ⟨⟨hw, -⟩, hd⟩ := hk2
      subst hw
      rcases out with ⟨q, L', st', μ'⟩ | x
      · exact tw_o43 C hd hx (hnx _ _ _ _ rfl)
      · exact absurd hx (tw_q1_I (a := 0) (q := _) (r := 0) (cv := 0) (f1 := fun x => some ((x.toUInt32 % 65536).toInt32)) (f2 := fun x _ => x) (f3 := fun x _ => x) (f4 := fun x _ => x) (sw := []) x)
    | 44, _, hk, hx =>
      have hk2 : (decide (w = 1) && true && decide (decode (tw_by i) pc = .ok (.dup, w))) = true := hk
      simp only [Bool.and_eq_true, decide_eq_true_eq] at hk2
      obtain ⟨⟨hw, -⟩, hd⟩ := hk2
      subst hw
      rcases out with ⟨q, L', st', μ'⟩ | x
      · exact tw_o44 C hd hx (hnx _ _ _ _ rfl)
      · exact absurd hx (tw_du_I (a := 0) (q := _) (r := 0) (cv := 0) (f1 := fun _ => none) (f2 := fun x _ => x) (f3 := fun x _ => x) (f4 := fun x _ => x) (sw := []) x)
    | 45, _, hk, hx =>
      have hk2 : (decide (w = 1) && true && decide (decode (tw_by i) pc = .ok (.dup2, w))) = true := hk
      simp only [Bool.and_eq_true, decide_eq_true_eq] at hk2
      obtain ⟨⟨hw, -⟩, hd⟩ := hk2
      subst hw
      rcases out with ⟨q, L', st', μ'⟩ | x
      · exact tw_o45 C hd hx (hnx _ _ _ _ rfl)
      · exact absurd hx (tw_d2_I (a := 0) (q := _) (r := 0) (cv := 0) (f1 := fun _ => none) (f2 := fun x _ => x) (f3 := fun x _ => x) (f4 := fun x _ => x) (sw := []) x)
    | 46, _, hk, hx =>
      have hk2 : (decide (w = 1) && true && decide (decode (tw_by i) pc = .ok (.pop, w))) = true := hk
      simp only [Bool.and_eq_true, decide_eq_true_eq] at hk2
      obtain ⟨⟨hw, -⟩, hd⟩ := hk2
      subst hw
      rcases out with ⟨q, L', st', μ'⟩ | x
      · exact tw_o46 C hd hx (hnx _ _ _ _ rfl)
      · exact absurd hx (tw_po_I (a := 0) (q := _) (r := 0) (cv := 0) (f1 := fun _ => none) (f2 := fun x _ => x) (f3 := fun x _ => x) (f4 := fun x _ => x) (sw := []) x)
    | 47, _, hk, hx =>
      have hk2 : (decide (w = 3) && decide (a < 6) && decide (decode (tw_by i) pc = .ok (.ifCond (tw_co a) ((tw_t t 0 : Int) - pc), w))) = true := hk
      simp only [Bool.and_eq_true, decide_eq_true_eq] at hk2
      obtain ⟨⟨hw, h1⟩, hd⟩ := hk2
      subst hw
      rcases out with ⟨q, L', st', μ'⟩ | x
      · exact tw_o47 h1 C hd hx (hnx _ _ _ _ rfl)
      · exact absurd hx (tw_bz_I (a := _) (q := _) (r := _) (cv := 0) (f1 := fun _ => none) (f2 := fun x _ => x) (f3 := fun x _ => x) (f4 := fun x _ => x) (sw := []) x)
    | 48, _, hk, hx =>
      have hk2 : (decide (w = 3) && decide (a < 6) && decide (decode (tw_by i) pc = .ok (.if_icmp (tw_co a) ((tw_t t 0 : Int) - pc), w))) = true := hk
      simp only [Bool.and_eq_true, decide_eq_true_eq] at hk2
      obtain ⟨⟨hw, h1⟩, hd⟩ := hk2
      subst hw
      rcases out with ⟨q, L', st', μ'⟩ | x
      · exact tw_o48 h1 C hd hx (hnx _ _ _ _ rfl)
      · exact absurd hx (tw_bi_I (a := _) (q := _) (r := _) (cv := 0) (f1 := fun _ => none) (f2 := fun x _ => x) (f3 := fun x _ => x) (f4 := fun x _ => x) (sw := []) x)
    | 49, _, hk, hx =>
      have hk2 : (decide (w = 3) && true && decide (decode (tw_by i) pc = .ok (.ifnull ((tw_t t 0 : Int) - pc), w))) = true := hk
      simp only [Bool.and_eq_true, decide_eq_true_eq] at hk2
      obtain ⟨⟨hw, -⟩, hd⟩ := hk2
      subst hw
      rcases out with ⟨q, L', st', μ'⟩ | x
      · exact tw_o49 C hd hx (hnx _ _ _ _ rfl)
      · exact absurd hx (tw_bn_I (a := 0) (q := _) (r := _) (cv := 0) (f1 := fun _ => none) (f2 := fun x _ => x) (f3 := fun x _ => x) (f4 := fun x _ => x) (sw := []) x)
    | 50, _, hk, hx =>
      have hk2 : (decide (w = 3) && true && decide (decode (tw_by i) pc = .ok (.ifnonnull ((tw_t t 0 : Int) - pc), w))) = true := hk
      simp only [Bool.and_eq_true, decide_eq_true_eq] at hk2
      obtain ⟨⟨hw, -⟩, hd⟩ := hk2
      subst hw
      rcases out with ⟨q, L', st', μ'⟩ | x
      · exact tw_o50 C hd hx (hnx _ _ _ _ rfl)
      · exact absurd hx (tw_bn_I (a := 0) (q := _) (r := _) (cv := 0) (f1 := fun _ => none) (f2 := fun x _ => x) (f3 := fun x _ => x) (f4 := fun x _ => x) (sw := []) x)
    | 51, _, hk, hx =>
      have hk2 : (decide (w = 3) && true && decide (decode (tw_by i) pc = .ok (.goto ((tw_t t 0 : Int) - pc), w))) = true := hk
      simp only [Bool.and_eq_true, decide_eq_true_eq] at hk2
      obtain ⟨⟨hw, -⟩, hd⟩ := hk2
      subst hw
      rcases out with ⟨q, L', st', μ'⟩ | x
      · exact tw_o51 C hd hx (hnx _ _ _ _ rfl)
      · cases hx
    | 52, _, hk, hx =>
      have hk2 : (true && (decide (sw.map (fun q => q.1) = (List.range sw.length).map nI) && decide (sw.length < 100)) && decide (decode (tw_by i) pc = .ok (.tableswitch ((tw_t t 0 : Int) - pc) 0 ((sw.length : Int) - 1) (sw.map (fun q => (q.2 : Int) - pc)).toArray, w))) = true := hk
      simp only [Bool.and_eq_true, decide_eq_true_eq] at hk2
      obtain ⟨⟨-, h1, h2⟩, hd⟩ := hk2
      rcases out with ⟨q, L', st', μ'⟩ | x
      · exact tw_o52 h1 h2 C hd hx (hnx _ _ _ _ rfl)
      · exact absurd hx (tw_bs_I (a := 0) (r := 0) (cv := 0) (f1 := fun _ => none) (f2 := fun x _ => x) (f3 := fun x _ => x) (f4 := fun x _ => x) x)
    | 53, _, hk, hx =>
      have hk2 : (decide (sw.length = 2 ∧ (sw.getD 0 (0, 0)).1 = 0 ∧ (sw.getD 1 (0, 0)).1 = 1) && true && decide (decode (tw_by i) pc = .ok (.lookupswitch ((tw_t t 0 : Int) - pc) (sw.map (fun q => (q.1.toInt, (q.2 : Int) - pc))).toArray, w))) = true := hk
      simp only [Bool.and_eq_true, decide_eq_true_eq] at hk2
      obtain ⟨⟨⟨h1, h2, h3⟩, -⟩, hd⟩ := hk2
      match sw, h1, h2, h3, hd, hx with
      | [(x0, q0), (x1, q1)], _, h2, h3, hd, hx =>
        have e0 : x0 = 0 := h2
        have e1 : x1 = 1 := h3
        subst e0 e1
        rcases out with ⟨q, L', st', μ'⟩ | x
        · exact tw_o53 C hd hx (hnx _ _ _ _ rfl)
        · exact absurd hx (tw_bs_I (a := 0) (r := 0) (cv := 0) (f1 := fun _ => none) (f2 := fun x _ => x) (f3 := fun x _ => x) (f4 := fun x _ => x) x)
    | 54, _, hk, hx =>
      have hk2 : (decide (w = 3) && (decide (tw_t t 0 < 7) && decide (tw_t t 1 < tw_nf (tw_t t 0)) && tw_g (tw_t t 2) (.fieldLink (tw_nm i).cls a (tw_cl (tw_t t 0)).1 ((tw_cl (tw_t t 0)).2.1 (tw_t t 1)).2.1 ((tw_cl (tw_t t 0)).2.1 (tw_t t 1)).2.2.1)) && decide (decode (tw_by i) pc = .ok (.getfield a, w))) = true := hk
      simp only [Bool.and_eq_true, decide_eq_true_eq] at hk2
      obtain ⟨⟨hw, ⟨⟨h1, h2⟩, h3⟩⟩, hd⟩ := hk2
      subst hw
      rcases out with ⟨q, L', st', μ'⟩ | x
      · exact tw_o54 h1 h2 (tw_g_in h3) C hd hx (hnx _ _ _ _ rfl)
      · exact absurd hx (tw_gf_I (a := _) (q := _) (r := _) (cv := 0) (f1 := fun _ => none) (f2 := fun x _ => x) (f3 := fun x _ => x) (f4 := fun x _ => x) (sw := []) x)
    | 55, _, hk, hx =>
      have hk2 : (decide (w = 3) && (decide (tw_t t 0 < 7) && decide (tw_t t 1 < tw_nf (tw_t t 0)) && tw_g (tw_t t 2) (.fieldLink (tw_nm i).cls a (tw_cl (tw_t t 0)).1 ((tw_cl (tw_t t 0)).2.1 (tw_t t 1)).2.1 ((tw_cl (tw_t t 0)).2.1 (tw_t t 1)).2.2.1)) && decide (decode (tw_by i) pc = .ok (.putfield a, w))) = true := hk
      simp only [Bool.and_eq_true, decide_eq_true_eq] at hk2
      obtain ⟨⟨hw, ⟨⟨h1, h2⟩, h3⟩⟩, hd⟩ := hk2
      subst hw
      rcases out with ⟨q, L', st', μ'⟩ | x
      · exact tw_o55 h1 h2 (tw_g_in h3) C hd hx (hnx _ _ _ _ rfl)
      · exact absurd hx (tw_pf_I (a := _) (q := _) (r := _) (cv := 0) (f1 := fun _ => none) (f2 := fun x _ => x) (f3 := fun x _ => x) (f4 := fun x _ => x) (sw := []) x)
    | 56, _, hk, hx =>
      have hk2 : (decide (w = 1) && true && decide (decode (tw_by i) pc = .ok (.iaload, w))) = true := hk
      simp only [Bool.and_eq_true, decide_eq_true_eq] at hk2
      obtain ⟨⟨hw, -⟩, hd⟩ := hk2
      subst hw
      rcases out with ⟨q, L', st', μ'⟩ | x
      · exact tw_o56 C hd hx (hnx _ _ _ _ rfl)
      · exact absurd hx (tw_il_I (a := 0) (q := _) (r := 0) (cv := 0) (f1 := fun _ => none) (f2 := fun x _ => x) (f3 := fun x _ => x) (f4 := fun x _ => x) (sw := []) x)
    | 57, _, hk, hx =>
      have hk2 : (decide (w = 1) && true && decide (decode (tw_by i) pc = .ok (.iastore, w))) = true := hk
      simp only [Bool.and_eq_true, decide_eq_true_eq] at hk2
      obtain ⟨⟨hw, -⟩, hd⟩ := hk2
      subst hw
      rcases out with ⟨q, L', st', μ'⟩ | x
      · exact tw_o57 C hd hx (hnx _ _ _ _ rfl)
      · exact absurd hx (tw_is_I (a := 0) (q := _) (r := 0) (cv := 0) (f1 := fun _ => none) (f2 := fun x _ => x) (f3 := fun x _ => x) (f4 := fun x _ => x) (sw := []) x)
    | 58, _, hk, hx =>
      have hk2 : (decide (w = 1) && true && decide (decode (tw_by i) pc = .ok (.baload, w))) = true := hk
      simp only [Bool.and_eq_true, decide_eq_true_eq] at hk2
      obtain ⟨⟨hw, -⟩, hd⟩ := hk2
      subst hw
      rcases out with ⟨q, L', st', μ'⟩ | x
      · exact tw_o58 C hd hx (hnx _ _ _ _ rfl)
      · exact absurd hx (tw_zl_I (a := 0) (q := _) (r := 0) (cv := 0) (f1 := fun _ => none) (f2 := fun x _ => x) (f3 := fun x _ => x) (f4 := fun x _ => x) (sw := []) x)
    | 59, _, hk, hx =>
      have hk2 : (decide (w = 1) && true && decide (decode (tw_by i) pc = .ok (.bastore, w))) = true := hk
      simp only [Bool.and_eq_true, decide_eq_true_eq] at hk2
      obtain ⟨⟨hw, -⟩, hd⟩ := hk2
      subst hw
      rcases out with ⟨q, L', st', μ'⟩ | x
      · exact tw_o59 C hd hx (hnx _ _ _ _ rfl)
      · exact absurd hx (tw_zs_I (a := 0) (q := _) (r := 0) (cv := 0) (f1 := fun _ => none) (f2 := fun x _ => x) (f3 := fun x _ => x) (f4 := fun x _ => x) (sw := []) x)
    | 60, _, hk, hx =>
      have hk2 : (decide (w = 1) && true && decide (decode (tw_by i) pc = .ok (.aaload, w))) = true := hk
      simp only [Bool.and_eq_true, decide_eq_true_eq] at hk2
      obtain ⟨⟨hw, -⟩, hd⟩ := hk2
      subst hw
      rcases out with ⟨q, L', st', μ'⟩ | x
      · exact tw_o60 C hd hx (hnx _ _ _ _ rfl)
      · exact absurd hx (tw_ql2_I (a := 0) (q := _) (r := 0) (cv := 0) (f1 := fun _ => none) (f2 := fun x _ => x) (f3 := fun x _ => x) (f4 := fun x _ => x) (sw := []) x)
    | 61, _, hk, hx =>
      have hk2 : (decide (w = 1) && true && decide (decode (tw_by i) pc = .ok (.arraylength, w))) = true := hk
      simp only [Bool.and_eq_true, decide_eq_true_eq] at hk2
      obtain ⟨⟨hw, -⟩, hd⟩ := hk2
      subst hw
      rcases out with ⟨q, L', st', μ'⟩ | x
      · exact tw_o61 C hd hx (hnx _ _ _ _ rfl)
      · exact absurd hx (tw_an_I (a := 0) (q := _) (r := 0) (cv := 0) (f1 := fun _ => none) (f2 := fun x _ => x) (f3 := fun x _ => x) (f4 := fun x _ => x) (sw := []) x)
    | 62, _, hk, hx =>
      have hk2 : (decide (w = 3) && (decide (tw_t t 0 < 2) && (match tw_t t 0 with
    | 0 => tw_g (tw_t t 1) (.fieldLink (tw_nm i).cls a "java/lang/String" "COMPACT_STRINGS" "Z")
    | _ => tw_g (tw_t t 1) (.fieldLink (tw_nm i).cls a "jdk/internal/util/Preconditions" "SIOOBE_FORMATTER" "Ljava/util/function/BiFunction;"))) && decide (decode (tw_by i) pc = .ok (.getstatic a, w))) = true := hk
      rw [Bool.and_eq_true, Bool.and_eq_true, Bool.and_eq_true] at hk2
      obtain ⟨⟨hw, h0, h1⟩, hd⟩ := hk2
      have hw := of_decide_eq_true hw
      have h0 := of_decide_eq_true h0
      have hd := of_decide_eq_true hd
      subst hw
      have hx2 : tw_gs (tw_t t 0) (pc + 3) L st μ = some out := hx
      generalize tw_t t 0 = t0 at h0 h1 hx2
      match t0, h0, h1, hx2 with
      | 0, _, h1, hx2 =>
        rcases out with ⟨q, L', st', μ'⟩ | x
        · exact tw_o62_0 (tw_g_in h1) C hd hx2 (hnx _ _ _ _ rfl)
        · cases hx2
      | 1, _, h1, hx2 =>
        rcases out with ⟨q, L', st', μ'⟩ | x
        · exact tw_o62_1 (tw_g_in h1) C hd hx2 (hnx _ _ _ _ rfl)
        · cases hx2
      | n + 2, h, _, _ => exact absurd h (by omega)
    | 63, _, hk, hx =>
      have hk2 : (decide (w = 2) && (decide ((tw_nm i).cls = "ThawWords$Text") && decide (tw_t t 0 < 6) && decide ((tw_stT.getD (tw_t t 0) (0, "")).1 = a)) && decide (decode (tw_by i) pc = .ok (.ldc a, w))) = true := hk
      simp only [Bool.and_eq_true, decide_eq_true_eq] at hk2
      obtain ⟨⟨hw, ⟨⟨h1, h2⟩, h3⟩⟩, hd⟩ := hk2
      subst hw
      rcases out with ⟨q, L', st', μ'⟩ | x
      · exact tw_o63 h1 h2 h3 C hd hx (hnx _ _ _ _ rfl)
      · cases hx
    | 64, _, hk, hx =>
      have hk2 : (decide (w = 3) && (decide (tw_t t 0 < tw_tab.length) && tw_g (tw_t t 3) (.methodLink (tw_nm i).cls a (tw_nm (tw_t t 0))) && tw_g (tw_t t 4) (.instanceMethod (tw_nm (tw_t t 0))) && tw_g (tw_t t 5) (.selects (tw_nm (tw_t t 0)).cls (tw_nm (tw_t t 0)) (tw_nm (tw_t t 0))) && tw_g (tw_t t 6) (.initialized (tw_nm (tw_t t 0)).cls) && tw_g (tw_t t 7) (.code (tw_nm (tw_t t 0)) (tw_by (tw_t t 0)) (tw_ml (tw_t t 0)) (tw_re (tw_t t 0))) && tw_mh (tw_nm (tw_t t 0)) && tw_np (tw_nm (tw_t t 0)) (tw_t t 1 - 1) && decide (0 < tw_t t 1) && tw_rmk i (tw_t t 0) && tw_kdk (tw_t t 2) (tw_nm (tw_t t 0)).cls) && decide (decode (tw_by i) pc = .ok (.invokevirtual a, w))) = true := hk
      simp only [Bool.and_eq_true, decide_eq_true_eq] at hk2
      obtain ⟨⟨hw, ⟨⟨⟨⟨⟨⟨⟨⟨⟨⟨h0, h1⟩, h2⟩, h3⟩, h4⟩, h5⟩, h6⟩, h7⟩, h8⟩, h9⟩, h10⟩⟩, hd⟩ := hk2
      subst hw
      rcases out with x | r | ⟨j, as, r, q⟩
      · exact absurd hx (tw_cv_R (a := _) (q := _) (r := _) (w := _) (ty := .int) x)
      · have hx2 : tw_cv (tw_t t 0) (tw_t t 1) (tw_t t 2) (pc + 3) st = some (Sum.inr (Sum.inl r)) := hx
        unfold tw_cv at hx2
        repeat' (split at hx2)
        all_goals cases hx2
      · have hj : j = tw_t t 0 := tw_cv_j (show tw_cv (tw_t t 0) (tw_t t 1) (tw_t t 2) (pc + 3) st = _ from hx)
        subst hj
        obtain ⟨rv0, μ', hM, k⟩ := hcl _ _ _ _ h0 (tw_cv_l (show tw_cv (tw_t t 0) (tw_t t 1) (tw_t t 2) (pc + 3) st = _ from hx)) rfl
        exact tw_o64 (tw_g_in h1) (tw_g_in h2) (tw_g_in h3) (tw_g_in h4) (tw_g_in h5) h6 h7 h9 h10 C hd hx hM k
    | 65, _, hk, hx =>
      have hk2 : (decide (w = 3) && (decide (tw_t t 0 < tw_tab.length) && tw_g (tw_t t 3) (.methodLink (tw_nm i).cls a (tw_nm (tw_t t 0))) && tw_g (tw_t t 4) (.static (tw_nm (tw_t t 0))) && tw_g (tw_t t 5) (.initialized (tw_nm (tw_t t 0)).cls) && tw_g (tw_t t 6) (.code (tw_nm (tw_t t 0)) (tw_by (tw_t t 0)) (tw_ml (tw_t t 0)) (tw_re (tw_t t 0))) && tw_mh (tw_nm (tw_t t 0)) && tw_np (tw_nm (tw_t t 0)) (tw_t t 1) && tw_rmk i (tw_t t 0)) && decide (decode (tw_by i) pc = .ok (.invokestatic a, w))) = true := hk
      simp only [Bool.and_eq_true, decide_eq_true_eq] at hk2
      obtain ⟨⟨hw, ⟨⟨⟨⟨⟨⟨⟨h0, h1⟩, h2⟩, h4⟩, h5⟩, h6⟩, h7⟩, h9⟩⟩, hd⟩ := hk2
      subst hw
      rcases out with x | r | ⟨j, as, r, q⟩
      · exact absurd hx (tw_cs_R (a := _) (q := _) (r := _) (w := 0) (ty := .int) x)
      · have hx2 : tw_cs (tw_t t 0) (tw_t t 1) (pc + 3) st = some (Sum.inr (Sum.inl r)) := hx
        unfold tw_cs at hx2
        repeat' (split at hx2)
        all_goals cases hx2
      · have hj : j = tw_t t 0 := tw_cs_j (show tw_cs (tw_t t 0) (tw_t t 1) (pc + 3) st = _ from hx)
        subst hj
        obtain ⟨rv0, μ', hM, k⟩ := hcl _ _ _ _ h0 (tw_cs_l (show tw_cs (tw_t t 0) (tw_t t 1) (pc + 3) st = _ from hx)) rfl
        exact tw_o65 (tw_g_in h1) (tw_g_in h2) (tw_g_in h4) (tw_g_in h5) h6 h7 h9 C hd hx hM k
    | 66, _, hk, hx =>
      have hk2 : (decide (w = 1) && decide (tw_re i = some .int) && decide (decode (tw_by i) pc = .ok (.ireturn, w))) = true := hk
      simp only [Bool.and_eq_true, decide_eq_true_eq] at hk2
      obtain ⟨⟨hw, h1⟩, hd⟩ := hk2
      subst hw
      rcases out with x | r | x
      · exact absurd hx (tw_ri1_R (a := 0) (q := 0) (r := 0) (w := 0) (ty := .int) x)
      · rw [hrt _ rfl]
        exact tw_o66 h1 C hd hx
      · have hx2 : tw_ri1 st = some (Sum.inr (Sum.inr x)) := hx
        simp only [tw_ri1, tw_rt] at hx2
        repeat' (split at hx2)
        all_goals cases hx2
    | 67, _, hk, hx =>
      have hk2 : (decide (w = 1) && decide (tw_re i = some .long) && decide (decode (tw_by i) pc = .ok (.lreturn, w))) = true := hk
      simp only [Bool.and_eq_true, decide_eq_true_eq] at hk2
      obtain ⟨⟨hw, h1⟩, hd⟩ := hk2
      subst hw
      rcases out with x | r | x
      · exact absurd hx (tw_rl_R (a := 0) (q := 0) (r := 0) (w := 0) (ty := .int) x)
      · rw [hrt _ rfl]
        exact tw_o67 h1 C hd hx
      · have hx2 : tw_rl st = some (Sum.inr (Sum.inr x)) := hx
        simp only [tw_rl, tw_rt] at hx2
        repeat' (split at hx2)
        all_goals cases hx2
    | 68, _, hk, hx =>
      have hk2 : (decide (w = 1) && (match tw_re i with
    | some (.object _) => true
    | some (.array _) => true
    | _ => false) && decide (decode (tw_by i) pc = .ok (.areturn, w))) = true := hk
      rw [Bool.and_eq_true, Bool.and_eq_true] at hk2
      obtain ⟨⟨hw, h1⟩, hd⟩ := hk2
      have hw := of_decide_eq_true hw
      have hd := of_decide_eq_true hd
      subst hw
      have hrt0 : ∃ rt, tw_re i = some rt ∧ ((∃ n, rt = .object n) ∨ ∃ t, rt = .array t) := by
        split at h1
        · rename_i x z; exact ⟨_, z, Or.inl ⟨_, rfl⟩⟩
        · rename_i x z; exact ⟨_, z, Or.inr ⟨_, rfl⟩⟩
        · cases h1
      obtain ⟨rt, hr1, hr2⟩ := hrt0
      rcases out with x | r | x
      · exact absurd hx (tw_rr_R (a := 0) (q := 0) (r := 0) (w := 0) (ty := .int) x)
      · rw [hrt _ rfl]
        exact tw_o68 hr1 hr2 C hd hx
      · have hx2 : tw_rr st = some (Sum.inr (Sum.inr x)) := hx
        unfold tw_rr at hx2
        split at hx2 <;> cases hx2
    | 69, _, hk, hx =>
      have hk2 : (decide (w = 1) && decide (tw_re i = none) && decide (decode (tw_by i) pc = .ok (.return_, w))) = true := hk
      simp only [Bool.and_eq_true, decide_eq_true_eq] at hk2
      obtain ⟨⟨hw, h1⟩, hd⟩ := hk2
      subst hw
      rcases out with x | r | x
      · exact absurd hx (tw_rv0_R (a := 0) (q := 0) (r := 0) (w := 0) (ty := .int) x)
      · rw [hrt _ rfl]
        exact tw_o69 h1 C hd hx
      · have hx2 : tw_rv0 st = some (Sum.inr (Sum.inr x)) := hx
        simp only [tw_rv0, tw_rt] at hx2
        repeat' (split at hx2)
        all_goals cases hx2
    | 70, _, hk, hx =>
      have hk2 : (decide (w = 3) && tw_g (tw_t t 0) (.fieldLink (tw_nm i).cls a "java/lang/String" "value" "[B") && decide (decode (tw_by i) pc = .ok (.getfield a, w))) = true := hk
      simp only [Bool.and_eq_true, decide_eq_true_eq] at hk2
      obtain ⟨⟨hw, h1⟩, hd⟩ := hk2
      subst hw
      rcases out with ⟨q, L', st', μ'⟩ | x
      · exact tw_o70 (tw_g_in h1) C hd hx (hnx _ _ _ _ rfl)
      · exact absurd hx (tw_sv_I (a := 0) (q := _) (r := 0) (cv := 0) (f1 := fun _ => none) (f2 := fun x _ => x) (f3 := fun x _ => x) (f4 := fun x _ => x) (sw := []) x)
    | 71, _, hk, hx =>
      have hk2 : (decide (w = 3) && tw_g (tw_t t 0) (.fieldLink (tw_nm i).cls a "java/lang/String" "coder" "B") && decide (decode (tw_by i) pc = .ok (.getfield a, w))) = true := hk
      simp only [Bool.and_eq_true, decide_eq_true_eq] at hk2
      obtain ⟨⟨hw, h1⟩, hd⟩ := hk2
      subst hw
      rcases out with ⟨q, L', st', μ'⟩ | x
      · exact tw_o71 (tw_g_in h1) C hd hx (hnx _ _ _ _ rfl)
      · exact absurd hx (tw_sc_I (a := 0) (q := _) (r := 0) (cv := 0) (f1 := fun _ => none) (f2 := fun x _ => x) (f3 := fun x _ => x) (f4 := fun x _ => x) (sw := []) x)
    | 72, _, hk, hx =>
      have hk2 : (decide (w = 1) && true && decide (decode (tw_by i) pc = .ok (.baload, w))) = true := hk
      simp only [Bool.and_eq_true, decide_eq_true_eq] at hk2
      obtain ⟨⟨hw, -⟩, hd⟩ := hk2
      subst hw
      rcases out with ⟨q, L', st', μ'⟩ | x
      · exact tw_o72 C hd hx (hnx _ _ _ _ rfl)
      · exact absurd hx (tw_bl_I (a := 0) (q := _) (r := 0) (cv := 0) (f1 := fun _ => none) (f2 := fun x _ => x) (f3 := fun x _ => x) (f4 := fun x _ => x) (sw := []) x)
    | 73, _, hk, hx =>
      have hk2 : (decide (w = 1) && true && decide (decode (tw_by i) pc = .ok (.arraylength, w))) = true := hk
      simp only [Bool.and_eq_true, decide_eq_true_eq] at hk2
      obtain ⟨⟨hw, -⟩, hd⟩ := hk2
      subst hw
      rcases out with ⟨q, L', st', μ'⟩ | x
      · exact tw_o73 C hd hx (hnx _ _ _ _ rfl)
      · exact absurd hx (tw_bn2_I (a := 0) (q := _) (r := 0) (cv := 0) (f1 := fun _ => none) (f2 := fun x _ => x) (f3 := fun x _ => x) (f4 := fun x _ => x) (sw := []) x)
    | 74, _, hk, hx =>
      have hk2 : (decide (w = 3) && (decide (tw_t t 0 < tw_tab.length) && decide (tw_nest[tw_t t 2]? = some ((tw_nm i).cls, a, (tw_nm (tw_t t 0)))) && tw_g (tw_t t 3) (.static (tw_nm (tw_t t 0))) && tw_g (tw_t t 4) (.initialized (tw_nm (tw_t t 0)).cls) && tw_g (tw_t t 5) (.code (tw_nm (tw_t t 0)) (tw_by (tw_t t 0)) (tw_ml (tw_t t 0)) (tw_re (tw_t t 0))) && tw_mh (tw_nm (tw_t t 0)) && tw_np (tw_nm (tw_t t 0)) (tw_t t 1) && tw_rmk i (tw_t t 0)) && decide (decode (tw_by i) pc = .ok (.invokestatic a, w))) = true := hk
      simp only [Bool.and_eq_true, decide_eq_true_eq] at hk2
      obtain ⟨⟨hw, ⟨⟨⟨⟨⟨⟨⟨h0, h1⟩, h2⟩, h4⟩, h5⟩, h6⟩, h7⟩, h9⟩⟩, hd⟩ := hk2
      subst hw
      rcases out with x | r | ⟨j, as, r, q⟩
      · exact absurd hx (tw_cs_R (a := _) (q := _) (r := _) (w := 0) (ty := .int) x)
      · have hx2 : tw_cs (tw_t t 0) (tw_t t 1) (pc + 3) st = some (Sum.inr (Sum.inl r)) := hx
        unfold tw_cs at hx2
        repeat' (split at hx2)
        all_goals cases hx2
      · have hj : j = tw_t t 0 := tw_cs_j (show tw_cs (tw_t t 0) (tw_t t 1) (pc + 3) st = _ from hx)
        subst hj
        obtain ⟨rv0, μ', hM, k⟩ := hcl _ _ _ _ h0 (tw_cs_l (show tw_cs (tw_t t 0) (tw_t t 1) (pc + 3) st = _ from hx)) rfl
        exact tw_o74 h1 (tw_g_in h2) (tw_g_in h4) (tw_g_in h5) h6 h7 h9 C hd hx hM k
    | 75, _, hk, hx =>
      have hk2 : (decide (w = 1) && decide (tw_re i = some (tw_ty a)) && decide (decode (tw_by i) pc = .ok (.ireturn, w))) = true := hk
      simp only [Bool.and_eq_true, decide_eq_true_eq] at hk2
      obtain ⟨⟨hw, h1⟩, hd⟩ := hk2
      subst hw
      rcases out with x | r | x
      · exact absurd hx (tw_rn_R (a := 0) (q := 0) (r := 0) (w := 0) (ty := _) x)
      · rw [hrt _ rfl]
        exact tw_o75 h1 (by unfold tw_ty; split <;> simp) C hd hx
      · have hx2 : tw_rn (tw_ty a) st = some (Sum.inr (Sum.inr x)) := hx
        simp only [tw_rn, tw_rt] at hx2
        repeat' (split at hx2)
        all_goals cases hx2
    | 76, _, hk, hx =>
      have hk2 : (decide (w = 3) && (tw_g (tw_t t 0) (.methodLink (tw_nm i).cls a Lib.Math.max.name) && tw_g (tw_t t 1) (.static Lib.Math.max.name) && tw_g (tw_t t 2) (.initialized "java/lang/Math") && tw_g (tw_t t 3) (.code Lib.Math.max.name Lib.Math.max.code 2 (some .int)) && decide (1 ≤ tw_fr i) && decide (21 ≤ tw_lo i)) && decide (decode (tw_by i) pc = .ok (.invokestatic a, w))) = true := hk
      simp only [Bool.and_eq_true, decide_eq_true_eq] at hk2
      obtain ⟨⟨hw, ⟨⟨⟨⟨⟨h1, h2⟩, h3⟩, h4⟩, h5⟩, h6⟩⟩, hd⟩ := hk2
      subst hw
      rcases out with ⟨q, L', st', μ'⟩ | x
      · exact tw_o76 (tw_g_in h1) (tw_g_in h2) (tw_g_in h3) (tw_g_in h4) h5 h6 C hd hx (hnx _ _ _ _ rfl)
      · exact absurd hx (tw_mx_I (a := 0) (q := _) (r := 0) (cv := 0) (f1 := fun _ => none) (f2 := _) (f3 := fun x _ => x) (f4 := fun x _ => x) (sw := []) x)
    | 77, _, hk, hx =>
      have hk2 : (decide (w = 3) && (tw_g (tw_t t 0) (.methodLink (tw_nm i).cls a Lib.Math.min.name) && tw_g (tw_t t 1) (.static Lib.Math.min.name) && tw_g (tw_t t 2) (.initialized "java/lang/Math") && tw_g (tw_t t 3) (.code Lib.Math.min.name Lib.Math.min.code 2 (some .int)) && decide (1 ≤ tw_fr i) && decide (21 ≤ tw_lo i)) && decide (decode (tw_by i) pc = .ok (.invokestatic a, w))) = true := hk
      simp only [Bool.and_eq_true, decide_eq_true_eq] at hk2
      obtain ⟨⟨hw, ⟨⟨⟨⟨⟨h1, h2⟩, h3⟩, h4⟩, h5⟩, h6⟩⟩, hd⟩ := hk2
      subst hw
      rcases out with ⟨q, L', st', μ'⟩ | x
      · exact tw_o77 (tw_g_in h1) (tw_g_in h2) (tw_g_in h3) (tw_g_in h4) h5 h6 C hd hx (hnx _ _ _ _ rfl)
      · exact absurd hx (tw_mx_I (a := 0) (q := _) (r := 0) (cv := 0) (f1 := fun _ => none) (f2 := _) (f3 := fun x _ => x) (f4 := fun x _ => x) (sw := []) x)
    | 78, _, hk, hx =>
      have hk2 : (decide (w = 3) && (tw_g (tw_t t 0) (.methodLink (tw_nm i).cls a Lib.Math.abs.name) && tw_g (tw_t t 1) (.static Lib.Math.abs.name) && tw_g (tw_t t 2) (.initialized "java/lang/Math") && tw_g (tw_t t 3) (.code Lib.Math.abs.name Lib.Math.abs.code 1 (some .int)) && decide (1 ≤ tw_fr i) && decide (21 ≤ tw_lo i)) && decide (decode (tw_by i) pc = .ok (.invokestatic a, w))) = true := hk
      simp only [Bool.and_eq_true, decide_eq_true_eq] at hk2
      obtain ⟨⟨hw, ⟨⟨⟨⟨⟨h1, h2⟩, h3⟩, h4⟩, h5⟩, h6⟩⟩, hd⟩ := hk2
      subst hw
      rcases out with ⟨q, L', st', μ'⟩ | x
      · exact tw_o78 (tw_g_in h1) (tw_g_in h2) (tw_g_in h3) (tw_g_in h4) h5 h6 C hd hx (hnx _ _ _ _ rfl)
      · exact absurd hx (tw_ma_I (a := 0) (q := _) (r := 0) (cv := 0) (f1 := fun _ => none) (f2 := fun x _ => x) (f3 := fun x _ => x) (f4 := fun x _ => x) (sw := []) x)
    | n + 79, h, _, _ => exact absurd h (by omega)
  · rw [tw_ex_big (by omega)] at hx
    cases hx
end
end
section
theorem tw_en_len {n : Nat} {as : List tw_V} (h : (tw_el as).length ≤ n) : (tw_en n as).length = n := by
  unfold tw_en
  simp
  omega
theorem tw_el_mem : ∀ (as : List tw_V) (v : tw_V), some v ∈ tw_el as → v ∈ as
  | [], v, h => by cases h
  | Sum.inl x :: as, v, h => by
    rw [tw_el] at h
    · rcases List.mem_cons.mp h with z | z
      · cases z; exact List.mem_cons_self
      · exact List.mem_cons_of_mem _ (tw_el_mem as v z)
    · intro y hy; cases hy
  | Sum.inr (Sum.inl x) :: as, v, h => by
    rw [tw_el] at h
    rcases List.mem_cons.mp h with z | z
    · cases z; exact List.mem_cons_self
    · rcases List.mem_cons.mp z with z | z
      · cases z
      · exact List.mem_cons_of_mem _ (tw_el_mem as v z)
  | Sum.inr (Sum.inr x) :: as, v, h => by
    rw [tw_el] at h
    · rcases List.mem_cons.mp h with z | z
      · cases z; exact List.mem_cons_self
      · exact List.mem_cons_of_mem _ (tw_el_mem as v z)
    · intro y hy; cases hy
theorem tw_en_ok {g : tw_E} {as : List tw_V} {n : Nat} (h : ∀ v, v ∈ as → tw_vd g v) : tw_ok g (tw_en n as) [] := by
  refine ⟨fun j v hj => ?_, fun v hv => by cases hv⟩
  have hm := List.mem_of_getElem? hj
  unfold tw_en at hm
  rcases List.mem_append.mp hm with z | z
  · exact h v (tw_el_mem as v z)
  · have := List.eq_of_mem_replicate z
    cases this
theorem tw_all_ok {i pc : Nat} {o : tw_Op} (hi : i < tw_tab.length) (h : tw_op (tw_cd i) pc = some o) : tw_opk i pc o = true := by
  have h1 := tw_mk_all i (by rw [tw_tab_len] at hi; exact hi)
  unfold tw_mk at h1
  rw [Bool.and_eq_true] at h1
  exact List.all_eq_true.mp h1.1 (pc, o) (tw_op_in h)
theorem tw_plain {i : Nat} (hi : i < tw_tab.length) : plainName (tw_nm i).cls = true := by
  have h1 := tw_mk_all i (by rw [tw_tab_len] at hi; exact hi)
  unfold tw_mk at h1
  rw [Bool.and_eq_true] at h1
  exact h1.2
/-- WHAT THE SMALL MACHINE ANSWERS, THE REAL ONE ANSWERS -/
theorem tw_sound (g : tw_E) (l : Launch) (hsh : tw_sh g) (hap : tw_ap g) : ∀ (n i pc : Nat) (L : tw_L) (st : List tw_V) (μ : tw_M) (r : Option tw_V) (μ' : tw_M), i < tw_tab.length → tw_ev n i pc L st μ = some (r, μ') →
    ∀ (p : Program) (e : Env) (s : State) (m : MethodId) (args : Array Value) (below : List Frame) (meth : Method) (c : Code), tw_Cx g p s m args meth c i → tw_Kp g p l e s m args below meth c i (MQ below (tw_Q g r μ') args s 0 0 (tw_A g)) pc L st μ := by
  intro n
  induction n with
  | zero => intro i pc L st μ r μ' hi h; cases h
  | succ n ih =>
    intro i pc L st μ r μ' hi h p e s m args below meth c C
    have hmet : ∀ (j : Nat) (as : List tw_V) (ν : tw_M) (r : Option tw_V) (ν' : tw_M), j < tw_tab.length → (tw_el as).length ≤ tw_ml j → tw_ev n j 0 (tw_en (tw_ml j) as) [] ν = some (r, ν') → tw_Me g l j as ν r ν' := by
      intro j as ν r ν' hj hle hev
      refine Met.ofW (cc := tw_by j) (maxL := tw_ml j) (ret := tw_re j) (tw_plain hj) rfl ?_
      intro p e s m args below meth c s₁ B hml hv
      obtain ⟨rfl, hvd, hP, hF⟩ := hv
      have hts := atoms_spec (ws := tw_wm j) B.pre
      have hown : s.vm.findClass (tw_nm j).cls = some m.cls := findClass_of_methodNamed B.named
      have K := ih j 0 (tw_en (tw_ml j) as) [] ν r ν' hj hev p e s m (as.map (tw_rv g)).toArray below meth c ⟨B.exec, B.bytes, hml, B.returns, B.notSynchronized, hown, hts, hF, hsh, hap⟩
      rw [lg_entry_eq]
      exact K (tw_en_ok hvd) (tw_en_len hle) s.heap [] _ hP va_S.rf (tw_LR_en hF hle)
    rw [tw_ev] at h
    unfold tw_st at h
    cases ho : tw_op (tw_cd i) pc with
    | none => rw [ho] at h; cases h
    | some o =>
      rw [ho] at h
      dsimp only at h
      cases hx : tw_ex o pc L st μ with
      | none => rw [hx] at h; cases h
      | some out =>
        rw [hx] at h
        refine tw_step (tw_all_ok hi ho) C hx ?_ ?_ ?_
        · intro q L' st' μ1 e1
          subst e1
          exact ih i q L' st' μ1 r μ' hi h p e s m args below meth c C
        · intro r1 e1
          subst e1
          cases h
          rfl
        · intro j as r1 q hj hle e1
          subst e1
          dsimp only at h
          cases hc : tw_ev n j 0 (tw_en (tw_ml j) as) [] μ with
          | none => rw [hc] at h; cases h
          | some y =>
            rw [hc] at h
            obtain ⟨v, μ1⟩ := y
            exact ⟨v, μ1, hmet j as μ v μ1 hj hle hc, ih i q L (v.toList ++ r1) μ1 r μ' hi h p e s m args below meth c C⟩
theorem tw_met {g : tw_E} {l : Launch} (hsh : tw_sh g) (hap : tw_ap g) {j : Nat} {as : List tw_V} {ν : tw_M} {r : Option tw_V} {ν' : tw_M} (hj : j < tw_tab.length) (hle : (tw_el as).length ≤ tw_ml j) (h : tw_call j as ν = some (r, ν')) : tw_Me g l j as ν r ν' := by
  obtain ⟨n, hev⟩ := tw_run_iff.mp h
  refine Met.ofW (cc := tw_by j) (maxL := tw_ml j) (ret := tw_re j) (tw_plain hj) rfl ?_
  intro p e s m args below meth c s₁ B hml hv
  obtain ⟨rfl, hvd, hP, hF⟩ := hv
  have hts := atoms_spec (ws := tw_wm j) B.pre
  have hown : s.vm.findClass (tw_nm j).cls = some m.cls := findClass_of_methodNamed B.named
  have K := tw_sound g l hsh hap n j 0 (tw_en (tw_ml j) as) [] ν r ν' hj hev p e s m (as.map (tw_rv g)).toArray below meth c ⟨B.exec, B.bytes, hml, B.returns, B.notSynchronized, hown, hts, hF, hsh, hap⟩
  rw [lg_entry_eq]
  exact K (tw_en_ok hvd) (tw_en_len hle) s.heap [] _ hP va_S.rf (tw_LR_en hF hle)
end
