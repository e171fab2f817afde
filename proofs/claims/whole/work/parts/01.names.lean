-- ===== PART A: goes FIRST, ahead of the names: the tables' words, and 'selects' of the private methods out of them =====
/-- a private method of a class that the tables say can be made, by its rows of tables_1 -/
def lw_okq (q : MethodName × Nat) : Prop := (q.1.cls ≠ "java/lang/invoke/MethodHandle" ∧ q.1.cls ≠ "java/lang/invoke/VarHandle") ∧ Cond.instantiable q.1.cls q.2 ∈ tables_1 ∧ Cond.privateMethod q.1 ∈ tables_1 ∧ Cond.instanceMethod q.1 ∈ tables_1
theorem lw_p0 : lw_okq (⟨"GarbleWords", "readPad", "()Z"⟩, 8) := ⟨⟨by decide +kernel, by decide +kernel⟩, List.mem_of_getElem? (i := 15) (by decide +kernel), List.mem_of_getElem? (i := 303) (by decide +kernel), List.mem_of_getElem? (i := 304) (by decide +kernel)⟩
theorem lw_p1 : lw_okq (⟨"GarbleWords", "sendMessage", "()I"⟩, 8) := ⟨⟨by decide +kernel, by decide +kernel⟩, List.mem_of_getElem? (i := 15) (by decide +kernel), List.mem_of_getElem? (i := 414) (by decide +kernel), List.mem_of_getElem? (i := 415) (by decide +kernel)⟩
theorem lw_p2 : lw_okq (⟨"GarbleWords$Route", "choose", "(IIII)V"⟩, 4) := ⟨⟨by decide +kernel, by decide +kernel⟩, List.mem_of_getElem? (i := 169) (by decide +kernel), List.mem_of_getElem? (i := 436) (by decide +kernel), List.mem_of_getElem? (i := 437) (by decide +kernel)⟩
theorem lw_p3 : lw_okq (⟨"GarbleWords$Route", "isNoWorse", "(III)Z"⟩, 4) := ⟨⟨by decide +kernel, by decide +kernel⟩, List.mem_of_getElem? (i := 169) (by decide +kernel), List.mem_of_getElem? (i := 448) (by decide +kernel), List.mem_of_getElem? (i := 449) (by decide +kernel)⟩
theorem lw_p4 : lw_okq (⟨"GarbleWords$Telegram", "writePlain", "(J)V"⟩, 9) := ⟨⟨by decide +kernel, by decide +kernel⟩, List.mem_of_getElem? (i := 51) (by decide +kernel), List.mem_of_getElem? (i := 459) (by decide +kernel), List.mem_of_getElem? (i := 460) (by decide +kernel)⟩
theorem lw_p5 : lw_okq (⟨"GarbleWords$Telegram", "writeLetter", "(I)V"⟩, 9) := ⟨⟨by decide +kernel, by decide +kernel⟩, List.mem_of_getElem? (i := 51) (by decide +kernel), List.mem_of_getElem? (i := 468) (by decide +kernel), List.mem_of_getElem? (i := 469) (by decide +kernel)⟩
theorem lw_p6 : lw_okq (⟨"GarbleWords$Telegram", "writeCode", "(I)V"⟩, 9) := ⟨⟨by decide +kernel, by decide +kernel⟩, List.mem_of_getElem? (i := 51) (by decide +kernel), List.mem_of_getElem? (i := 478) (by decide +kernel), List.mem_of_getElem? (i := 479) (by decide +kernel)⟩
theorem lw_p7 : lw_okq (⟨"GarbleWords$Reception", "receiveCode", "(LGarbleWords$State;I)V"⟩, 4) := ⟨⟨by decide +kernel, by decide +kernel⟩, List.mem_of_getElem? (i := 201) (by decide +kernel), List.mem_of_getElem? (i := 583) (by decide +kernel), List.mem_of_getElem? (i := 584) (by decide +kernel)⟩
theorem lw_p8 : lw_okq (⟨"GarbleWords$Reception", "receivePlain", "(LGarbleWords$Telegram;I)V"⟩, 4) := ⟨⟨by decide +kernel, by decide +kernel⟩, List.mem_of_getElem? (i := 201) (by decide +kernel), List.mem_of_getElem? (i := 596) (by decide +kernel), List.mem_of_getElem? (i := 597) (by decide +kernel)⟩
theorem lw_p9 : lw_okq (⟨"GarbleWordsModel", "record", "()V"⟩, 17) := ⟨⟨by decide +kernel, by decide +kernel⟩, List.mem_of_getElem? (i := 666) (by decide +kernel), List.mem_of_getElem? (i := 734) (by decide +kernel), List.mem_of_getElem? (i := 735) (by decide +kernel)⟩
theorem lw_p10 : lw_okq (⟨"GarbleWordsModel", "findFault", "()I"⟩, 17) := ⟨⟨by decide +kernel, by decide +kernel⟩, List.mem_of_getElem? (i := 666) (by decide +kernel), List.mem_of_getElem? (i := 745) (by decide +kernel), List.mem_of_getElem? (i := 746) (by decide +kernel)⟩
theorem lw_p11 : lw_okq (⟨"GarbleWordsModel", "lookAtPad", "()V"⟩, 17) := ⟨⟨by decide +kernel, by decide +kernel⟩, List.mem_of_getElem? (i := 666) (by decide +kernel), List.mem_of_getElem? (i := 752) (by decide +kernel), List.mem_of_getElem? (i := 753) (by decide +kernel)⟩
theorem lw_p12 : lw_okq (⟨"GarbleWordsModel", "findWords", "()V"⟩, 17) := ⟨⟨by decide +kernel, by decide +kernel⟩, List.mem_of_getElem? (i := 666) (by decide +kernel), List.mem_of_getElem? (i := 756) (by decide +kernel), List.mem_of_getElem? (i := 757) (by decide +kernel)⟩
theorem lw_p13 : lw_okq (⟨"GarbleWordsModel", "freeCode", "()I"⟩, 17) := ⟨⟨by decide +kernel, by decide +kernel⟩, List.mem_of_getElem? (i := 666) (by decide +kernel), List.mem_of_getElem? (i := 760) (by decide +kernel), List.mem_of_getElem? (i := 761) (by decide +kernel)⟩
theorem lw_p14 : lw_okq (⟨"GarbleWordsModel", "takeCodes", "()I"⟩, 17) := ⟨⟨by decide +kernel, by decide +kernel⟩, List.mem_of_getElem? (i := 666) (by decide +kernel), List.mem_of_getElem? (i := 764) (by decide +kernel), List.mem_of_getElem? (i := 765) (by decide +kernel)⟩
theorem lw_p15 : lw_okq (⟨"GarbleWordsModel", "entryPart", "(II)I"⟩, 17) := ⟨⟨by decide +kernel, by decide +kernel⟩, List.mem_of_getElem? (i := 666) (by decide +kernel), List.mem_of_getElem? (i := 768) (by decide +kernel), List.mem_of_getElem? (i := 769) (by decide +kernel)⟩
def lw_privs_1 : List (MethodName × Nat) := [(⟨"GarbleWords", "readPad", "()Z"⟩, 8), (⟨"GarbleWords", "sendMessage", "()I"⟩, 8), (⟨"GarbleWords$Route", "choose", "(IIII)V"⟩, 4), (⟨"GarbleWords$Route", "isNoWorse", "(III)Z"⟩, 4), (⟨"GarbleWords$Telegram", "writePlain", "(J)V"⟩, 9), (⟨"GarbleWords$Telegram", "writeLetter", "(I)V"⟩, 9), (⟨"GarbleWords$Telegram", "writeCode", "(I)V"⟩, 9), (⟨"GarbleWords$Reception", "receiveCode", "(LGarbleWords$State;I)V"⟩, 4), (⟨"GarbleWords$Reception", "receivePlain", "(LGarbleWords$Telegram;I)V"⟩, 4), (⟨"GarbleWordsModel", "record", "()V"⟩, 17), (⟨"GarbleWordsModel", "findFault", "()I"⟩, 17), (⟨"GarbleWordsModel", "lookAtPad", "()V"⟩, 17), (⟨"GarbleWordsModel", "findWords", "()V"⟩, 17), (⟨"GarbleWordsModel", "freeCode", "()I"⟩, 17), (⟨"GarbleWordsModel", "takeCodes", "()I"⟩, 17), (⟨"GarbleWordsModel", "entryPart", "(II)I"⟩, 17)]
theorem lw_r1 : ∀ q ∈ lw_privs_1, lw_okq q := List.forall_mem_cons.mpr ⟨lw_p0, List.forall_mem_cons.mpr ⟨lw_p1, List.forall_mem_cons.mpr ⟨lw_p2, List.forall_mem_cons.mpr ⟨lw_p3, List.forall_mem_cons.mpr ⟨lw_p4, List.forall_mem_cons.mpr ⟨lw_p5, List.forall_mem_cons.mpr ⟨lw_p6, List.forall_mem_cons.mpr ⟨lw_p7, List.forall_mem_cons.mpr ⟨lw_p8, List.forall_mem_cons.mpr ⟨lw_p9, List.forall_mem_cons.mpr ⟨lw_p10, List.forall_mem_cons.mpr ⟨lw_p11, List.forall_mem_cons.mpr ⟨lw_p12, List.forall_mem_cons.mpr ⟨lw_p13, List.forall_mem_cons.mpr ⟨lw_p14, List.forall_mem_cons.mpr ⟨lw_p15, fun _ h => absurd h List.not_mem_nil⟩⟩⟩⟩⟩⟩⟩⟩⟩⟩⟩⟩⟩⟩⟩⟩
theorem lw_p16 : lw_okq (⟨"GarbleWordsModel", "isFar", "(II)Z"⟩, 17) := ⟨⟨by decide +kernel, by decide +kernel⟩, List.mem_of_getElem? (i := 666) (by decide +kernel), List.mem_of_getElem? (i := 772) (by decide +kernel), List.mem_of_getElem? (i := 773) (by decide +kernel)⟩
theorem lw_p17 : lw_okq (⟨"GarbleWordsModel", "entryOf", "(III)I"⟩, 17) := ⟨⟨by decide +kernel, by decide +kernel⟩, List.mem_of_getElem? (i := 666) (by decide +kernel), List.mem_of_getElem? (i := 782) (by decide +kernel), List.mem_of_getElem? (i := 783) (by decide +kernel)⟩
theorem lw_p18 : lw_okq (⟨"GarbleWordsModel", "isPhraseAt", "(III)Z"⟩, 17) := ⟨⟨by decide +kernel, by decide +kernel⟩, List.mem_of_getElem? (i := 666) (by decide +kernel), List.mem_of_getElem? (i := 786) (by decide +kernel), List.mem_of_getElem? (i := 787) (by decide +kernel)⟩
theorem lw_p19 : lw_okq (⟨"GarbleWordsModel", "signsOf", "(II)I"⟩, 17) := ⟨⟨by decide +kernel, by decide +kernel⟩, List.mem_of_getElem? (i := 666) (by decide +kernel), List.mem_of_getElem? (i := 790) (by decide +kernel), List.mem_of_getElem? (i := 791) (by decide +kernel)⟩
theorem lw_p20 : lw_okq (⟨"GarbleWordsModel", "isEntry", "(I)Z"⟩, 17) := ⟨⟨by decide +kernel, by decide +kernel⟩, List.mem_of_getElem? (i := 666) (by decide +kernel), List.mem_of_getElem? (i := 798) (by decide +kernel), List.mem_of_getElem? (i := 799) (by decide +kernel)⟩
theorem lw_p21 : lw_okq (⟨"GarbleWordsModel", "canHave", "(II)Z"⟩, 17) := ⟨⟨by decide +kernel, by decide +kernel⟩, List.mem_of_getElem? (i := 666) (by decide +kernel), List.mem_of_getElem? (i := 802) (by decide +kernel), List.mem_of_getElem? (i := 803) (by decide +kernel)⟩
theorem lw_p22 : lw_okq (⟨"GarbleWordsModel", "sends", "()I"⟩, 17) := ⟨⟨by decide +kernel, by decide +kernel⟩, List.mem_of_getElem? (i := 666) (by decide +kernel), List.mem_of_getElem? (i := 814) (by decide +kernel), List.mem_of_getElem? (i := 815) (by decide +kernel)⟩
theorem lw_p23 : lw_okq (⟨"GarbleWordsModel", "findWay", "(III)V"⟩, 17) := ⟨⟨by decide +kernel, by decide +kernel⟩, List.mem_of_getElem? (i := 666) (by decide +kernel), List.mem_of_getElem? (i := 818) (by decide +kernel), List.mem_of_getElem? (i := 819) (by decide +kernel)⟩
theorem lw_p24 : lw_okq (⟨"GarbleWordsModel", "areAlike", "(III)Z"⟩, 17) := ⟨⟨by decide +kernel, by decide +kernel⟩, List.mem_of_getElem? (i := 666) (by decide +kernel), List.mem_of_getElem? (i := 822) (by decide +kernel), List.mem_of_getElem? (i := 823) (by decide +kernel)⟩
theorem lw_p25 : lw_okq (⟨"GarbleWordsModel", "plainCost", "(I)I"⟩, 17) := ⟨⟨by decide +kernel, by decide +kernel⟩, List.mem_of_getElem? (i := 666) (by decide +kernel), List.mem_of_getElem? (i := 826) (by decide +kernel), List.mem_of_getElem? (i := 827) (by decide +kernel)⟩
theorem lw_p26 : lw_okq (⟨"GarbleWordsModel", "setWord", "(III)V"⟩, 17) := ⟨⟨by decide +kernel, by decide +kernel⟩, List.mem_of_getElem? (i := 666) (by decide +kernel), List.mem_of_getElem? (i := 830) (by decide +kernel), List.mem_of_getElem? (i := 831) (by decide +kernel)⟩
theorem lw_p27 : lw_okq (⟨"GarbleWordsModel", "sendPlain", "(II)V"⟩, 17) := ⟨⟨by decide +kernel, by decide +kernel⟩, List.mem_of_getElem? (i := 666) (by decide +kernel), List.mem_of_getElem? (i := 834) (by decide +kernel), List.mem_of_getElem? (i := 835) (by decide +kernel)⟩
theorem lw_p28 : lw_okq (⟨"GarbleWordsModel", "setLetter", "(III)V"⟩, 17) := ⟨⟨by decide +kernel, by decide +kernel⟩, List.mem_of_getElem? (i := 666) (by decide +kernel), List.mem_of_getElem? (i := 838) (by decide +kernel), List.mem_of_getElem? (i := 839) (by decide +kernel)⟩
theorem lw_p29 : lw_okq (⟨"GarbleWordsModel", "sendCode", "(II)V"⟩, 17) := ⟨⟨by decide +kernel, by decide +kernel⟩, List.mem_of_getElem? (i := 666) (by decide +kernel), List.mem_of_getElem? (i := 842) (by decide +kernel), List.mem_of_getElem? (i := 843) (by decide +kernel)⟩
theorem lw_p30 : lw_okq (⟨"GarbleWordsModel", "lookAtMessage", "()V"⟩, 17) := ⟨⟨by decide +kernel, by decide +kernel⟩, List.mem_of_getElem? (i := 666) (by decide +kernel), List.mem_of_getElem? (i := 850) (by decide +kernel), List.mem_of_getElem? (i := 851) (by decide +kernel)⟩
theorem lw_p31 : lw_okq (⟨"GarbleWordsModel", "isSent", "(I)Z"⟩, 17) := ⟨⟨by decide +kernel, by decide +kernel⟩, List.mem_of_getElem? (i := 666) (by decide +kernel), List.mem_of_getElem? (i := 858) (by decide +kernel), List.mem_of_getElem? (i := 859) (by decide +kernel)⟩
def lw_privs_2 : List (MethodName × Nat) := [(⟨"GarbleWordsModel", "isFar", "(II)Z"⟩, 17), (⟨"GarbleWordsModel", "entryOf", "(III)I"⟩, 17), (⟨"GarbleWordsModel", "isPhraseAt", "(III)Z"⟩, 17), (⟨"GarbleWordsModel", "signsOf", "(II)I"⟩, 17), (⟨"GarbleWordsModel", "isEntry", "(I)Z"⟩, 17), (⟨"GarbleWordsModel", "canHave", "(II)Z"⟩, 17), (⟨"GarbleWordsModel", "sends", "()I"⟩, 17), (⟨"GarbleWordsModel", "findWay", "(III)V"⟩, 17), (⟨"GarbleWordsModel", "areAlike", "(III)Z"⟩, 17), (⟨"GarbleWordsModel", "plainCost", "(I)I"⟩, 17), (⟨"GarbleWordsModel", "setWord", "(III)V"⟩, 17), (⟨"GarbleWordsModel", "sendPlain", "(II)V"⟩, 17), (⟨"GarbleWordsModel", "setLetter", "(III)V"⟩, 17), (⟨"GarbleWordsModel", "sendCode", "(II)V"⟩, 17), (⟨"GarbleWordsModel", "lookAtMessage", "()V"⟩, 17), (⟨"GarbleWordsModel", "isSent", "(I)Z"⟩, 17)]
theorem lw_r2 : ∀ q ∈ lw_privs_2, lw_okq q := List.forall_mem_cons.mpr ⟨lw_p16, List.forall_mem_cons.mpr ⟨lw_p17, List.forall_mem_cons.mpr ⟨lw_p18, List.forall_mem_cons.mpr ⟨lw_p19, List.forall_mem_cons.mpr ⟨lw_p20, List.forall_mem_cons.mpr ⟨lw_p21, List.forall_mem_cons.mpr ⟨lw_p22, List.forall_mem_cons.mpr ⟨lw_p23, List.forall_mem_cons.mpr ⟨lw_p24, List.forall_mem_cons.mpr ⟨lw_p25, List.forall_mem_cons.mpr ⟨lw_p26, List.forall_mem_cons.mpr ⟨lw_p27, List.forall_mem_cons.mpr ⟨lw_p28, List.forall_mem_cons.mpr ⟨lw_p29, List.forall_mem_cons.mpr ⟨lw_p30, List.forall_mem_cons.mpr ⟨lw_p31, fun _ h => absurd h List.not_mem_nil⟩⟩⟩⟩⟩⟩⟩⟩⟩⟩⟩⟩⟩⟩⟩⟩
theorem lw_p32 : lw_okq (⟨"GarbleWordsModel", "wordPart", "(II)I"⟩, 17) := ⟨⟨by decide +kernel, by decide +kernel⟩, List.mem_of_getElem? (i := 666) (by decide +kernel), List.mem_of_getElem? (i := 862) (by decide +kernel), List.mem_of_getElem? (i := 863) (by decide +kernel)⟩
theorem lw_p33 : lw_okq (⟨"GarbleWordsModel", "wordsOf", "(I)I"⟩, 17) := ⟨⟨by decide +kernel, by decide +kernel⟩, List.mem_of_getElem? (i := 666) (by decide +kernel), List.mem_of_getElem? (i := 870) (by decide +kernel), List.mem_of_getElem? (i := 871) (by decide +kernel)⟩
theorem lw_p34 : lw_okq (⟨"GarbleWordsModel", "nearest", "(I)I"⟩, 17) := ⟨⟨by decide +kernel, by decide +kernel⟩, List.mem_of_getElem? (i := 666) (by decide +kernel), List.mem_of_getElem? (i := 874) (by decide +kernel), List.mem_of_getElem? (i := 875) (by decide +kernel)⟩
theorem lw_p35 : lw_okq (⟨"GarbleWordsModel", "plainCostOf", "(I)I"⟩, 17) := ⟨⟨by decide +kernel, by decide +kernel⟩, List.mem_of_getElem? (i := 666) (by decide +kernel), List.mem_of_getElem? (i := 878) (by decide +kernel), List.mem_of_getElem? (i := 879) (by decide +kernel)⟩
theorem lw_p36 : lw_okq (⟨"GarbleWordsModel", "sentAs", "(I)I"⟩, 17) := ⟨⟨by decide +kernel, by decide +kernel⟩, List.mem_of_getElem? (i := 666) (by decide +kernel), List.mem_of_getElem? (i := 882) (by decide +kernel), List.mem_of_getElem? (i := 883) (by decide +kernel)⟩
theorem lw_p37 : lw_okq (⟨"GarbleWordsModel", "allPlain", "()I"⟩, 17) := ⟨⟨by decide +kernel, by decide +kernel⟩, List.mem_of_getElem? (i := 666) (by decide +kernel), List.mem_of_getElem? (i := 894) (by decide +kernel), List.mem_of_getElem? (i := 895) (by decide +kernel)⟩
theorem lw_p38 : lw_okq (⟨"GarbleWordsModel", "nearestOfAll", "()I"⟩, 17) := ⟨⟨by decide +kernel, by decide +kernel⟩, List.mem_of_getElem? (i := 666) (by decide +kernel), List.mem_of_getElem? (i := 898) (by decide +kernel), List.mem_of_getElem? (i := 899) (by decide +kernel)⟩
theorem lw_p39 : lw_okq (⟨"GarbleWordsModel", "garbled", "()I"⟩, 17) := ⟨⟨by decide +kernel, by decide +kernel⟩, List.mem_of_getElem? (i := 666) (by decide +kernel), List.mem_of_getElem? (i := 902) (by decide +kernel), List.mem_of_getElem? (i := 903) (by decide +kernel)⟩
theorem lw_p40 : lw_okq (⟨"GarbleWordsModel", "how", "(I)I"⟩, 17) := ⟨⟨by decide +kernel, by decide +kernel⟩, List.mem_of_getElem? (i := 666) (by decide +kernel), List.mem_of_getElem? (i := 914) (by decide +kernel), List.mem_of_getElem? (i := 915) (by decide +kernel)⟩
theorem lw_p41 : lw_okq (⟨"GarbleWordsModel", "isCodeLike", "(I)Z"⟩, 17) := ⟨⟨by decide +kernel, by decide +kernel⟩, List.mem_of_getElem? (i := 666) (by decide +kernel), List.mem_of_getElem? (i := 918) (by decide +kernel), List.mem_of_getElem? (i := 919) (by decide +kernel)⟩
theorem lw_p42 : lw_okq (⟨"GarbleWordsModel", "isPlainly", "(I)Z"⟩, 17) := ⟨⟨by decide +kernel, by decide +kernel⟩, List.mem_of_getElem? (i := 666) (by decide +kernel), List.mem_of_getElem? (i := 922) (by decide +kernel), List.mem_of_getElem? (i := 923) (by decide +kernel)⟩
theorem lw_p43 : lw_okq (⟨"GarbleWordsModel", "entriesAt", "(II)I"⟩, 17) := ⟨⟨by decide +kernel, by decide +kernel⟩, List.mem_of_getElem? (i := 666) (by decide +kernel), List.mem_of_getElem? (i := 926) (by decide +kernel), List.mem_of_getElem? (i := 927) (by decide +kernel)⟩
theorem lw_p44 : lw_okq (⟨"GarbleWordsModel", "unlike", "(II)I"⟩, 17) := ⟨⟨by decide +kernel, by decide +kernel⟩, List.mem_of_getElem? (i := 666) (by decide +kernel), List.mem_of_getElem? (i := 930) (by decide +kernel), List.mem_of_getElem? (i := 931) (by decide +kernel)⟩
theorem lw_p45 : lw_okq (⟨"GarbleWordsModel", "receivedEntry", "(I)I"⟩, 17) := ⟨⟨by decide +kernel, by decide +kernel⟩, List.mem_of_getElem? (i := 666) (by decide +kernel), List.mem_of_getElem? (i := 934) (by decide +kernel), List.mem_of_getElem? (i := 935) (by decide +kernel)⟩
theorem lw_p46 : lw_okq (⟨"GarbleWordsModel", "entryAt", "(II)I"⟩, 17) := ⟨⟨by decide +kernel, by decide +kernel⟩, List.mem_of_getElem? (i := 666) (by decide +kernel), List.mem_of_getElem? (i := 938) (by decide +kernel), List.mem_of_getElem? (i := 939) (by decide +kernel)⟩
theorem lw_p47 : lw_okq (⟨"GarbleWordsModel", "mendedPlace", "(I)I"⟩, 17) := ⟨⟨by decide +kernel, by decide +kernel⟩, List.mem_of_getElem? (i := 666) (by decide +kernel), List.mem_of_getElem? (i := 942) (by decide +kernel), List.mem_of_getElem? (i := 943) (by decide +kernel)⟩
def lw_privs_3 : List (MethodName × Nat) := [(⟨"GarbleWordsModel", "wordPart", "(II)I"⟩, 17), (⟨"GarbleWordsModel", "wordsOf", "(I)I"⟩, 17), (⟨"GarbleWordsModel", "nearest", "(I)I"⟩, 17), (⟨"GarbleWordsModel", "plainCostOf", "(I)I"⟩, 17), (⟨"GarbleWordsModel", "sentAs", "(I)I"⟩, 17), (⟨"GarbleWordsModel", "allPlain", "()I"⟩, 17), (⟨"GarbleWordsModel", "nearestOfAll", "()I"⟩, 17), (⟨"GarbleWordsModel", "garbled", "()I"⟩, 17), (⟨"GarbleWordsModel", "how", "(I)I"⟩, 17), (⟨"GarbleWordsModel", "isCodeLike", "(I)Z"⟩, 17), (⟨"GarbleWordsModel", "isPlainly", "(I)Z"⟩, 17), (⟨"GarbleWordsModel", "entriesAt", "(II)I"⟩, 17), (⟨"GarbleWordsModel", "unlike", "(II)I"⟩, 17), (⟨"GarbleWordsModel", "receivedEntry", "(I)I"⟩, 17), (⟨"GarbleWordsModel", "entryAt", "(II)I"⟩, 17), (⟨"GarbleWordsModel", "mendedPlace", "(I)I"⟩, 17)]
theorem lw_r3 : ∀ q ∈ lw_privs_3, lw_okq q := List.forall_mem_cons.mpr ⟨lw_p32, List.forall_mem_cons.mpr ⟨lw_p33, List.forall_mem_cons.mpr ⟨lw_p34, List.forall_mem_cons.mpr ⟨lw_p35, List.forall_mem_cons.mpr ⟨lw_p36, List.forall_mem_cons.mpr ⟨lw_p37, List.forall_mem_cons.mpr ⟨lw_p38, List.forall_mem_cons.mpr ⟨lw_p39, List.forall_mem_cons.mpr ⟨lw_p40, List.forall_mem_cons.mpr ⟨lw_p41, List.forall_mem_cons.mpr ⟨lw_p42, List.forall_mem_cons.mpr ⟨lw_p43, List.forall_mem_cons.mpr ⟨lw_p44, List.forall_mem_cons.mpr ⟨lw_p45, List.forall_mem_cons.mpr ⟨lw_p46, List.forall_mem_cons.mpr ⟨lw_p47, fun _ h => absurd h List.not_mem_nil⟩⟩⟩⟩⟩⟩⟩⟩⟩⟩⟩⟩⟩⟩⟩⟩
theorem lw_p48 : lw_okq (⟨"GarbleWordsModel", "isAsSent", "(I)Z"⟩, 17) := ⟨⟨by decide +kernel, by decide +kernel⟩, List.mem_of_getElem? (i := 666) (by decide +kernel), List.mem_of_getElem? (i := 946) (by decide +kernel), List.mem_of_getElem? (i := 947) (by decide +kernel)⟩
theorem lw_p49 : lw_okq (⟨"GarbleWordsModel", "wayCost", "()I"⟩, 17) := ⟨⟨by decide +kernel, by decide +kernel⟩, List.mem_of_getElem? (i := 666) (by decide +kernel), List.mem_of_getElem? (i := 958) (by decide +kernel), List.mem_of_getElem? (i := 959) (by decide +kernel)⟩
def lw_privs_4 : List (MethodName × Nat) := [(⟨"GarbleWordsModel", "isAsSent", "(I)Z"⟩, 17), (⟨"GarbleWordsModel", "wayCost", "()I"⟩, 17)]
theorem lw_r4 : ∀ q ∈ lw_privs_4, lw_okq q := List.forall_mem_cons.mpr ⟨lw_p48, List.forall_mem_cons.mpr ⟨lw_p49, fun _ h => absurd h List.not_mem_nil⟩⟩
def lw_privs : List (MethodName × Nat) := lw_privs_1 ++ (lw_privs_2 ++ (lw_privs_3 ++ (lw_privs_4)))
def lw_tbl : List Cond := k2_sels lw_privs ++ tables_1
theorem lw_privs_ok : ∀ q ∈ lw_privs, lw_okq q := by
  show ∀ q ∈ lw_privs_1 ++ (lw_privs_2 ++ (lw_privs_3 ++ (lw_privs_4))), lw_okq q
  exact List.forall_mem_append.mpr ⟨lw_r1, List.forall_mem_append.mpr ⟨lw_r2, List.forall_mem_append.mpr ⟨lw_r3, lw_r4⟩⟩⟩
def RX0 : String := "GarbleWords$Book"
def TX0 : u_T := fun k => match k with
  | 0 => ("GarbleWords$Book", "codes", "[I", true)
  | 1 => ("GarbleWords$Book", "words", "[J", true)
  | _ => ("GarbleWords$Book", "size", "I", false)
def tyX0 : Nat → FieldType := fun k => match k with
  | 0 => .array .int
  | 1 => .array .long
  | _ => .int
abbrev wsX00 : List Cond := u_ws RX0 TX0 3
theorem nmX0 : ∀ a, a < 3 → ∀ b, b < 3 → a ≠ b → (TX0 a).2.1 ≠ (TX0 b).2.1 := by decide +kernel
theorem tyX0_ok : ∀ k, k < 3 → parseFieldDescriptor (TX0 k).2.2.1 = some (tyX0 k) := by decide +kernel
abbrev cX0_init : ByteArray := prog_2_method_1_code
def yX0_init : MethodName := ⟨RX0, "<init>", "()V"⟩
abbrev cX0_has : ByteArray := prog_2_method_2_code
def yX0_has : MethodName := ⟨RX0, "has", "(I)Z"⟩
abbrev cX0_codeOf : ByteArray := prog_2_method_3_code
def yX0_codeOf : MethodName := ⟨RX0, "codeOf", "(I)I"⟩
abbrev cX0_wordAt : ByteArray := prog_2_method_4_code
def yX0_wordAt : MethodName := ⟨RX0, "wordAt", "(II)J"⟩
abbrev cX0_wordsOf : ByteArray := prog_2_method_5_code
def yX0_wordsOf : MethodName := ⟨RX0, "wordsOf", "(I)I"⟩
abbrev cX0_lettersOf : ByteArray := prog_2_method_6_code
def yX0_lettersOf : MethodName := ⟨RX0, "lettersOf", "(I)I"⟩
abbrev cX0_signAt : ByteArray := prog_2_method_7_code
def yX0_signAt : MethodName := ⟨RX0, "signAt", "(II)I"⟩
abbrev cX0_means : ByteArray := prog_2_method_8_code
def yX0_means : MethodName := ⟨RX0, "means", "(ILGarbleWords$Words;II)Z"⟩
abbrev cX0_find : ByteArray := prog_2_method_9_code
def yX0_find : MethodName := ⟨RX0, "find", "(LGarbleWords$Words;II)I"⟩
abbrev cX0_leastFromOthers : ByteArray := prog_2_method_10_code
def yX0_leastFromOthers : MethodName := ⟨RX0, "leastFromOthers", "(II)I"⟩
abbrev cX0_leastDistance : ByteArray := prog_2_method_11_code
def yX0_leastDistance : MethodName := ⟨RX0, "leastDistance", "()I"⟩
abbrev cX0_append : ByteArray := prog_2_method_12_code
def yX0_append : MethodName := ⟨RX0, "append", "(LGarbleWords$Words;I)V"⟩
abbrev cX0_remove : ByteArray := prog_2_method_13_code
def yX0_remove : MethodName := ⟨RX0, "remove", "(I)V"⟩
abbrev cX0_copyFrom : ByteArray := prog_2_method_14_code
def yX0_copyFrom : MethodName := ⟨RX0, "copyFrom", "(LGarbleWords$Book;)V"⟩
def RX1 : String := "GarbleWords$FreeCodes"
def TX1 : u_T := fun k => match k with
  | _ => ("GarbleWords$FreeCodes", "near", "[Z", true)
def tyX1 : Nat → FieldType := fun k => match k with
  | _ => .array .boolean
abbrev wsX10 : List Cond := u_ws RX1 TX1 1
theorem nmX1 : ∀ a, a < 1 → ∀ b, b < 1 → a ≠ b → (TX1 a).2.1 ≠ (TX1 b).2.1 := by decide +kernel
theorem tyX1_ok : ∀ k, k < 1 → parseFieldDescriptor (TX1 k).2.2.1 = some (tyX1 k) := by decide +kernel
abbrev cX1_init : ByteArray := prog_3_method_1_code
def yX1_init : MethodName := ⟨RX1, "<init>", "()V"⟩
abbrev cX1_lookAt : ByteArray := prog_3_method_2_code
def yX1_lookAt : MethodName := ⟨RX1, "lookAt", "(LGarbleWords$Book;I)V"⟩
abbrev cX1_markNear : ByteArray := prog_3_method_3_code
def yX1_markNear : MethodName := ⟨RX1, "markNear", "(II)V"⟩
abbrev cX1_lowestFrom : ByteArray := prog_3_method_4_code
def yX1_lowestFrom : MethodName := ⟨RX1, "lowestFrom", "(I)I"⟩
def RX2 : String := "GarbleWords$History"
def TX2 : u_T := fun k => match k with
  | 0 => ("GarbleWords$History", "states", "[LGarbleWords$State;", true)
  | 1 => ("GarbleWords$History", "oldest", "I", false)
  | _ => ("GarbleWords$History", "size", "I", false)
def tyX2 : Nat → FieldType := fun k => match k with
  | 0 => .array (.object "GarbleWords$State")
  | 1 => .int
  | _ => .int
abbrev wsX20 : List Cond := u_ws RX2 TX2 3
theorem nmX2 : ∀ a, a < 3 → ∀ b, b < 3 → a ≠ b → (TX2 a).2.1 ≠ (TX2 b).2.1 := by decide +kernel
theorem tyX2_ok : ∀ k, k < 3 → parseFieldDescriptor (TX2 k).2.2.1 = some (tyX2 k) := by decide +kernel
abbrev cX2_init : ByteArray := prog_4_method_1_code
def yX2_init : MethodName := ⟨RX2, "<init>", "()V"⟩
abbrev cX2_keep : ByteArray := prog_4_method_2_code
def yX2_keep : MethodName := ⟨RX2, "keep", "(LGarbleWords$State;)V"⟩
abbrev cX2_takeBack : ByteArray := prog_4_method_3_code
def yX2_takeBack : MethodName := ⟨RX2, "takeBack", "(LGarbleWords$State;)Z"⟩
def RX3 : String := "GarbleWords$Pad"
def TX3 : u_T := fun k => match k with
  | 0 => ("GarbleWords$Pad", "signs", "[I", true)
  | _ => ("GarbleWords$Pad", "length", "I", false)
def tyX3 : Nat → FieldType := fun k => match k with
  | 0 => .array .int
  | _ => .int
abbrev wsX30 : List Cond := u_ws RX3 TX3 2
theorem nmX3 : ∀ a, a < 2 → ∀ b, b < 2 → a ≠ b → (TX3 a).2.1 ≠ (TX3 b).2.1 := by decide +kernel
theorem tyX3_ok : ∀ k, k < 2 → parseFieldDescriptor (TX3 k).2.2.1 = some (tyX3 k) := by decide +kernel
abbrev cX3_init : ByteArray := prog_5_method_1_code
def yX3_init : MethodName := ⟨RX3, "<init>", "()V"⟩
abbrev cX3_append : ByteArray := prog_5_method_2_code
def yX3_append : MethodName := ⟨RX3, "append", "(I)V"⟩
abbrev cX3_firstFault : ByteArray := prog_5_method_3_code
def yX3_firstFault : MethodName := ⟨RX3, "firstFault", "()I"⟩
abbrev cX3_readInto : ByteArray := prog_5_method_4_code
def yX3_readInto : MethodName := ⟨RX3, "readInto", "(LGarbleWords$Words;)V"⟩
def RX4 : String := "GarbleWords$Reception"
def TX4 : u_T := fun k => match k with
  | 0 => ("GarbleWords$Reception", "how", "I", false)
  | 1 => ("GarbleWords$Reception", "entry", "I", false)
  | 2 => ("GarbleWords$Reception", "place", "I", false)
  | _ => ("GarbleWords$Reception", "asSent", "Z", false)
def tyX4 : Nat → FieldType := fun k => match k with
  | 0 => .int
  | 1 => .int
  | 2 => .int
  | _ => .boolean
abbrev wsX40 : List Cond := u_ws RX4 TX4 4
theorem nmX4 : ∀ a, a < 4 → ∀ b, b < 4 → a ≠ b → (TX4 a).2.1 ≠ (TX4 b).2.1 := by decide +kernel
theorem tyX4_ok : ∀ k, k < 4 → parseFieldDescriptor (TX4 k).2.2.1 = some (tyX4 k) := by decide +kernel
abbrev cX4_init : ByteArray := prog_6_method_1_code
def yX4_init : MethodName := ⟨RX4, "<init>", "()V"⟩
abbrev cX4_receive : ByteArray := prog_6_method_2_code
def yX4_receive : MethodName := ⟨RX4, "receive", "(LGarbleWords$State;I)V"⟩
abbrev cX4_isCodeWord : ByteArray := prog_6_method_3_code
def yX4_isCodeWord : MethodName := ⟨RX4, "isCodeWord", "(LGarbleWords$Telegram;I)Z"⟩
abbrev cX4_receiveCode : ByteArray := prog_6_method_4_code
def yX4_receiveCode : MethodName := ⟨RX4, "receiveCode", "(LGarbleWords$State;I)V"⟩
abbrev cX4_unlikeLetters : ByteArray := prog_6_method_5_code
def yX4_unlikeLetters : MethodName := ⟨RX4, "unlikeLetters", "(LGarbleWords$Telegram;II)I"⟩
abbrev cX4_lastUnlike : ByteArray := prog_6_method_6_code
def yX4_lastUnlike : MethodName := ⟨RX4, "lastUnlike", "(LGarbleWords$Telegram;II)I"⟩
abbrev cX4_receivePlain : ByteArray := prog_6_method_7_code
def yX4_receivePlain : MethodName := ⟨RX4, "receivePlain", "(LGarbleWords$Telegram;I)V"⟩
def RX5 : String := "GarbleWords$Route"
def TX5 : u_T := fun k => match k with
  | 0 => ("GarbleWords$Route", "costs", "[I", true)
  | 1 => ("GarbleWords$Route", "counts", "[I", true)
  | 2 => ("GarbleWords$Route", "spans", "[I", true)
  | _ => ("GarbleWords$Route", "entries", "[I", true)
def tyX5 : Nat → FieldType := fun k => match k with
  | 0 => .array .int
  | 1 => .array .int
  | 2 => .array .int
  | _ => .array .int
abbrev wsX50 : List Cond := u_ws RX5 TX5 4
theorem nmX5 : ∀ a, a < 4 → ∀ b, b < 4 → a ≠ b → (TX5 a).2.1 ≠ (TX5 b).2.1 := by decide +kernel
theorem tyX5_ok : ∀ k, k < 4 → parseFieldDescriptor (TX5 k).2.2.1 = some (tyX5 k) := by decide +kernel
abbrev cX5_init : ByteArray := prog_7_method_1_code
def yX5_init : MethodName := ⟨RX5, "<init>", "()V"⟩
abbrev cX5_plan : ByteArray := prog_7_method_2_code
def yX5_plan : MethodName := ⟨RX5, "plan", "(LGarbleWords$State;LGarbleWords$Words;III)I"⟩
abbrev cX5_isNoWorse : ByteArray := prog_7_method_3_code
def yX5_isNoWorse : MethodName := ⟨RX5, "isNoWorse", "(III)Z"⟩
abbrev cX5_choose : ByteArray := prog_7_method_4_code
def yX5_choose : MethodName := ⟨RX5, "choose", "(IIII)V"⟩
def RX6 : String := "GarbleWords$State"
def TX6 : u_T := fun k => match k with
  | 0 => ("GarbleWords$State", "settings", "[I", true)
  | 1 => ("GarbleWords$State", "book", "LGarbleWords$Book;", true)
  | _ => ("GarbleWords$State", "telegram", "LGarbleWords$Telegram;", true)
def tyX6 : Nat → FieldType := fun k => match k with
  | 0 => .array .int
  | 1 => .object "GarbleWords$Book"
  | _ => .object "GarbleWords$Telegram"
abbrev wsX60 : List Cond := u_ws RX6 TX6 3
theorem nmX6 : ∀ a, a < 3 → ∀ b, b < 3 → a ≠ b → (TX6 a).2.1 ≠ (TX6 b).2.1 := by decide +kernel
theorem tyX6_ok : ∀ k, k < 3 → parseFieldDescriptor (TX6 k).2.2.1 = some (tyX6 k) := by decide +kernel
abbrev cX6_init : ByteArray := prog_8_method_1_code
def yX6_init : MethodName := ⟨RX6, "<init>", "()V"⟩
abbrev cX6_codeCost : ByteArray := prog_8_method_2_code
def yX6_codeCost : MethodName := ⟨RX6, "codeCost", "()I"⟩
abbrev cX6_apart : ByteArray := prog_8_method_3_code
def yX6_apart : MethodName := ⟨RX6, "apart", "()I"⟩
abbrev cX6_plainCost : ByteArray := prog_8_method_4_code
def yX6_plainCost : MethodName := ⟨RX6, "plainCost", "(J)I"⟩
abbrev cX6_plainCostOfPhrase : ByteArray := prog_8_method_5_code
def yX6_plainCostOfPhrase : MethodName := ⟨RX6, "plainCostOfPhrase", "(I)I"⟩
abbrev cX6_plainCostOfMessage : ByteArray := prog_8_method_6_code
def yX6_plainCostOfMessage : MethodName := ⟨RX6, "plainCostOfMessage", "()I"⟩
abbrev cX6_timesSent : ByteArray := prog_8_method_7_code
def yX6_timesSent : MethodName := ⟨RX6, "timesSent", "(I)I"⟩
abbrev cX6_copyFrom : ByteArray := prog_8_method_8_code
def yX6_copyFrom : MethodName := ⟨RX6, "copyFrom", "(LGarbleWords$State;)V"⟩
def RX7 : String := "GarbleWords$Telegram"
def TX7 : u_T := fun k => match k with
  | 0 => ("GarbleWords$Telegram", "message", "LGarbleWords$Words;", true)
  | 1 => ("GarbleWords$Telegram", "firsts", "[I", true)
  | 2 => ("GarbleWords$Telegram", "spans", "[I", true)
  | 3 => ("GarbleWords$Telegram", "asCode", "[I", true)
  | 4 => ("GarbleWords$Telegram", "costs", "[I", true)
  | 5 => ("GarbleWords$Telegram", "lengths", "[I", true)
  | 6 => ("GarbleWords$Telegram", "sent", "[I", true)
  | 7 => ("GarbleWords$Telegram", "received", "[I", true)
  | _ => ("GarbleWords$Telegram", "size", "I", false)
def tyX7 : Nat → FieldType := fun k => match k with
  | 0 => .object "GarbleWords$Words"
  | 1 => .array .int
  | 2 => .array .int
  | 3 => .array .int
  | 4 => .array .int
  | 5 => .array .int
  | 6 => .array .int
  | 7 => .array .int
  | _ => .int
abbrev wsX70 : List Cond := u_ws RX7 TX7 9
theorem nmX7 : ∀ a, a < 9 → ∀ b, b < 9 → a ≠ b → (TX7 a).2.1 ≠ (TX7 b).2.1 := by decide +kernel
theorem tyX7_ok : ∀ k, k < 9 → parseFieldDescriptor (TX7 k).2.2.1 = some (tyX7 k) := by decide +kernel
abbrev cX7_init : ByteArray := prog_9_method_1_code
def yX7_init : MethodName := ⟨RX7, "<init>", "()V"⟩
abbrev cX7_has : ByteArray := prog_9_method_2_code
def yX7_has : MethodName := ⟨RX7, "has", "(I)Z"⟩
abbrev cX7_hasPlace : ByteArray := prog_9_method_3_code
def yX7_hasPlace : MethodName := ⟨RX7, "hasPlace", "(II)Z"⟩
abbrev cX7_receivedAt : ByteArray := prog_9_method_4_code
def yX7_receivedAt : MethodName := ⟨RX7, "receivedAt", "(II)I"⟩
abbrev cX7_costInAll : ByteArray := prog_9_method_5_code
def yX7_costInAll : MethodName := ⟨RX7, "costInAll", "()I"⟩
abbrev cX7_garbledLetters : ByteArray := prog_9_method_6_code
def yX7_garbledLetters : MethodName := ⟨RX7, "garbledLetters", "()I"⟩
abbrev cX7_write : ByteArray := prog_9_method_7_code
def yX7_write : MethodName := ⟨RX7, "write", "(LGarbleWords$State;LGarbleWords$Route;)V"⟩
abbrev cX7_writePlain : ByteArray := prog_9_method_8_code
def yX7_writePlain : MethodName := ⟨RX7, "writePlain", "(J)V"⟩
abbrev cX7_writeCode : ByteArray := prog_9_method_9_code
def yX7_writeCode : MethodName := ⟨RX7, "writeCode", "(I)V"⟩
abbrev cX7_writeLetter : ByteArray := prog_9_method_10_code
def yX7_writeLetter : MethodName := ⟨RX7, "writeLetter", "(I)V"⟩
abbrev cX7_copyFrom : ByteArray := prog_9_method_11_code
def yX7_copyFrom : MethodName := ⟨RX7, "copyFrom", "(LGarbleWords$Telegram;)V"⟩
def RX8 : String := "GarbleWords$Words"
def TX8 : u_T := fun k => match k with
  | 0 => ("GarbleWords$Words", "words", "[J", true)
  | _ => ("GarbleWords$Words", "size", "I", false)
def tyX8 : Nat → FieldType := fun k => match k with
  | 0 => .array .long
  | _ => .int
abbrev wsX80 : List Cond := u_ws RX8 TX8 2
theorem nmX8 : ∀ a, a < 2 → ∀ b, b < 2 → a ≠ b → (TX8 a).2.1 ≠ (TX8 b).2.1 := by decide +kernel
theorem tyX8_ok : ∀ k, k < 2 → parseFieldDescriptor (TX8 k).2.2.1 = some (tyX8 k) := by decide +kernel
abbrev cX8_init : ByteArray := prog_10_method_1_code
def yX8_init : MethodName := ⟨RX8, "<init>", "()V"⟩
abbrev cX8_wordAt : ByteArray := prog_10_method_2_code
def yX8_wordAt : MethodName := ⟨RX8, "wordAt", "(I)J"⟩
abbrev cX8_append : ByteArray := prog_10_method_3_code
def yX8_append : MethodName := ⟨RX8, "append", "(J)V"⟩
abbrev cX8_copyFrom : ByteArray := prog_10_method_4_code
def yX8_copyFrom : MethodName := ⟨RX8, "copyFrom", "(LGarbleWords$Words;)V"⟩
abbrev cX8_hasLike : ByteArray := prog_10_method_5_code
def yX8_hasLike : MethodName := ⟨RX8, "hasLike", "(III)Z"⟩
def RX9 : String := "GarbleWords"
def TX9 : u_T := fun k => match k with
  | 0 => ("GarbleWords", "now", "LGarbleWords$State;", true)
  | 1 => ("GarbleWords", "history", "LGarbleWords$History;", true)
  | 2 => ("GarbleWords", "slots", "[LGarbleWords$State;", true)
  | 3 => ("GarbleWords", "pad", "LGarbleWords$Pad;", true)
  | 4 => ("GarbleWords", "read", "LGarbleWords$Words;", true)
  | 5 => ("GarbleWords", "route", "LGarbleWords$Route;", true)
  | 6 => ("GarbleWords", "free", "LGarbleWords$FreeCodes;", true)
  | _ => ("GarbleWords", "reception", "LGarbleWords$Reception;", true)
def tyX9 : Nat → FieldType := fun k => match k with
  | 0 => .object "GarbleWords$State"
  | 1 => .object "GarbleWords$History"
  | 2 => .array (.object "GarbleWords$State")
  | 3 => .object "GarbleWords$Pad"
  | 4 => .object "GarbleWords$Words"
  | 5 => .object "GarbleWords$Route"
  | 6 => .object "GarbleWords$FreeCodes"
  | _ => .object "GarbleWords$Reception"
abbrev wsX90 : List Cond := u_ws RX9 TX9 8
theorem nmX9 : ∀ a, a < 8 → ∀ b, b < 8 → a ≠ b → (TX9 a).2.1 ≠ (TX9 b).2.1 := by decide +kernel
theorem tyX9_ok : ∀ k, k < 8 → parseFieldDescriptor (TX9 k).2.2.1 = some (tyX9 k) := by decide +kernel
abbrev cX9_init : ByteArray := prog_1_method_1_code
def yX9_init : MethodName := ⟨RX9, "<init>", "()V"⟩
abbrev cX9_set : ByteArray := prog_1_method_2_code
def yX9_set : MethodName := ⟨RX9, "set", "(II)I"⟩
abbrev cX9_enter : ByteArray := prog_1_method_3_code
def yX9_enter : MethodName := ⟨RX9, "enter", "()I"⟩
abbrev cX9_recode : ByteArray := prog_1_method_4_code
def yX9_recode : MethodName := ⟨RX9, "recode", "(II)I"⟩
abbrev cX9_drop : ByteArray := prog_1_method_5_code
def yX9_drop : MethodName := ⟨RX9, "drop", "(I)I"⟩
abbrev cX9_send : ByteArray := prog_1_method_6_code
def yX9_send : MethodName := ⟨RX9, "send", "()I"⟩
abbrev cX9_sendAgain : ByteArray := prog_1_method_7_code
def yX9_sendAgain : MethodName := ⟨RX9, "sendAgain", "()I"⟩
abbrev cX9_garble : ByteArray := prog_1_method_8_code
def yX9_garble : MethodName := ⟨RX9, "garble", "(III)I"⟩
abbrev cX9_entry : ByteArray := prog_1_method_9_code
def yX9_entry : MethodName := ⟨RX9, "entry", "(II)I"⟩
abbrev cX9_phraseSign : ByteArray := prog_1_method_10_code
def yX9_phraseSign : MethodName := ⟨RX9, "phraseSign", "(II)I"⟩
abbrev cX9_count : ByteArray := prog_1_method_11_code
def yX9_count : MethodName := ⟨RX9, "count", "(I)I"⟩
abbrev cX9_letter : ByteArray := prog_1_method_12_code
def yX9_letter : MethodName := ⟨RX9, "letter", "(II)I"⟩
abbrev cX9_received : ByteArray := prog_1_method_13_code
def yX9_received : MethodName := ⟨RX9, "received", "(II)I"⟩
abbrev cX9_receivedSo : ByteArray := prog_1_method_14_code
def yX9_receivedSo : MethodName := ⟨RX9, "receivedSo", "(I)I"⟩
abbrev cX9_costOf : ByteArray := prog_1_method_15_code
def yX9_costOf : MethodName := ⟨RX9, "costOf", "()I"⟩
abbrev cX9_saves : ByteArray := prog_1_method_16_code
def yX9_saves : MethodName := ⟨RX9, "saves", "(I)I"⟩
abbrev cX9_bestPhrase : ByteArray := prog_1_method_17_code
def yX9_bestPhrase : MethodName := ⟨RX9, "bestPhrase", "(I)I"⟩
abbrev cX9_left : ByteArray := prog_1_method_18_code
def yX9_left : MethodName := ⟨RX9, "left", "()I"⟩
abbrev cX9_distance : ByteArray := prog_1_method_19_code
def yX9_distance : MethodName := ⟨RX9, "distance", "(II)I"⟩
abbrev cX9_put : ByteArray := prog_1_method_20_code
def yX9_put : MethodName := ⟨RX9, "put", "(J)I"⟩
abbrev cX9_wipe : ByteArray := prog_1_method_21_code
def yX9_wipe : MethodName := ⟨RX9, "wipe", "()I"⟩
abbrev cX9_fault : ByteArray := prog_1_method_22_code
def yX9_fault : MethodName := ⟨RX9, "fault", "()I"⟩
abbrev cX9_undo : ByteArray := prog_1_method_23_code
def yX9_undo : MethodName := ⟨RX9, "undo", "()I"⟩
abbrev cX9_save : ByteArray := prog_1_method_24_code
def yX9_save : MethodName := ⟨RX9, "save", "(I)I"⟩
abbrev cX9_restore : ByteArray := prog_1_method_25_code
def yX9_restore : MethodName := ⟨RX9, "restore", "(I)I"⟩
abbrev cX9_readPad : ByteArray := prog_1_method_26_code
def yX9_readPad : MethodName := ⟨RX9, "readPad", "()Z"⟩
abbrev cX9_sendMessage : ByteArray := prog_1_method_27_code
def yX9_sendMessage : MethodName := ⟨RX9, "sendMessage", "()I"⟩
abbrev cX9_signsIn : ByteArray := prog_1_method_28_code
def yX9_signsIn : MethodName := ⟨RX9, "signsIn", "(J)I"⟩
abbrev cX9_isCode : ByteArray := prog_1_method_29_code
def yX9_isCode : MethodName := ⟨RX9, "isCode", "(I)Z"⟩
abbrev cX9_codeLetterOf : ByteArray := prog_1_method_30_code
def yX9_codeLetterOf : MethodName := ⟨RX9, "codeLetterOf", "(II)I"⟩
abbrev cX9_unlikePlaces : ByteArray := prog_1_method_31_code
def yX9_unlikePlaces : MethodName := ⟨RX9, "unlikePlaces", "(II)I"⟩
abbrev cX9_unlikeInHalf : ByteArray := prog_1_method_32_code
def yX9_unlikeInHalf : MethodName := ⟨RX9, "unlikeInHalf", "(II)I"⟩
abbrev cX9_longerWord : ByteArray := prog_1_method_33_code
def yX9_longerWord : MethodName := ⟨RX9, "longerWord", "(JI)J"⟩
abbrev cX9_lengthOf : ByteArray := prog_1_method_34_code
def yX9_lengthOf : MethodName := ⟨RX9, "lengthOf", "(J)I"⟩
abbrev cX9_plainLetterOf : ByteArray := prog_1_method_35_code
def yX9_plainLetterOf : MethodName := ⟨RX9, "plainLetterOf", "(JI)I"⟩
abbrev cX9_checkLetterOf : ByteArray := prog_1_method_36_code
def yX9_checkLetterOf : MethodName := ⟨RX9, "checkLetterOf", "(J)I"⟩
abbrev cX9_at : ByteArray := prog_1_method_37_code
def yX9_at : MethodName := ⟨RX9, "at", "([II)I"⟩
abbrev cX9_at_ : ByteArray := prog_1_method_38_code
def yX9_at_ : MethodName := ⟨RX9, "at", "([JI)J"⟩
abbrev cX9_lay : ByteArray := prog_1_method_39_code
def yX9_lay : MethodName := ⟨RX9, "lay", "([III)V"⟩
abbrev cX9_lay_ : ByteArray := prog_1_method_40_code
def yX9_lay_ : MethodName := ⟨RX9, "lay", "([JIJ)V"⟩
abbrev cX9_copyRow : ByteArray := prog_1_method_41_code
def yX9_copyRow : MethodName := ⟨RX9, "copyRow", "([I[I)V"⟩
abbrev cX9_copyRow_ : ByteArray := prog_1_method_42_code
def yX9_copyRow_ : MethodName := ⟨RX9, "copyRow", "([J[J)V"⟩
def RX10 : String := "GarbleWordsModel"
def TX10 : u_T := fun k => match k with
  | 0 => ("GarbleWordsModel", "state", "[I", true)
  | 1 => ("GarbleWordsModel", "history", "[I", true)
  | 2 => ("GarbleWordsModel", "recorded", "I", false)
  | 3 => ("GarbleWordsModel", "slots", "[I", true)
  | 4 => ("GarbleWordsModel", "isSaved", "[I", true)
  | 5 => ("GarbleWordsModel", "pad", "[I", true)
  | 6 => ("GarbleWordsModel", "padLength", "I", false)
  | 7 => ("GarbleWordsModel", "text", "[I", true)
  | 8 => ("GarbleWordsModel", "signs", "I", false)
  | 9 => ("GarbleWordsModel", "words", "I", false)
  | 10 => ("GarbleWordsModel", "starts", "[I", true)
  | 11 => ("GarbleWordsModel", "sizes", "[I", true)
  | 12 => ("GarbleWordsModel", "costs", "[I", true)
  | 13 => ("GarbleWordsModel", "counts", "[I", true)
  | 14 => ("GarbleWordsModel", "spans", "[I", true)
  | 15 => ("GarbleWordsModel", "entries", "[I", true)
  | _ => ("GarbleWordsModel", "taken", "[I", true)
def tyX10 : Nat → FieldType := fun k => match k with
  | 0 => .array .int
  | 1 => .array .int
  | 2 => .int
  | 3 => .array .int
  | 4 => .array .int
  | 5 => .array .int
  | 6 => .int
  | 7 => .array .int
  | 8 => .int
  | 9 => .int
  | 10 => .array .int
  | 11 => .array .int
  | 12 => .array .int
  | 13 => .array .int
  | 14 => .array .int
  | 15 => .array .int
  | _ => .array .int
abbrev wsX100 : List Cond := u_ws RX10 TX10 17
theorem nmX10 : ∀ a, a < 17 → ∀ b, b < 17 → a ≠ b → (TX10 a).2.1 ≠ (TX10 b).2.1 := by decide +kernel
theorem tyX10_ok : ∀ k, k < 17 → parseFieldDescriptor (TX10 k).2.2.1 = some (tyX10 k) := by decide +kernel
abbrev cX10_init : ByteArray := prog_12_method_1_code
def yX10_init : MethodName := ⟨RX10, "<init>", "()V"⟩
abbrev cX10_copy : ByteArray := prog_12_method_3_code
def yX10_copy : MethodName := ⟨RX10, "copy", "([II[II)V"⟩
abbrev cX10_within : ByteArray := prog_12_method_4_code
def yX10_within : MethodName := ⟨RX10, "within", "(III)Z"⟩
abbrev cX10_record : ByteArray := prog_12_method_5_code
def yX10_record : MethodName := ⟨RX10, "record", "()V"⟩
abbrev cX10_isPlain : ByteArray := prog_12_method_6_code
def yX10_isPlain : MethodName := ⟨RX10, "isPlain", "(I)Z"⟩
abbrev cX10_findFault : ByteArray := prog_12_method_7_code
def yX10_findFault : MethodName := ⟨RX10, "findFault", "()I"⟩
abbrev cX10_findWords : ByteArray := prog_12_method_8_code
def yX10_findWords : MethodName := ⟨RX10, "findWords", "()V"⟩
abbrev cX10_lookAtPad : ByteArray := prog_12_method_9_code
def yX10_lookAtPad : MethodName := ⟨RX10, "lookAtPad", "()V"⟩
abbrev cX10_lookAtMessage : ByteArray := prog_12_method_10_code
def yX10_lookAtMessage : MethodName := ⟨RX10, "lookAtMessage", "()V"⟩
abbrev cX10_digit : ByteArray := prog_12_method_11_code
def yX10_digit : MethodName := ⟨RX10, "digit", "(II)I"⟩
abbrev cX10_apart : ByteArray := prog_12_method_12_code
def yX10_apart : MethodName := ⟨RX10, "apart", "(II)I"⟩
abbrev cX10_isEntry : ByteArray := prog_12_method_13_code
def yX10_isEntry : MethodName := ⟨RX10, "isEntry", "(I)Z"⟩
abbrev cX10_entryPart : ByteArray := prog_12_method_14_code
def yX10_entryPart : MethodName := ⟨RX10, "entryPart", "(II)I"⟩
abbrev cX10_takeCodes : ByteArray := prog_12_method_15_code
def yX10_takeCodes : MethodName := ⟨RX10, "takeCodes", "()I"⟩
abbrev cX10_isFar : ByteArray := prog_12_method_16_code
def yX10_isFar : MethodName := ⟨RX10, "isFar", "(II)Z"⟩
abbrev cX10_freeCode : ByteArray := prog_12_method_17_code
def yX10_freeCode : MethodName := ⟨RX10, "freeCode", "()I"⟩
abbrev cX10_nearest : ByteArray := prog_12_method_18_code
def yX10_nearest : MethodName := ⟨RX10, "nearest", "(I)I"⟩
abbrev cX10_plainCost : ByteArray := prog_12_method_19_code
def yX10_plainCost : MethodName := ⟨RX10, "plainCost", "(I)I"⟩
abbrev cX10_signsOf : ByteArray := prog_12_method_20_code
def yX10_signsOf : MethodName := ⟨RX10, "signsOf", "(II)I"⟩
abbrev cX10_isPhraseAt : ByteArray := prog_12_method_21_code
def yX10_isPhraseAt : MethodName := ⟨RX10, "isPhraseAt", "(III)Z"⟩
abbrev cX10_areAlike : ByteArray := prog_12_method_22_code
def yX10_areAlike : MethodName := ⟨RX10, "areAlike", "(III)Z"⟩
abbrev cX10_entryOf : ByteArray := prog_12_method_23_code
def yX10_entryOf : MethodName := ⟨RX10, "entryOf", "(III)I"⟩
abbrev cX10_findWay : ByteArray := prog_12_method_24_code
def yX10_findWay : MethodName := ⟨RX10, "findWay", "(III)V"⟩
abbrev cX10_wayCost : ByteArray := prog_12_method_25_code
def yX10_wayCost : MethodName := ⟨RX10, "wayCost", "()I"⟩
abbrev cX10_allPlain : ByteArray := prog_12_method_26_code
def yX10_allPlain : MethodName := ⟨RX10, "allPlain", "()I"⟩
abbrev cX10_wordPart : ByteArray := prog_12_method_27_code
def yX10_wordPart : MethodName := ⟨RX10, "wordPart", "(II)I"⟩
abbrev cX10_setWord : ByteArray := prog_12_method_28_code
def yX10_setWord : MethodName := ⟨RX10, "setWord", "(III)V"⟩
abbrev cX10_setLetter : ByteArray := prog_12_method_29_code
def yX10_setLetter : MethodName := ⟨RX10, "setLetter", "(III)V"⟩
abbrev cX10_sendPlain : ByteArray := prog_12_method_30_code
def yX10_sendPlain : MethodName := ⟨RX10, "sendPlain", "(II)V"⟩
abbrev cX10_sendCode : ByteArray := prog_12_method_31_code
def yX10_sendCode : MethodName := ⟨RX10, "sendCode", "(II)V"⟩
abbrev cX10_sends : ByteArray := prog_12_method_32_code
def yX10_sends : MethodName := ⟨RX10, "sends", "()I"⟩
abbrev cX10_isValue : ByteArray := prog_12_method_33_code
def yX10_isValue : MethodName := ⟨RX10, "isValue", "(II)Z"⟩
abbrev cX10_set : ByteArray := prog_12_method_34_code
def yX10_set : MethodName := ⟨RX10, "set", "(II)I"⟩
abbrev cX10_enter : ByteArray := prog_12_method_35_code
def yX10_enter : MethodName := ⟨RX10, "enter", "()I"⟩
abbrev cX10_canHave : ByteArray := prog_12_method_36_code
def yX10_canHave : MethodName := ⟨RX10, "canHave", "(II)Z"⟩
abbrev cX10_recode : ByteArray := prog_12_method_37_code
def yX10_recode : MethodName := ⟨RX10, "recode", "(II)I"⟩
abbrev cX10_drop : ByteArray := prog_12_method_38_code
def yX10_drop : MethodName := ⟨RX10, "drop", "(I)I"⟩
abbrev cX10_send : ByteArray := prog_12_method_39_code
def yX10_send : MethodName := ⟨RX10, "send", "()I"⟩
abbrev cX10_sendAgain : ByteArray := prog_12_method_40_code
def yX10_sendAgain : MethodName := ⟨RX10, "sendAgain", "()I"⟩
abbrev cX10_isSent : ByteArray := prog_12_method_41_code
def yX10_isSent : MethodName := ⟨RX10, "isSent", "(I)Z"⟩
abbrev cX10_garble : ByteArray := prog_12_method_42_code
def yX10_garble : MethodName := ⟨RX10, "garble", "(III)I"⟩
abbrev cX10_wordsOf : ByteArray := prog_12_method_43_code
def yX10_wordsOf : MethodName := ⟨RX10, "wordsOf", "(I)I"⟩
abbrev cX10_plainCostOf : ByteArray := prog_12_method_44_code
def yX10_plainCostOf : MethodName := ⟨RX10, "plainCostOf", "(I)I"⟩
abbrev cX10_sentAs : ByteArray := prog_12_method_45_code
def yX10_sentAs : MethodName := ⟨RX10, "sentAs", "(I)I"⟩
abbrev cX10_entry : ByteArray := prog_12_method_46_code
def yX10_entry : MethodName := ⟨RX10, "entry", "(II)I"⟩
abbrev cX10_phraseSign : ByteArray := prog_12_method_47_code
def yX10_phraseSign : MethodName := ⟨RX10, "phraseSign", "(II)I"⟩
abbrev cX10_nearestOfAll : ByteArray := prog_12_method_48_code
def yX10_nearestOfAll : MethodName := ⟨RX10, "nearestOfAll", "()I"⟩
abbrev cX10_garbled : ByteArray := prog_12_method_49_code
def yX10_garbled : MethodName := ⟨RX10, "garbled", "()I"⟩
abbrev cX10_count : ByteArray := prog_12_method_50_code
def yX10_count : MethodName := ⟨RX10, "count", "(I)I"⟩
abbrev cX10_letter : ByteArray := prog_12_method_51_code
def yX10_letter : MethodName := ⟨RX10, "letter", "(II)I"⟩
abbrev cX10_isCodeLike : ByteArray := prog_12_method_52_code
def yX10_isCodeLike : MethodName := ⟨RX10, "isCodeLike", "(I)Z"⟩
abbrev cX10_unlike : ByteArray := prog_12_method_53_code
def yX10_unlike : MethodName := ⟨RX10, "unlike", "(II)I"⟩
abbrev cX10_entriesAt : ByteArray := prog_12_method_54_code
def yX10_entriesAt : MethodName := ⟨RX10, "entriesAt", "(II)I"⟩
abbrev cX10_entryAt : ByteArray := prog_12_method_55_code
def yX10_entryAt : MethodName := ⟨RX10, "entryAt", "(II)I"⟩
abbrev cX10_isPlainly : ByteArray := prog_12_method_56_code
def yX10_isPlainly : MethodName := ⟨RX10, "isPlainly", "(I)Z"⟩
abbrev cX10_how : ByteArray := prog_12_method_57_code
def yX10_how : MethodName := ⟨RX10, "how", "(I)I"⟩
abbrev cX10_receivedEntry : ByteArray := prog_12_method_58_code
def yX10_receivedEntry : MethodName := ⟨RX10, "receivedEntry", "(I)I"⟩
abbrev cX10_mendedPlace : ByteArray := prog_12_method_59_code
def yX10_mendedPlace : MethodName := ⟨RX10, "mendedPlace", "(I)I"⟩
abbrev cX10_isAsSent : ByteArray := prog_12_method_60_code
def yX10_isAsSent : MethodName := ⟨RX10, "isAsSent", "(I)Z"⟩
abbrev cX10_received : ByteArray := prog_12_method_61_code
def yX10_received : MethodName := ⟨RX10, "received", "(II)I"⟩
abbrev cX10_receivedSo : ByteArray := prog_12_method_62_code
def yX10_receivedSo : MethodName := ⟨RX10, "receivedSo", "(I)I"⟩
abbrev cX10_costOf : ByteArray := prog_12_method_63_code
def yX10_costOf : MethodName := ⟨RX10, "costOf", "()I"⟩
abbrev cX10_saves : ByteArray := prog_12_method_64_code
def yX10_saves : MethodName := ⟨RX10, "saves", "(I)I"⟩
abbrev cX10_bestPhrase : ByteArray := prog_12_method_65_code
def yX10_bestPhrase : MethodName := ⟨RX10, "bestPhrase", "(I)I"⟩
abbrev cX10_left : ByteArray := prog_12_method_66_code
def yX10_left : MethodName := ⟨RX10, "left", "()I"⟩
abbrev cX10_distance : ByteArray := prog_12_method_67_code
def yX10_distance : MethodName := ⟨RX10, "distance", "(II)I"⟩
abbrev cX10_put : ByteArray := prog_12_method_68_code
def yX10_put : MethodName := ⟨RX10, "put", "(J)I"⟩
abbrev cX10_wipe : ByteArray := prog_12_method_69_code
def yX10_wipe : MethodName := ⟨RX10, "wipe", "()I"⟩
abbrev cX10_fault : ByteArray := prog_12_method_70_code
def yX10_fault : MethodName := ⟨RX10, "fault", "()I"⟩
abbrev cX10_undo : ByteArray := prog_12_method_71_code
def yX10_undo : MethodName := ⟨RX10, "undo", "()I"⟩
abbrev cX10_save : ByteArray := prog_12_method_72_code
def yX10_save : MethodName := ⟨RX10, "save", "(I)I"⟩
abbrev cX10_restore : ByteArray := prog_12_method_73_code
def yX10_restore : MethodName := ⟨RX10, "restore", "(I)I"⟩
def RJ9 : String := "java/lang/Math"
def TJ9 : u_T := fun k => match k with
  | _ => ("", "", "", false)
def tyJ9 : Nat → FieldType := fun k => match k with
  | _ => .int
abbrev wsJ90 : List Cond := u_ws RJ9 TJ9 0
theorem nmJ9 : ∀ a, a < 0 → ∀ b, b < 0 → a ≠ b → (TJ9 a).2.1 ≠ (TJ9 b).2.1 := by decide +kernel
theorem tyJ9_ok : ∀ k, k < 0 → parseFieldDescriptor (TJ9 k).2.2.1 = some (tyJ9 k) := by decide +kernel
abbrev cJ9_max_7cf53 : ByteArray := prog_13_method_65_code
def yJ9_max_7cf53 : MethodName := ⟨RJ9, "max", "(II)I"⟩
abbrev cJ9_min_7cf53 : ByteArray := prog_13_method_69_code
def yJ9_min_7cf53 : MethodName := ⟨RJ9, "min", "(II)I"⟩
def RJ10 : String := "java/lang/System"
def TJ10 : u_T := fun k => match k with
  | _ => ("", "", "", false)
def tyJ10 : Nat → FieldType := fun k => match k with
  | _ => .int
abbrev wsJ100 : List Cond := u_ws RJ10 TJ10 0
theorem nmJ10 : ∀ a, a < 0 → ∀ b, b < 0 → a ≠ b → (TJ10 a).2.1 ≠ (TJ10 b).2.1 := by decide +kernel
theorem tyJ10_ok : ∀ k, k < 0 → parseFieldDescriptor (TJ10 k).2.2.1 = some (tyJ10 k) := by decide +kernel
def RL : String := "GarbleWordsLaw"
abbrev cL_law : ByteArray := code
def yL_law : MethodName := ⟨RL, "law", "([I)Z"⟩
abbrev vwCl : List vw_C := [(RX0, TX0, 3), (RX1, TX1, 1), (RX2, TX2, 3), (RX3, TX3, 2), (RX4, TX4, 4), (RX5, TX5, 4), (RX6, TX6, 3), (RX7, TX7, 9), (RX8, TX8, 2), (RX9, TX9, 8), (RX10, TX10, 17)]
