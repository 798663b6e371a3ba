-- ===== PART A: goes FIRST, ahead of the names: the tables' words, and 'selects' of the private methods out of them =====
/-- a private method of a class that the tables say can be made, by its rows of tables_1 -/
def lw_okq (q : MethodName × Nat) : Prop := (q.1.cls ≠ "java/lang/invoke/MethodHandle" ∧ q.1.cls ≠ "java/lang/invoke/VarHandle") ∧ Cond.instantiable q.1.cls q.2 ∈ tables_1 ∧ Cond.privateMethod q.1 ∈ tables_1 ∧ Cond.instanceMethod q.1 ∈ tables_1
theorem lw_p0 : lw_okq (⟨"SteamTunes$Reader", "readToken", "()V"⟩, 14) := ⟨⟨by decide +kernel, by decide +kernel⟩, List.mem_of_getElem? (i := 131) (by decide +kernel), List.mem_of_getElem? (i := 546) (by decide +kernel), List.mem_of_getElem? (i := 547) (by decide +kernel)⟩
theorem lw_p1 : lw_okq (⟨"SteamTunes$Reader", "isLetter", "(I)Z"⟩, 14) := ⟨⟨by decide +kernel, by decide +kernel⟩, List.mem_of_getElem? (i := 131) (by decide +kernel), List.mem_of_getElem? (i := 550) (by decide +kernel), List.mem_of_getElem? (i := 551) (by decide +kernel)⟩
theorem lw_p2 : lw_okq (⟨"SteamTunes$Reader", "readChord", "()V"⟩, 14) := ⟨⟨by decide +kernel, by decide +kernel⟩, List.mem_of_getElem? (i := 131) (by decide +kernel), List.mem_of_getElem? (i := 554) (by decide +kernel), List.mem_of_getElem? (i := 555) (by decide +kernel)⟩
theorem lw_p3 : lw_okq (⟨"SteamTunes$Reader", "fail", "(II)V"⟩, 14) := ⟨⟨by decide +kernel, by decide +kernel⟩, List.mem_of_getElem? (i := 131) (by decide +kernel), List.mem_of_getElem? (i := 558) (by decide +kernel), List.mem_of_getElem? (i := 559) (by decide +kernel)⟩
theorem lw_p4 : lw_okq (⟨"SteamTunes$Reader", "isFigure", "(I)Z"⟩, 14) := ⟨⟨by decide +kernel, by decide +kernel⟩, List.mem_of_getElem? (i := 131) (by decide +kernel), List.mem_of_getElem? (i := 562) (by decide +kernel), List.mem_of_getElem? (i := 563) (by decide +kernel)⟩
theorem lw_p5 : lw_okq (⟨"SteamTunes$Reader", "readNumber", "()V"⟩, 14) := ⟨⟨by decide +kernel, by decide +kernel⟩, List.mem_of_getElem? (i := 131) (by decide +kernel), List.mem_of_getElem? (i := 566) (by decide +kernel), List.mem_of_getElem? (i := 567) (by decide +kernel)⟩
theorem lw_p6 : lw_okq (⟨"SteamTunes$Reader", "readSign", "()V"⟩, 14) := ⟨⟨by decide +kernel, by decide +kernel⟩, List.mem_of_getElem? (i := 131) (by decide +kernel), List.mem_of_getElem? (i := 570) (by decide +kernel), List.mem_of_getElem? (i := 571) (by decide +kernel)⟩
theorem lw_p7 : lw_okq (⟨"SteamTunes$Reader", "take", "(I)I"⟩, 14) := ⟨⟨by decide +kernel, by decide +kernel⟩, List.mem_of_getElem? (i := 131) (by decide +kernel), List.mem_of_getElem? (i := 574) (by decide +kernel), List.mem_of_getElem? (i := 575) (by decide +kernel)⟩
theorem lw_p8 : lw_okq (⟨"SteamTunes$Reader", "takeOpen", "()I"⟩, 14) := ⟨⟨by decide +kernel, by decide +kernel⟩, List.mem_of_getElem? (i := 131) (by decide +kernel), List.mem_of_getElem? (i := 578) (by decide +kernel), List.mem_of_getElem? (i := 579) (by decide +kernel)⟩
theorem lw_p9 : lw_okq (⟨"SteamTunes$Reader", "misplaced", "()I"⟩, 14) := ⟨⟨by decide +kernel, by decide +kernel⟩, List.mem_of_getElem? (i := 131) (by decide +kernel), List.mem_of_getElem? (i := 582) (by decide +kernel), List.mem_of_getElem? (i := 583) (by decide +kernel)⟩
theorem lw_p10 : lw_okq (⟨"SteamTunes$Reader", "takeChord", "()I"⟩, 14) := ⟨⟨by decide +kernel, by decide +kernel⟩, List.mem_of_getElem? (i := 131) (by decide +kernel), List.mem_of_getElem? (i := 586) (by decide +kernel), List.mem_of_getElem? (i := 587) (by decide +kernel)⟩
theorem lw_p11 : lw_okq (⟨"SteamTunes$Reader", "addBeat", "(I)I"⟩, 14) := ⟨⟨by decide +kernel, by decide +kernel⟩, List.mem_of_getElem? (i := 131) (by decide +kernel), List.mem_of_getElem? (i := 590) (by decide +kernel), List.mem_of_getElem? (i := 591) (by decide +kernel)⟩
theorem lw_p12 : lw_okq (⟨"SteamTunes$Reader", "takeNumber", "()I"⟩, 14) := ⟨⟨by decide +kernel, by decide +kernel⟩, List.mem_of_getElem? (i := 131) (by decide +kernel), List.mem_of_getElem? (i := 595) (by decide +kernel), List.mem_of_getElem? (i := 596) (by decide +kernel)⟩
theorem lw_p13 : lw_okq (⟨"SteamTunes$Reader", "takeClose", "()I"⟩, 14) := ⟨⟨by decide +kernel, by decide +kernel⟩, List.mem_of_getElem? (i := 131) (by decide +kernel), List.mem_of_getElem? (i := 600) (by decide +kernel), List.mem_of_getElem? (i := 601) (by decide +kernel)⟩
theorem lw_p14 : lw_okq (⟨"SteamTunes$Reader", "takeEnd", "()I"⟩, 14) := ⟨⟨by decide +kernel, by decide +kernel⟩, List.mem_of_getElem? (i := 131) (by decide +kernel), List.mem_of_getElem? (i := 604) (by decide +kernel), List.mem_of_getElem? (i := 605) (by decide +kernel)⟩
theorem lw_p15 : lw_okq (⟨"SteamTunes", "isBeat", "(III)Z"⟩, 10) := ⟨⟨by decide +kernel, by decide +kernel⟩, List.mem_of_getElem? (i := 17) (by decide +kernel), List.mem_of_getElem? (i := 646) (by decide +kernel), List.mem_of_getElem? (i := 647) (by decide +kernel)⟩
def lw_privs_1 : List (MethodName × Nat) := [(⟨"SteamTunes$Reader", "readToken", "()V"⟩, 14), (⟨"SteamTunes$Reader", "isLetter", "(I)Z"⟩, 14), (⟨"SteamTunes$Reader", "readChord", "()V"⟩, 14), (⟨"SteamTunes$Reader", "fail", "(II)V"⟩, 14), (⟨"SteamTunes$Reader", "isFigure", "(I)Z"⟩, 14), (⟨"SteamTunes$Reader", "readNumber", "()V"⟩, 14), (⟨"SteamTunes$Reader", "readSign", "()V"⟩, 14), (⟨"SteamTunes$Reader", "take", "(I)I"⟩, 14), (⟨"SteamTunes$Reader", "takeOpen", "()I"⟩, 14), (⟨"SteamTunes$Reader", "misplaced", "()I"⟩, 14), (⟨"SteamTunes$Reader", "takeChord", "()I"⟩, 14), (⟨"SteamTunes$Reader", "addBeat", "(I)I"⟩, 14), (⟨"SteamTunes$Reader", "takeNumber", "()I"⟩, 14), (⟨"SteamTunes$Reader", "takeClose", "()I"⟩, 14), (⟨"SteamTunes$Reader", "takeEnd", "()I"⟩, 14), (⟨"SteamTunes", "isBeat", "(III)Z"⟩, 10)]
theorem lw_r1 : ∀ q ∈ lw_privs_1, lw_okq q := List.forall_mem_cons.mpr ⟨lw_p0, List.forall_mem_cons.mpr ⟨lw_p1, List.forall_mem_cons.mpr ⟨lw_p2, List.forall_mem_cons.mpr ⟨lw_p3, List.forall_mem_cons.mpr ⟨lw_p4, List.forall_mem_cons.mpr ⟨lw_p5, List.forall_mem_cons.mpr ⟨lw_p6, List.forall_mem_cons.mpr ⟨lw_p7, List.forall_mem_cons.mpr ⟨lw_p8, List.forall_mem_cons.mpr ⟨lw_p9, List.forall_mem_cons.mpr ⟨lw_p10, List.forall_mem_cons.mpr ⟨lw_p11, List.forall_mem_cons.mpr ⟨lw_p12, List.forall_mem_cons.mpr ⟨lw_p13, List.forall_mem_cons.mpr ⟨lw_p14, List.forall_mem_cons.mpr ⟨lw_p15, fun _ h => absurd h List.not_mem_nil⟩⟩⟩⟩⟩⟩⟩⟩⟩⟩⟩⟩⟩⟩⟩⟩
theorem lw_p16 : lw_okq (⟨"SteamTunes", "tryOut", "(II)I"⟩, 10) := ⟨⟨by decide +kernel, by decide +kernel⟩, List.mem_of_getElem? (i := 17) (by decide +kernel), List.mem_of_getElem? (i := 654) (by decide +kernel), List.mem_of_getElem? (i := 655) (by decide +kernel)⟩
theorem lw_p17 : lw_okq (⟨"SteamTunes$Setting", "markNear", "(LSteamTunes$Whistles;I)V"⟩, 16) := ⟨⟨by decide +kernel, by decide +kernel⟩, List.mem_of_getElem? (i := 207) (by decide +kernel), List.mem_of_getElem? (i := 705) (by decide +kernel), List.mem_of_getElem? (i := 706) (by decide +kernel)⟩
theorem lw_p18 : lw_okq (⟨"SteamTunes$Setting", "listOptions", "(LSteamTunes$Whistles;I)V"⟩, 16) := ⟨⟨by decide +kernel, by decide +kernel⟩, List.mem_of_getElem? (i := 207) (by decide +kernel), List.mem_of_getElem? (i := 719) (by decide +kernel), List.mem_of_getElem? (i := 720) (by decide +kernel)⟩
theorem lw_p19 : lw_okq (⟨"SteamTunes$Setting", "fillSounding", "(LSteamTunes$Boiler;I)V"⟩, 16) := ⟨⟨by decide +kernel, by decide +kernel⟩, List.mem_of_getElem? (i := 207) (by decide +kernel), List.mem_of_getElem? (i := 723) (by decide +kernel), List.mem_of_getElem? (i := 724) (by decide +kernel)⟩
theorem lw_p20 : lw_okq (⟨"SteamTunes$Setting", "isOpen", "(II)Z"⟩, 16) := ⟨⟨by decide +kernel, by decide +kernel⟩, List.mem_of_getElem? (i := 207) (by decide +kernel), List.mem_of_getElem? (i := 727) (by decide +kernel), List.mem_of_getElem? (i := 728) (by decide +kernel)⟩
theorem lw_p21 : lw_okq (⟨"SteamTunes$Setting", "raise", "(III)V"⟩, 16) := ⟨⟨by decide +kernel, by decide +kernel⟩, List.mem_of_getElem? (i := 207) (by decide +kernel), List.mem_of_getElem? (i := 737) (by decide +kernel), List.mem_of_getElem? (i := 738) (by decide +kernel)⟩
theorem lw_p22 : lw_okq (⟨"SteamTunes$Setting", "fillResting", "(LSteamTunes$Boiler;I)V"⟩, 16) := ⟨⟨by decide +kernel, by decide +kernel⟩, List.mem_of_getElem? (i := 207) (by decide +kernel), List.mem_of_getElem? (i := 741) (by decide +kernel), List.mem_of_getElem? (i := 742) (by decide +kernel)⟩
theorem lw_p23 : lw_okq (⟨"SteamTunes$Setting", "follow", "(LSteamTunes$Boiler;LSteamTunes$Whistles;I)V"⟩, 16) := ⟨⟨by decide +kernel, by decide +kernel⟩, List.mem_of_getElem? (i := 207) (by decide +kernel), List.mem_of_getElem? (i := 746) (by decide +kernel), List.mem_of_getElem? (i := 747) (by decide +kernel)⟩
theorem lw_p24 : lw_okq (⟨"SteamTunes$Setting", "bestOption", "(LSteamTunes$Boiler;III)I"⟩, 16) := ⟨⟨by decide +kernel, by decide +kernel⟩, List.mem_of_getElem? (i := 207) (by decide +kernel), List.mem_of_getElem? (i := 750) (by decide +kernel), List.mem_of_getElem? (i := 751) (by decide +kernel)⟩
theorem lw_p25 : lw_okq (⟨"SteamTunes$Setting", "worthOf", "(LSteamTunes$Boiler;IIII)I"⟩, 16) := ⟨⟨by decide +kernel, by decide +kernel⟩, List.mem_of_getElem? (i := 207) (by decide +kernel), List.mem_of_getElem? (i := 754) (by decide +kernel), List.mem_of_getElem? (i := 755) (by decide +kernel)⟩
theorem lw_p26 : lw_okq (⟨"SteamTunes", "takeHeard", "(IIII)I"⟩, 10) := ⟨⟨by decide +kernel, by decide +kernel⟩, List.mem_of_getElem? (i := 17) (by decide +kernel), List.mem_of_getElem? (i := 786) (by decide +kernel), List.mem_of_getElem? (i := 787) (by decide +kernel)⟩
theorem lw_p27 : lw_okq (⟨"SteamTunes$Suspects", "explains", "(LSteamTunes$Boiler;LSteamTunes$Whistles;II)Z"⟩, 8) := ⟨⟨by decide +kernel, by decide +kernel⟩, List.mem_of_getElem? (i := 262) (by decide +kernel), List.mem_of_getElem? (i := 806) (by decide +kernel), List.mem_of_getElem? (i := 807) (by decide +kernel)⟩
theorem lw_p28 : lw_okq (⟨"SteamTunes$Suspects", "agrees", "(LSteamTunes$Whistles;III)Z"⟩, 8) := ⟨⟨by decide +kernel, by decide +kernel⟩, List.mem_of_getElem? (i := 262) (by decide +kernel), List.mem_of_getElem? (i := 814) (by decide +kernel), List.mem_of_getElem? (i := 815) (by decide +kernel)⟩
theorem lw_p29 : lw_okq (⟨"SteamTunes$Suspects", "triedCracks", "()I"⟩, 8) := ⟨⟨by decide +kernel, by decide +kernel⟩, List.mem_of_getElem? (i := 262) (by decide +kernel), List.mem_of_getElem? (i := 822) (by decide +kernel), List.mem_of_getElem? (i := 823) (by decide +kernel)⟩
theorem lw_p30 : lw_okq (⟨"SteamTunes$Suspects", "crackedBits", "()I"⟩, 8) := ⟨⟨by decide +kernel, by decide +kernel⟩, List.mem_of_getElem? (i := 262) (by decide +kernel), List.mem_of_getElem? (i := 831) (by decide +kernel), List.mem_of_getElem? (i := 832) (by decide +kernel)⟩
theorem lw_p31 : lw_okq (⟨"SteamTunes", "scanOne", "(II)I"⟩, 10) := ⟨⟨by decide +kernel, by decide +kernel⟩, List.mem_of_getElem? (i := 17) (by decide +kernel), List.mem_of_getElem? (i := 924) (by decide +kernel), List.mem_of_getElem? (i := 925) (by decide +kernel)⟩
def lw_privs_2 : List (MethodName × Nat) := [(⟨"SteamTunes", "tryOut", "(II)I"⟩, 10), (⟨"SteamTunes$Setting", "markNear", "(LSteamTunes$Whistles;I)V"⟩, 16), (⟨"SteamTunes$Setting", "listOptions", "(LSteamTunes$Whistles;I)V"⟩, 16), (⟨"SteamTunes$Setting", "fillSounding", "(LSteamTunes$Boiler;I)V"⟩, 16), (⟨"SteamTunes$Setting", "isOpen", "(II)Z"⟩, 16), (⟨"SteamTunes$Setting", "raise", "(III)V"⟩, 16), (⟨"SteamTunes$Setting", "fillResting", "(LSteamTunes$Boiler;I)V"⟩, 16), (⟨"SteamTunes$Setting", "follow", "(LSteamTunes$Boiler;LSteamTunes$Whistles;I)V"⟩, 16), (⟨"SteamTunes$Setting", "bestOption", "(LSteamTunes$Boiler;III)I"⟩, 16), (⟨"SteamTunes$Setting", "worthOf", "(LSteamTunes$Boiler;IIII)I"⟩, 16), (⟨"SteamTunes", "takeHeard", "(IIII)I"⟩, 10), (⟨"SteamTunes$Suspects", "explains", "(LSteamTunes$Boiler;LSteamTunes$Whistles;II)Z"⟩, 8), (⟨"SteamTunes$Suspects", "agrees", "(LSteamTunes$Whistles;III)Z"⟩, 8), (⟨"SteamTunes$Suspects", "triedCracks", "()I"⟩, 8), (⟨"SteamTunes$Suspects", "crackedBits", "()I"⟩, 8), (⟨"SteamTunes", "scanOne", "(II)I"⟩, 10)]
theorem lw_r2 : ∀ q ∈ lw_privs_2, lw_okq q := List.forall_mem_cons.mpr ⟨lw_p16, List.forall_mem_cons.mpr ⟨lw_p17, List.forall_mem_cons.mpr ⟨lw_p18, List.forall_mem_cons.mpr ⟨lw_p19, List.forall_mem_cons.mpr ⟨lw_p20, List.forall_mem_cons.mpr ⟨lw_p21, List.forall_mem_cons.mpr ⟨lw_p22, List.forall_mem_cons.mpr ⟨lw_p23, List.forall_mem_cons.mpr ⟨lw_p24, List.forall_mem_cons.mpr ⟨lw_p25, List.forall_mem_cons.mpr ⟨lw_p26, List.forall_mem_cons.mpr ⟨lw_p27, List.forall_mem_cons.mpr ⟨lw_p28, List.forall_mem_cons.mpr ⟨lw_p29, List.forall_mem_cons.mpr ⟨lw_p30, List.forall_mem_cons.mpr ⟨lw_p31, fun _ h => absurd h List.not_mem_nil⟩⟩⟩⟩⟩⟩⟩⟩⟩⟩⟩⟩⟩⟩⟩⟩
theorem lw_p32 : lw_okq (⟨"SteamTunesModel", "keeps", "()V"⟩, 55) := ⟨⟨by decide +kernel, by decide +kernel⟩, List.mem_of_getElem? (i := 936) (by decide +kernel), List.mem_of_getElem? (i := 1121) (by decide +kernel), List.mem_of_getElem? (i := 1122) (by decide +kernel)⟩
theorem lw_p33 : lw_okq (⟨"SteamTunesModel", "drawn", "(I)I"⟩, 55) := ⟨⟨by decide +kernel, by decide +kernel⟩, List.mem_of_getElem? (i := 936) (by decide +kernel), List.mem_of_getElem? (i := 1144) (by decide +kernel), List.mem_of_getElem? (i := 1145) (by decide +kernel)⟩
theorem lw_p34 : lw_okq (⟨"SteamTunesModel", "goes", "(I)I"⟩, 55) := ⟨⟨by decide +kernel, by decide +kernel⟩, List.mem_of_getElem? (i := 936) (by decide +kernel), List.mem_of_getElem? (i := 1152) (by decide +kernel), List.mem_of_getElem? (i := 1153) (by decide +kernel)⟩
theorem lw_p35 : lw_okq (⟨"SteamTunesModel", "strayOf", "(II)I"⟩, 55) := ⟨⟨by decide +kernel, by decide +kernel⟩, List.mem_of_getElem? (i := 936) (by decide +kernel), List.mem_of_getElem? (i := 1156) (by decide +kernel), List.mem_of_getElem? (i := 1157) (by decide +kernel)⟩
theorem lw_p36 : lw_okq (⟨"SteamTunesModel", "off", "(II)I"⟩, 55) := ⟨⟨by decide +kernel, by decide +kernel⟩, List.mem_of_getElem? (i := 936) (by decide +kernel), List.mem_of_getElem? (i := 1160) (by decide +kernel), List.mem_of_getElem? (i := 1161) (by decide +kernel)⟩
theorem lw_p37 : lw_okq (⟨"SteamTunesModel", "isWhistle", "(I)Z"⟩, 55) := ⟨⟨by decide +kernel, by decide +kernel⟩, List.mem_of_getElem? (i := 936) (by decide +kernel), List.mem_of_getElem? (i := 1180) (by decide +kernel), List.mem_of_getElem? (i := 1181) (by decide +kernel)⟩
theorem lw_p38 : lw_okq (⟨"SteamTunesModel", "next", "()V"⟩, 55) := ⟨⟨by decide +kernel, by decide +kernel⟩, List.mem_of_getElem? (i := 936) (by decide +kernel), List.mem_of_getElem? (i := 1232) (by decide +kernel), List.mem_of_getElem? (i := 1233) (by decide +kernel)⟩
theorem lw_p39 : lw_okq (⟨"SteamTunesModel", "look", "(I)I"⟩, 55) := ⟨⟨by decide +kernel, by decide +kernel⟩, List.mem_of_getElem? (i := 936) (by decide +kernel), List.mem_of_getElem? (i := 1236) (by decide +kernel), List.mem_of_getElem? (i := 1237) (by decide +kernel)⟩
theorem lw_p40 : lw_okq (⟨"SteamTunesModel", "readChord", "()V"⟩, 55) := ⟨⟨by decide +kernel, by decide +kernel⟩, List.mem_of_getElem? (i := 936) (by decide +kernel), List.mem_of_getElem? (i := 1242) (by decide +kernel), List.mem_of_getElem? (i := 1243) (by decide +kernel)⟩
theorem lw_p41 : lw_okq (⟨"SteamTunesModel", "fails", "(II)V"⟩, 55) := ⟨⟨by decide +kernel, by decide +kernel⟩, List.mem_of_getElem? (i := 936) (by decide +kernel), List.mem_of_getElem? (i := 1246) (by decide +kernel), List.mem_of_getElem? (i := 1247) (by decide +kernel)⟩
theorem lw_p42 : lw_okq (⟨"SteamTunesModel", "wants", "(ZI)V"⟩, 55) := ⟨⟨by decide +kernel, by decide +kernel⟩, List.mem_of_getElem? (i := 936) (by decide +kernel), List.mem_of_getElem? (i := 1255) (by decide +kernel), List.mem_of_getElem? (i := 1256) (by decide +kernel)⟩
theorem lw_p43 : lw_okq (⟨"SteamTunesModel", "readTune", "()V"⟩, 55) := ⟨⟨by decide +kernel, by decide +kernel⟩, List.mem_of_getElem? (i := 936) (by decide +kernel), List.mem_of_getElem? (i := 1259) (by decide +kernel), List.mem_of_getElem? (i := 1260) (by decide +kernel)⟩
theorem lw_p44 : lw_okq (⟨"SteamTunesModel", "isSign", "(I)Z"⟩, 55) := ⟨⟨by decide +kernel, by decide +kernel⟩, List.mem_of_getElem? (i := 936) (by decide +kernel), List.mem_of_getElem? (i := 1263) (by decide +kernel), List.mem_of_getElem? (i := 1264) (by decide +kernel)⟩
theorem lw_p45 : lw_okq (⟨"SteamTunesModel", "beatRead", "(I)V"⟩, 55) := ⟨⟨by decide +kernel, by decide +kernel⟩, List.mem_of_getElem? (i := 936) (by decide +kernel), List.mem_of_getElem? (i := 1267) (by decide +kernel), List.mem_of_getElem? (i := 1268) (by decide +kernel)⟩
theorem lw_p46 : lw_okq (⟨"SteamTunesModel", "closes", "()V"⟩, 55) := ⟨⟨by decide +kernel, by decide +kernel⟩, List.mem_of_getElem? (i := 936) (by decide +kernel), List.mem_of_getElem? (i := 1271) (by decide +kernel), List.mem_of_getElem? (i := 1272) (by decide +kernel)⟩
theorem lw_p47 : lw_okq (⟨"SteamTunesModel", "isTune", "(I)Z"⟩, 55) := ⟨⟨by decide +kernel, by decide +kernel⟩, List.mem_of_getElem? (i := 936) (by decide +kernel), List.mem_of_getElem? (i := 1283) (by decide +kernel), List.mem_of_getElem? (i := 1284) (by decide +kernel)⟩
def lw_privs_3 : List (MethodName × Nat) := [(⟨"SteamTunesModel", "keeps", "()V"⟩, 55), (⟨"SteamTunesModel", "drawn", "(I)I"⟩, 55), (⟨"SteamTunesModel", "goes", "(I)I"⟩, 55), (⟨"SteamTunesModel", "strayOf", "(II)I"⟩, 55), (⟨"SteamTunesModel", "off", "(II)I"⟩, 55), (⟨"SteamTunesModel", "isWhistle", "(I)Z"⟩, 55), (⟨"SteamTunesModel", "next", "()V"⟩, 55), (⟨"SteamTunesModel", "look", "(I)I"⟩, 55), (⟨"SteamTunesModel", "readChord", "()V"⟩, 55), (⟨"SteamTunesModel", "fails", "(II)V"⟩, 55), (⟨"SteamTunesModel", "wants", "(ZI)V"⟩, 55), (⟨"SteamTunesModel", "readTune", "()V"⟩, 55), (⟨"SteamTunesModel", "isSign", "(I)Z"⟩, 55), (⟨"SteamTunesModel", "beatRead", "(I)V"⟩, 55), (⟨"SteamTunesModel", "closes", "()V"⟩, 55), (⟨"SteamTunesModel", "isTune", "(I)Z"⟩, 55)]
theorem lw_r3 : ∀ q ∈ lw_privs_3, lw_okq q := List.forall_mem_cons.mpr ⟨lw_p32, List.forall_mem_cons.mpr ⟨lw_p33, List.forall_mem_cons.mpr ⟨lw_p34, List.forall_mem_cons.mpr ⟨lw_p35, List.forall_mem_cons.mpr ⟨lw_p36, List.forall_mem_cons.mpr ⟨lw_p37, List.forall_mem_cons.mpr ⟨lw_p38, List.forall_mem_cons.mpr ⟨lw_p39, List.forall_mem_cons.mpr ⟨lw_p40, List.forall_mem_cons.mpr ⟨lw_p41, List.forall_mem_cons.mpr ⟨lw_p42, List.forall_mem_cons.mpr ⟨lw_p43, List.forall_mem_cons.mpr ⟨lw_p44, List.forall_mem_cons.mpr ⟨lw_p45, List.forall_mem_cons.mpr ⟨lw_p46, List.forall_mem_cons.mpr ⟨lw_p47, fun _ h => absurd h List.not_mem_nil⟩⟩⟩⟩⟩⟩⟩⟩⟩⟩⟩⟩⟩⟩⟩⟩
theorem lw_p48 : lw_okq (⟨"SteamTunesModel", "chordAt", "(II)I"⟩, 55) := ⟨⟨by decide +kernel, by decide +kernel⟩, List.mem_of_getElem? (i := 936) (by decide +kernel), List.mem_of_getElem? (i := 1289) (by decide +kernel), List.mem_of_getElem? (i := 1290) (by decide +kernel)⟩
theorem lw_p49 : lw_okq (⟨"SteamTunesModel", "allOf", "(I)I"⟩, 55) := ⟨⟨by decide +kernel, by decide +kernel⟩, List.mem_of_getElem? (i := 936) (by decide +kernel), List.mem_of_getElem? (i := 1293) (by decide +kernel), List.mem_of_getElem? (i := 1294) (by decide +kernel)⟩
theorem lw_p50 : lw_okq (⟨"SteamTunesModel", "isIn", "(II)Z"⟩, 55) := ⟨⟨by decide +kernel, by decide +kernel⟩, List.mem_of_getElem? (i := 936) (by decide +kernel), List.mem_of_getElem? (i := 1303) (by decide +kernel), List.mem_of_getElem? (i := 1304) (by decide +kernel)⟩
theorem lw_p51 : lw_okq (⟨"SteamTunesModel", "tried", "(II)I"⟩, 55) := ⟨⟨by decide +kernel, by decide +kernel⟩, List.mem_of_getElem? (i := 936) (by decide +kernel), List.mem_of_getElem? (i := 1307) (by decide +kernel), List.mem_of_getElem? (i := 1308) (by decide +kernel)⟩
theorem lw_p52 : lw_okq (⟨"SteamTunesModel", "goesAll", "(II)I"⟩, 55) := ⟨⟨by decide +kernel, by decide +kernel⟩, List.mem_of_getElem? (i := 936) (by decide +kernel), List.mem_of_getElem? (i := 1311) (by decide +kernel), List.mem_of_getElem? (i := 1312) (by decide +kernel)⟩
theorem lw_p53 : lw_okq (⟨"SteamTunesModel", "moved", "(II)I"⟩, 55) := ⟨⟨by decide +kernel, by decide +kernel⟩, List.mem_of_getElem? (i := 936) (by decide +kernel), List.mem_of_getElem? (i := 1315) (by decide +kernel), List.mem_of_getElem? (i := 1316) (by decide +kernel)⟩
theorem lw_p54 : lw_okq (⟨"SteamTunesModel", "fills", "(IIII)V"⟩, 55) := ⟨⟨by decide +kernel, by decide +kernel⟩, List.mem_of_getElem? (i := 936) (by decide +kernel), List.mem_of_getElem? (i := 1333) (by decide +kernel), List.mem_of_getElem? (i := 1334) (by decide +kernel)⟩
theorem lw_p55 : lw_okq (⟨"SteamTunesModel", "prepares", "(I)V"⟩, 55) := ⟨⟨by decide +kernel, by decide +kernel⟩, List.mem_of_getElem? (i := 936) (by decide +kernel), List.mem_of_getElem? (i := 1337) (by decide +kernel), List.mem_of_getElem? (i := 1338) (by decide +kernel)⟩
theorem lw_p56 : lw_okq (⟨"SteamTunesModel", "meets", "(III)V"⟩, 55) := ⟨⟨by decide +kernel, by decide +kernel⟩, List.mem_of_getElem? (i := 936) (by decide +kernel), List.mem_of_getElem? (i := 1341) (by decide +kernel), List.mem_of_getElem? (i := 1342) (by decide +kernel)⟩
theorem lw_p57 : lw_okq (⟨"SteamTunesModel", "spot", "(III)I"⟩, 55) := ⟨⟨by decide +kernel, by decide +kernel⟩, List.mem_of_getElem? (i := 936) (by decide +kernel), List.mem_of_getElem? (i := 1345) (by decide +kernel), List.mem_of_getElem? (i := 1346) (by decide +kernel)⟩
theorem lw_p58 : lw_okq (⟨"SteamTunesModel", "then", "(II)I"⟩, 55) := ⟨⟨by decide +kernel, by decide +kernel⟩, List.mem_of_getElem? (i := 936) (by decide +kernel), List.mem_of_getElem? (i := 1349) (by decide +kernel), List.mem_of_getElem? (i := 1350) (by decide +kernel)⟩
theorem lw_p59 : lw_okq (⟨"SteamTunesModel", "bestSound", "(IIII)I"⟩, 55) := ⟨⟨by decide +kernel, by decide +kernel⟩, List.mem_of_getElem? (i := 936) (by decide +kernel), List.mem_of_getElem? (i := 1353) (by decide +kernel), List.mem_of_getElem? (i := 1354) (by decide +kernel)⟩
theorem lw_p60 : lw_okq (⟨"SteamTunesModel", "explains", "(IIIIII)I"⟩, 55) := ⟨⟨by decide +kernel, by decide +kernel⟩, List.mem_of_getElem? (i := 936) (by decide +kernel), List.mem_of_getElem? (i := 1365) (by decide +kernel), List.mem_of_getElem? (i := 1366) (by decide +kernel)⟩
theorem lw_p61 : lw_okq (⟨"SteamTunesModel", "drawnWith", "(II)I"⟩, 55) := ⟨⟨by decide +kernel, by decide +kernel⟩, List.mem_of_getElem? (i := 936) (by decide +kernel), List.mem_of_getElem? (i := 1372) (by decide +kernel), List.mem_of_getElem? (i := 1373) (by decide +kernel)⟩
theorem lw_p62 : lw_okq (⟨"SteamTunesModel", "farOf", "(II)I"⟩, 55) := ⟨⟨by decide +kernel, by decide +kernel⟩, List.mem_of_getElem? (i := 936) (by decide +kernel), List.mem_of_getElem? (i := 1394) (by decide +kernel), List.mem_of_getElem? (i := 1395) (by decide +kernel)⟩
theorem lw_p63 : lw_okq (⟨"SteamTunesModel", "heardAt", "(II)I"⟩, 55) := ⟨⟨by decide +kernel, by decide +kernel⟩, List.mem_of_getElem? (i := 936) (by decide +kernel), List.mem_of_getElem? (i := 1402) (by decide +kernel), List.mem_of_getElem? (i := 1403) (by decide +kernel)⟩
def lw_privs_4 : List (MethodName × Nat) := [(⟨"SteamTunesModel", "chordAt", "(II)I"⟩, 55), (⟨"SteamTunesModel", "allOf", "(I)I"⟩, 55), (⟨"SteamTunesModel", "isIn", "(II)Z"⟩, 55), (⟨"SteamTunesModel", "tried", "(II)I"⟩, 55), (⟨"SteamTunesModel", "goesAll", "(II)I"⟩, 55), (⟨"SteamTunesModel", "moved", "(II)I"⟩, 55), (⟨"SteamTunesModel", "fills", "(IIII)V"⟩, 55), (⟨"SteamTunesModel", "prepares", "(I)V"⟩, 55), (⟨"SteamTunesModel", "meets", "(III)V"⟩, 55), (⟨"SteamTunesModel", "spot", "(III)I"⟩, 55), (⟨"SteamTunesModel", "then", "(II)I"⟩, 55), (⟨"SteamTunesModel", "bestSound", "(IIII)I"⟩, 55), (⟨"SteamTunesModel", "explains", "(IIIIII)I"⟩, 55), (⟨"SteamTunesModel", "drawnWith", "(II)I"⟩, 55), (⟨"SteamTunesModel", "farOf", "(II)I"⟩, 55), (⟨"SteamTunesModel", "heardAt", "(II)I"⟩, 55)]
theorem lw_r4 : ∀ q ∈ lw_privs_4, lw_okq q := List.forall_mem_cons.mpr ⟨lw_p48, List.forall_mem_cons.mpr ⟨lw_p49, List.forall_mem_cons.mpr ⟨lw_p50, List.forall_mem_cons.mpr ⟨lw_p51, List.forall_mem_cons.mpr ⟨lw_p52, List.forall_mem_cons.mpr ⟨lw_p53, List.forall_mem_cons.mpr ⟨lw_p54, List.forall_mem_cons.mpr ⟨lw_p55, List.forall_mem_cons.mpr ⟨lw_p56, List.forall_mem_cons.mpr ⟨lw_p57, List.forall_mem_cons.mpr ⟨lw_p58, List.forall_mem_cons.mpr ⟨lw_p59, List.forall_mem_cons.mpr ⟨lw_p60, List.forall_mem_cons.mpr ⟨lw_p61, List.forall_mem_cons.mpr ⟨lw_p62, List.forall_mem_cons.mpr ⟨lw_p63, fun _ h => absurd h List.not_mem_nil⟩⟩⟩⟩⟩⟩⟩⟩⟩⟩⟩⟩⟩⟩⟩⟩
def lw_privs : List (MethodName × Nat) := lw_privs_1 ++ (lw_privs_2 ++ (lw_privs_3 ++ (lw_privs_4)))
def lw_tbl : List Cond := k2_sels lw_privs ++ tables_1
theorem lw_privs_ok : ∀ q ∈ lw_privs, lw_okq q := by
  show ∀ q ∈ lw_privs_1 ++ (lw_privs_2 ++ (lw_privs_3 ++ (lw_privs_4))), lw_okq q
  exact List.forall_mem_append.mpr ⟨lw_r1, List.forall_mem_append.mpr ⟨lw_r2, List.forall_mem_append.mpr ⟨lw_r3, lw_r4⟩⟩⟩
-- ===== end of PART A; then your names; then what follows =====
def RX0 : String := "SteamTunes$Acts"
def TX0 : u_T := fun k => match k with
  | 0 => ("SteamTunes$Acts", "rows", "[[I", true)
  | 1 => ("SteamTunes$Acts", "next", "I", false)
  | 2 => ("SteamTunes$Acts", "held", "I", false)
  | _ => ("SteamTunes$Acts", "changes", "I", false)
def tyX0 : Nat → FieldType := fun k => match k with
  | 0 => .array (.array .int)
  | 1 => .int
  | 2 => .int
  | _ => .int
theorem nmX0 : ∀ a, a < 4 → ∀ b, b < 4 → a ≠ b → (TX0 a).2.1 ≠ (TX0 b).2.1 := by decide +kernel
theorem tyX0_ok : ∀ k, k < 4 → parseFieldDescriptor (TX0 k).2.2.1 = some (tyX0 k) := by decide +kernel
def yX0_init : MethodName := ⟨RX0, "<init>", "()V"⟩
def yX0_keep : MethodName := ⟨RX0, "keep", "(LSteamTunes$Boiler;LSteamTunes$Whistles;)V"⟩
def yX0_restore : MethodName := ⟨RX0, "restore", "(LSteamTunes$Boiler;LSteamTunes$Whistles;)Z"⟩
def RX1 : String := "SteamTunes$Boiler"
def TX1 : u_T := fun k => match k with
  | 0 => ("SteamTunes$Boiler", "pressure", "I", false)
  | 1 => ("SteamTunes$Boiler", "water", "I", false)
  | 2 => ("SteamTunes$Boiler", "fire", "I", false)
  | 3 => ("SteamTunes$Boiler", "valve", "I", false)
  | _ => ("SteamTunes$Boiler", "blows", "I", false)
def tyX1 : Nat → FieldType := fun k => match k with
  | 0 => .int
  | 1 => .int
  | 2 => .int
  | 3 => .int
  | _ => .int
theorem nmX1 : ∀ a, a < 5 → ∀ b, b < 5 → a ≠ b → (TX1 a).2.1 ≠ (TX1 b).2.1 := by decide +kernel
theorem tyX1_ok : ∀ k, k < 5 → parseFieldDescriptor (TX1 k).2.2.1 = some (tyX1 k) := by decide +kernel
def yX1_init : MethodName := ⟨RX1, "<init>", "()V"⟩
def yX1_copyFrom : MethodName := ⟨RX1, "copyFrom", "(LSteamTunes$Boiler;)V"⟩
def yX1_pass : MethodName := ⟨RX1, "pass", "(I)V"⟩
def yX1_after : MethodName := ⟨RX1, "after", "(II)I"⟩
def RX2 : String := "SteamTunes$Reader"
def TX2 : u_T := fun k => match k with
  | 0 => ("SteamTunes$Reader", "tape", "[B", true)
  | 1 => ("SteamTunes$Reader", "length", "I", false)
  | 2 => ("SteamTunes$Reader", "at", "I", false)
  | 3 => ("SteamTunes$Reader", "kind", "I", false)
  | 4 => ("SteamTunes$Reader", "place", "I", false)
  | 5 => ("SteamTunes$Reader", "value", "I", false)
  | 6 => ("SteamTunes$Reader", "spoiledAt", "I", false)
  | 7 => ("SteamTunes$Reader", "fault", "I", false)
  | 8 => ("SteamTunes$Reader", "faultPlace", "I", false)
  | 9 => ("SteamTunes$Reader", "row", "[I", true)
  | 10 => ("SteamTunes$Reader", "beats", "I", false)
  | 11 => ("SteamTunes$Reader", "begins", "[I", true)
  | 12 => ("SteamTunes$Reader", "rounds", "[I", true)
  | _ => ("SteamTunes$Reader", "depth", "I", false)
def tyX2 : Nat → FieldType := fun k => match k with
  | 0 => .array .byte
  | 1 => .int
  | 2 => .int
  | 3 => .int
  | 4 => .int
  | 5 => .int
  | 6 => .int
  | 7 => .int
  | 8 => .int
  | 9 => .array .int
  | 10 => .int
  | 11 => .array .int
  | 12 => .array .int
  | _ => .int
theorem nmX2 : ∀ a, a < 14 → ∀ b, b < 14 → a ≠ b → (TX2 a).2.1 ≠ (TX2 b).2.1 := by decide +kernel
theorem tyX2_ok : ∀ k, k < 14 → parseFieldDescriptor (TX2 k).2.2.1 = some (tyX2 k) := by decide +kernel
def yX2_init : MethodName := ⟨RX2, "<init>", "()V"⟩
def yX2_append : MethodName := ⟨RX2, "append", "(J)Z"⟩
def yX2_readAll : MethodName := ⟨RX2, "readAll", "()V"⟩
def yX2_readToken : MethodName := ⟨RX2, "readToken", "()V"⟩
def yX2_isLetter : MethodName := ⟨RX2, "isLetter", "(I)Z"⟩
def yX2_isFigure : MethodName := ⟨RX2, "isFigure", "(I)Z"⟩
def yX2_readChord : MethodName := ⟨RX2, "readChord", "()V"⟩
def yX2_readNumber : MethodName := ⟨RX2, "readNumber", "()V"⟩
def yX2_readSign : MethodName := ⟨RX2, "readSign", "()V"⟩
def yX2_take : MethodName := ⟨RX2, "take", "(I)I"⟩
def yX2_takeChord : MethodName := ⟨RX2, "takeChord", "()I"⟩
def yX2_addBeat : MethodName := ⟨RX2, "addBeat", "(I)I"⟩
def yX2_takeNumber : MethodName := ⟨RX2, "takeNumber", "()I"⟩
def yX2_takeOpen : MethodName := ⟨RX2, "takeOpen", "()I"⟩
def yX2_takeClose : MethodName := ⟨RX2, "takeClose", "()I"⟩
def yX2_takeEnd : MethodName := ⟨RX2, "takeEnd", "()I"⟩
def yX2_misplaced : MethodName := ⟨RX2, "misplaced", "()I"⟩
def yX2_fail : MethodName := ⟨RX2, "fail", "(II)V"⟩
def RX3 : String := "SteamTunes$River"
def TX3 : u_T := fun k => match k with
  | 0 => ("SteamTunes$River", "boatPlace", "[I", true)
  | 1 => ("SteamTunes$River", "boatLag", "[I", true)
  | 2 => ("SteamTunes$River", "boats", "I", false)
  | 3 => ("SteamTunes$River", "bendPlace", "[I", true)
  | 4 => ("SteamTunes$River", "bendLength", "[I", true)
  | 5 => ("SteamTunes$River", "bends", "I", false)
  | 6 => ("SteamTunes$River", "speed", "I", false)
  | 7 => ("SteamTunes$River", "inStep", "I", false)
  | 8 => ("SteamTunes$River", "firstPlace", "I", false)
  | 9 => ("SteamTunes$River", "lastPlace", "I", false)
  | _ => ("SteamTunes$River", "longest", "I", false)
def tyX3 : Nat → FieldType := fun k => match k with
  | 0 => .array .int
  | 1 => .array .int
  | 2 => .int
  | 3 => .array .int
  | 4 => .array .int
  | 5 => .int
  | 6 => .int
  | 7 => .int
  | 8 => .int
  | 9 => .int
  | _ => .int
theorem nmX3 : ∀ a, a < 11 → ∀ b, b < 11 → a ≠ b → (TX3 a).2.1 ≠ (TX3 b).2.1 := by decide +kernel
theorem tyX3_ok : ∀ k, k < 11 → parseFieldDescriptor (TX3 k).2.2.1 = some (tyX3 k) := by decide +kernel
def yX3_init : MethodName := ⟨RX3, "<init>", "()V"⟩
def yX3_hasBoat : MethodName := ⟨RX3, "hasBoat", "(I)Z"⟩
def yX3_addBoat : MethodName := ⟨RX3, "addBoat", "(II)I"⟩
def yX3_bendsAt : MethodName := ⟨RX3, "bendsAt", "(I)Z"⟩
def yX3_addBend : MethodName := ⟨RX3, "addBend", "(II)I"⟩
def yX3_way : MethodName := ⟨RX3, "way", "(II)I"⟩
def yX3_firstHeard : MethodName := ⟨RX3, "firstHeard", "(II)I"⟩
def yX3_walk : MethodName := ⟨RX3, "walk", "(II)V"⟩
def RX4 : String := "SteamTunes$Setting"
def TX4 : u_T := fun k => match k with
  | 0 => ("SteamTunes$Setting", "table", "[I", false)
  | 1 => ("SteamTunes$Setting", "near", "[I", true)
  | 2 => ("SteamTunes$Setting", "row", "[I", true)
  | 3 => ("SteamTunes$Setting", "beats", "I", false)
  | 4 => ("SteamTunes$Setting", "levels", "I", false)
  | 5 => ("SteamTunes$Setting", "option", "[I", true)
  | 6 => ("SteamTunes$Setting", "drawn", "[I", true)
  | 7 => ("SteamTunes$Setting", "options", "I", false)
  | 8 => ("SteamTunes$Setting", "idle", "I", false)
  | 9 => ("SteamTunes$Setting", "sounds", "[I", true)
  | 10 => ("SteamTunes$Setting", "ahead", "[I", true)
  | 11 => ("SteamTunes$Setting", "total", "I", false)
  | 12 => ("SteamTunes$Setting", "rested", "I", false)
  | 13 => ("SteamTunes$Setting", "behind", "I", false)
  | 14 => ("SteamTunes$Setting", "asked", "[I", true)
  | _ => ("SteamTunes$Setting", "isSolved", "Z", false)
def tyX4 : Nat → FieldType := fun k => match k with
  | 0 => .array .int
  | 1 => .array .int
  | 2 => .array .int
  | 3 => .int
  | 4 => .int
  | 5 => .array .int
  | 6 => .array .int
  | 7 => .int
  | 8 => .int
  | 9 => .array .int
  | 10 => .array .int
  | 11 => .int
  | 12 => .int
  | 13 => .int
  | 14 => .array .int
  | _ => .boolean
theorem nmX4 : ∀ a, a < 16 → ∀ b, b < 16 → a ≠ b → (TX4 a).2.1 ≠ (TX4 b).2.1 := by decide +kernel
theorem tyX4_ok : ∀ k, k < 16 → parseFieldDescriptor (TX4 k).2.2.1 = some (tyX4 k) := by decide +kernel
def yX4_init : MethodName := ⟨RX4, "<init>", "()V"⟩
def yX4_isFor : MethodName := ⟨RX4, "isFor", "(IIIII)Z"⟩
def yX4_remember : MethodName := ⟨RX4, "remember", "(IIIII)V"⟩
def yX4_takeTune : MethodName := ⟨RX4, "takeTune", "(LSteamTunes$Tunes;II)V"⟩
def yX4_answer : MethodName := ⟨RX4, "answer", "(I)I"⟩
def yX4_solve : MethodName := ⟨RX4, "solve", "(LSteamTunes$Boiler;LSteamTunes$Whistles;II)V"⟩
def yX4_cell : MethodName := ⟨RX4, "cell", "(II)I"⟩
def yX4_markNear : MethodName := ⟨RX4, "markNear", "(LSteamTunes$Whistles;I)V"⟩
def yX4_listOptions : MethodName := ⟨RX4, "listOptions", "(LSteamTunes$Whistles;I)V"⟩
def yX4_isOpen : MethodName := ⟨RX4, "isOpen", "(II)Z"⟩
def yX4_fillSounding : MethodName := ⟨RX4, "fillSounding", "(LSteamTunes$Boiler;I)V"⟩
def yX4_raise : MethodName := ⟨RX4, "raise", "(III)V"⟩
def yX4_fillResting : MethodName := ⟨RX4, "fillResting", "(LSteamTunes$Boiler;I)V"⟩
def yX4_follow : MethodName := ⟨RX4, "follow", "(LSteamTunes$Boiler;LSteamTunes$Whistles;I)V"⟩
def yX4_bestOption : MethodName := ⟨RX4, "bestOption", "(LSteamTunes$Boiler;III)I"⟩
def yX4_worthOf : MethodName := ⟨RX4, "worthOf", "(LSteamTunes$Boiler;IIII)I"⟩
def RX5 : String := "SteamTunes$Sheets"
def TX5 : u_T := fun k => match k with
  | 0 => ("SteamTunes$Sheets", "cells", "[[I", true)
  | 1 => ("SteamTunes$Sheets", "laneOf", "[I", true)
  | _ => ("SteamTunes$Sheets", "size", "[I", true)
def tyX5 : Nat → FieldType := fun k => match k with
  | 0 => .array (.array .int)
  | 1 => .array .int
  | _ => .array .int
theorem nmX5 : ∀ a, a < 3 → ∀ b, b < 3 → a ≠ b → (TX5 a).2.1 ≠ (TX5 b).2.1 := by decide +kernel
theorem tyX5_ok : ∀ k, k < 3 → parseFieldDescriptor (TX5 k).2.2.1 = some (tyX5 k) := by decide +kernel
def yX5_init : MethodName := ⟨RX5, "<init>", "()V"⟩
def yX5_has : MethodName := ⟨RX5, "has", "(I)Z"⟩
def yX5_isLane : MethodName := ⟨RX5, "isLane", "(I)Z"⟩
def yX5_isNothing : MethodName := ⟨RX5, "isNothing", "(I)Z"⟩
def yX5_hasCell : MethodName := ⟨RX5, "hasCell", "(II)Z"⟩
def yX5_faultAs : MethodName := ⟨RX5, "faultAs", "(II)I"⟩
def yX5_renew : MethodName := ⟨RX5, "renew", "(III)V"⟩
def yX5_put : MethodName := ⟨RX5, "put", "(III)V"⟩
def RX6 : String := "SteamTunes$Suspects"
def TX6 : u_T := fun k => match k with
  | 0 => ("SteamTunes$Suspects", "row", "[I", true)
  | 1 => ("SteamTunes$Suspects", "cells", "[I", true)
  | 2 => ("SteamTunes$Suspects", "beats", "I", false)
  | 3 => ("SteamTunes$Suspects", "tried", "[I", true)
  | 4 => ("SteamTunes$Suspects", "known", "I", false)
  | 5 => ("SteamTunes$Suspects", "cracks", "[I", true)
  | 6 => ("SteamTunes$Suspects", "many", "I", false)
  | _ => ("SteamTunes$Suspects", "leaking", "I", false)
def tyX6 : Nat → FieldType := fun k => match k with
  | 0 => .array .int
  | 1 => .array .int
  | 2 => .int
  | 3 => .array .int
  | 4 => .int
  | 5 => .array .int
  | 6 => .int
  | _ => .int
theorem nmX6 : ∀ a, a < 8 → ∀ b, b < 8 → a ≠ b → (TX6 a).2.1 ≠ (TX6 b).2.1 := by decide +kernel
theorem tyX6_ok : ∀ k, k < 8 → parseFieldDescriptor (TX6 k).2.2.1 = some (tyX6 k) := by decide +kernel
def yX6_init : MethodName := ⟨RX6, "<init>", "()V"⟩
def yX6_forget : MethodName := ⟨RX6, "forget", "()V"⟩
def yX6_addBeat : MethodName := ⟨RX6, "addBeat", "(II)V"⟩
def yX6_find : MethodName := ⟨RX6, "find", "(LSteamTunes$Boiler;LSteamTunes$Whistles;I)Z"⟩
def yX6_explains : MethodName := ⟨RX6, "explains", "(LSteamTunes$Boiler;LSteamTunes$Whistles;II)Z"⟩
def yX6_agrees : MethodName := ⟨RX6, "agrees", "(LSteamTunes$Whistles;III)Z"⟩
def yX6_triedCracks : MethodName := ⟨RX6, "triedCracks", "()I"⟩
def yX6_answer : MethodName := ⟨RX6, "answer", "(I)I"⟩
def yX6_crackedBits : MethodName := ⟨RX6, "crackedBits", "()I"⟩
def RX7 : String := "SteamTunes$Tunes"
def TX7 : u_T := fun k => match k with
  | 0 => ("SteamTunes$Tunes", "rows", "[[I", true)
  | 1 => ("SteamTunes$Tunes", "beats", "[I", true)
  | _ => ("SteamTunes$Tunes", "number", "I", false)
def tyX7 : Nat → FieldType := fun k => match k with
  | 0 => .array (.array .int)
  | 1 => .array .int
  | _ => .int
theorem nmX7 : ∀ a, a < 3 → ∀ b, b < 3 → a ≠ b → (TX7 a).2.1 ≠ (TX7 b).2.1 := by decide +kernel
theorem tyX7_ok : ∀ k, k < 3 → parseFieldDescriptor (TX7 k).2.2.1 = some (tyX7 k) := by decide +kernel
def yX7_init : MethodName := ⟨RX7, "<init>", "()V"⟩
def yX7_add : MethodName := ⟨RX7, "add", "([II)I"⟩
def yX7_has : MethodName := ⟨RX7, "has", "(I)Z"⟩
def yX7_sounding : MethodName := ⟨RX7, "sounding", "(I)I"⟩
def yX7_whistlesOf : MethodName := ⟨RX7, "whistlesOf", "(I)I"⟩
def yX7_goes : MethodName := ⟨RX7, "goes", "(III)Z"⟩
def yX7_chordIn : MethodName := ⟨RX7, "chordIn", "(III)I"⟩
def RX8 : String := "SteamTunes$Whistles"
def TX8 : u_T := fun k => match k with
  | 0 => ("SteamTunes$Whistles", "note", "[I", true)
  | 1 => ("SteamTunes$Whistles", "draw", "[I", true)
  | 2 => ("SteamTunes$Whistles", "slope", "[I", true)
  | 3 => ("SteamTunes$Whistles", "stuck", "[Z", true)
  | 4 => ("SteamTunes$Whistles", "stem", "[I", true)
  | 5 => ("SteamTunes$Whistles", "crack", "[I", true)
  | 6 => ("SteamTunes$Whistles", "leaks", "I", false)
  | _ => ("SteamTunes$Whistles", "number", "I", false)
def tyX8 : Nat → FieldType := fun k => match k with
  | 0 => .array .int
  | 1 => .array .int
  | 2 => .array .int
  | 3 => .array .boolean
  | 4 => .array .int
  | 5 => .array .int
  | 6 => .int
  | _ => .int
theorem nmX8 : ∀ a, a < 8 → ∀ b, b < 8 → a ≠ b → (TX8 a).2.1 ≠ (TX8 b).2.1 := by decide +kernel
theorem tyX8_ok : ∀ k, k < 8 → parseFieldDescriptor (TX8 k).2.2.1 = some (tyX8 k) := by decide +kernel
def yX8_init : MethodName := ⟨RX8, "<init>", "()V"⟩
def yX8_add : MethodName := ⟨RX8, "add", "(IIIZ)I"⟩
def yX8_has : MethodName := ⟨RX8, "has", "(I)Z"⟩
def yX8_all : MethodName := ⟨RX8, "all", "()I"⟩
def yX8_hasAll : MethodName := ⟨RX8, "hasAll", "(I)Z"⟩
def yX8_bentAt : MethodName := ⟨RX8, "bentAt", "(II)I"⟩
def yX8_offAt : MethodName := ⟨RX8, "offAt", "(II)I"⟩
def yX8_isNear : MethodName := ⟨RX8, "isNear", "(III)Z"⟩
def yX8_strayOf : MethodName := ⟨RX8, "strayOf", "(II)I"⟩
def yX8_drawnBy : MethodName := ⟨RX8, "drawnBy", "(II)I"⟩
def yX8_bringNear : MethodName := ⟨RX8, "bringNear", "(I)V"⟩
def yX8_exactAt : MethodName := ⟨RX8, "exactAt", "(I)I"⟩
def yX8_cracked : MethodName := ⟨RX8, "cracked", "()I"⟩
def RX9 : String := "SteamTunes"
def TX9 : u_T := fun k => match k with
  | 0 => ("SteamTunes", "boiler", "LSteamTunes$Boiler;", true)
  | 1 => ("SteamTunes", "trial", "LSteamTunes$Boiler;", true)
  | 2 => ("SteamTunes", "whistles", "LSteamTunes$Whistles;", true)
  | 3 => ("SteamTunes", "acts", "LSteamTunes$Acts;", true)
  | 4 => ("SteamTunes", "reader", "LSteamTunes$Reader;", true)
  | 5 => ("SteamTunes", "tunes", "LSteamTunes$Tunes;", true)
  | 6 => ("SteamTunes", "setting", "LSteamTunes$Setting;", true)
  | 7 => ("SteamTunes", "suspects", "LSteamTunes$Suspects;", true)
  | 8 => ("SteamTunes", "river", "LSteamTunes$River;", true)
  | _ => ("SteamTunes", "sheets", "LSteamTunes$Sheets;", true)
def tyX9 : Nat → FieldType := fun k => match k with
  | 0 => .object "SteamTunes$Boiler"
  | 1 => .object "SteamTunes$Boiler"
  | 2 => .object "SteamTunes$Whistles"
  | 3 => .object "SteamTunes$Acts"
  | 4 => .object "SteamTunes$Reader"
  | 5 => .object "SteamTunes$Tunes"
  | 6 => .object "SteamTunes$Setting"
  | 7 => .object "SteamTunes$Suspects"
  | 8 => .object "SteamTunes$River"
  | _ => .object "SteamTunes$Sheets"
theorem nmX9 : ∀ a, a < 10 → ∀ b, b < 10 → a ≠ b → (TX9 a).2.1 ≠ (TX9 b).2.1 := by decide +kernel
theorem tyX9_ok : ∀ k, k < 10 → parseFieldDescriptor (TX9 k).2.2.1 = some (tyX9 k) := by decide +kernel
def yX9_init : MethodName := ⟨RX9, "<init>", "()V"⟩
def yX9_fire : MethodName := ⟨RX9, "fire", "(I)I"⟩
def yX9_water : MethodName := ⟨RX9, "water", "(I)I"⟩
def yX9_valve : MethodName := ⟨RX9, "valve", "(I)I"⟩
def yX9_pressure : MethodName := ⟨RX9, "pressure", "(I)I"⟩
def yX9_boiler : MethodName := ⟨RX9, "boiler", "(I)I"⟩
def yX9_beat : MethodName := ⟨RX9, "beat", "(I)I"⟩
def yX9_whistle : MethodName := ⟨RX9, "whistle", "(IIIZ)I"⟩
def yX9_told : MethodName := ⟨RX9, "told", "(II)I"⟩
def yX9_stem : MethodName := ⟨RX9, "stem", "(II)I"⟩
def yX9_crack : MethodName := ⟨RX9, "crack", "(II)I"⟩
def yX9_leak : MethodName := ⟨RX9, "leak", "(IZ)I"⟩
def yX9_pitch : MethodName := ⟨RX9, "pitch", "(II)I"⟩
def yX9_holds : MethodName := ⟨RX9, "holds", "(II)I"⟩
def yX9_tuneAll : MethodName := ⟨RX9, "tuneAll", "(I)I"⟩
def yX9_agree : MethodName := ⟨RX9, "agree", "(I)I"⟩
def yX9_feed : MethodName := ⟨RX9, "feed", "(J)I"⟩
def yX9_end : MethodName := ⟨RX9, "end", "(I)I"⟩
def yX9_tune : MethodName := ⟨RX9, "tune", "()I"⟩
def yX9_fault : MethodName := ⟨RX9, "fault", "()I"⟩
def yX9_tuneOf : MethodName := ⟨RX9, "tuneOf", "(II)I"⟩
def yX9_play : MethodName := ⟨RX9, "play", "(II)I"⟩
def yX9_would : MethodName := ⟨RX9, "would", "(II)I"⟩
def yX9_key : MethodName := ⟨RX9, "key", "(II)I"⟩
def yX9_set : MethodName := ⟨RX9, "set", "(IIIII)I"⟩
def yX9_blame : MethodName := ⟨RX9, "blame", "(IIIIIII)I"⟩
def yX9_boat : MethodName := ⟨RX9, "boat", "(II)I"⟩
def yX9_bend : MethodName := ⟨RX9, "bend", "(II)I"⟩
def yX9_speed : MethodName := ⟨RX9, "speed", "(I)I"⟩
def yX9_far : MethodName := ⟨RX9, "far", "(II)I"⟩
def yX9_heard : MethodName := ⟨RX9, "heard", "(III)I"⟩
def yX9_step : MethodName := ⟨RX9, "step", "(III)I"⟩
def yX9_undo : MethodName := ⟨RX9, "undo", "()I"⟩
def yX9_sheet : MethodName := ⟨RX9, "sheet", "(III)I"⟩
def yX9_lay : MethodName := ⟨RX9, "lay", "(III)I"⟩
def yX9_scan : MethodName := ⟨RX9, "scan", "(IIII)I"⟩
def yX9_count : MethodName := ⟨RX9, "count", "(I)I"⟩
def yX9_tryOut : MethodName := ⟨RX9, "tryOut", "(II)I"⟩
def yX9_takeHeard : MethodName := ⟨RX9, "takeHeard", "(IIII)I"⟩
def yX9_scanOne : MethodName := ⟨RX9, "scanOne", "(II)I"⟩
def yX9_isBeat : MethodName := ⟨RX9, "isBeat", "(III)Z"⟩
def yX9_isKey : MethodName := ⟨RX9, "isKey", "(I)Z"⟩
def yX9_isPlace : MethodName := ⟨RX9, "isPlace", "(I)Z"⟩
def yX9_isWithin : MethodName := ⟨RX9, "isWithin", "(III)Z"⟩
def yX9_leastOf : MethodName := ⟨RX9, "leastOf", "(I)I"⟩
def yX9_greatestOf : MethodName := ⟨RX9, "greatestOf", "(I)I"⟩
def RX10 : String := "SteamTunesModel"
def TX10 : u_T := fun k => match k with
  | 0 => ("SteamTunesModel", "steam", "I", false)
  | 1 => ("SteamTunesModel", "water", "I", false)
  | 2 => ("SteamTunesModel", "fire", "I", false)
  | 3 => ("SteamTunesModel", "valve", "I", false)
  | 4 => ("SteamTunesModel", "blows", "I", false)
  | 5 => ("SteamTunesModel", "whistles", "I", false)
  | 6 => ("SteamTunesModel", "notes", "[I", true)
  | 7 => ("SteamTunesModel", "draws", "[I", true)
  | 8 => ("SteamTunesModel", "slopes", "[I", true)
  | 9 => ("SteamTunesModel", "isStuck", "[Z", true)
  | 10 => ("SteamTunesModel", "stems", "[I", true)
  | 11 => ("SteamTunesModel", "cracks", "[I", true)
  | 12 => ("SteamTunesModel", "leaks", "[Z", true)
  | 13 => ("SteamTunesModel", "acts", "I", false)
  | 14 => ("SteamTunesModel", "kept", "[I", true)
  | 15 => ("SteamTunesModel", "tape", "[I", true)
  | 16 => ("SteamTunesModel", "taped", "I", false)
  | 17 => ("SteamTunesModel", "pos", "I", false)
  | 18 => ("SteamTunesModel", "from", "I", false)
  | 19 => ("SteamTunesModel", "sort", "I", false)
  | 20 => ("SteamTunesModel", "value", "I", false)
  | 21 => ("SteamTunesModel", "fault", "I", false)
  | 22 => ("SteamTunesModel", "wrongAt", "I", false)
  | 23 => ("SteamTunesModel", "tunes", "I", false)
  | 24 => ("SteamTunesModel", "tMany", "[I", true)
  | 25 => ("SteamTunesModel", "tChords", "[I", true)
  | 26 => ("SteamTunesModel", "read", "[I", true)
  | 27 => ("SteamTunesModel", "readMany", "I", false)
  | 28 => ("SteamTunesModel", "isTooLong", "Z", false)
  | 29 => ("SteamTunesModel", "openAt", "[I", true)
  | 30 => ("SteamTunesModel", "openTimes", "[I", true)
  | 31 => ("SteamTunesModel", "open", "I", false)
  | 32 => ("SteamTunesModel", "table", "[I", true)
  | 33 => ("SteamTunesModel", "setChord", "[I", true)
  | 34 => ("SteamTunesModel", "setRests", "[I", true)
  | 35 => ("SteamTunesModel", "setSound", "I", false)
  | 36 => ("SteamTunesModel", "setSum", "I", false)
  | 37 => ("SteamTunesModel", "setSteam", "I", false)
  | 38 => ("SteamTunesModel", "mayAt", "[I", true)
  | 39 => ("SteamTunesModel", "drawOf", "[I", true)
  | 40 => ("SteamTunesModel", "manyOf", "[I", true)
  | 41 => ("SteamTunesModel", "isMet", "[Z", true)
  | 42 => ("SteamTunesModel", "found", "[I", true)
  | 43 => ("SteamTunesModel", "isFound", "[Z", true)
  | 44 => ("SteamTunesModel", "bestFound", "[I", true)
  | 45 => ("SteamTunesModel", "boats", "I", false)
  | 46 => ("SteamTunesModel", "bPlace", "[I", true)
  | 47 => ("SteamTunesModel", "bLag", "[I", true)
  | 48 => ("SteamTunesModel", "bends", "I", false)
  | 49 => ("SteamTunesModel", "nPlace", "[I", true)
  | 50 => ("SteamTunesModel", "nLength", "[I", true)
  | 51 => ("SteamTunesModel", "speed", "I", false)
  | 52 => ("SteamTunesModel", "lanes", "[I", true)
  | 53 => ("SteamTunesModel", "sizes", "[I", true)
  | _ => ("SteamTunesModel", "cells", "[I", true)
def tyX10 : Nat → FieldType := fun k => match k with
  | 0 => .int
  | 1 => .int
  | 2 => .int
  | 3 => .int
  | 4 => .int
  | 5 => .int
  | 6 => .array .int
  | 7 => .array .int
  | 8 => .array .int
  | 9 => .array .boolean
  | 10 => .array .int
  | 11 => .array .int
  | 12 => .array .boolean
  | 13 => .int
  | 14 => .array .int
  | 15 => .array .int
  | 16 => .int
  | 17 => .int
  | 18 => .int
  | 19 => .int
  | 20 => .int
  | 21 => .int
  | 22 => .int
  | 23 => .int
  | 24 => .array .int
  | 25 => .array .int
  | 26 => .array .int
  | 27 => .int
  | 28 => .boolean
  | 29 => .array .int
  | 30 => .array .int
  | 31 => .int
  | 32 => .array .int
  | 33 => .array .int
  | 34 => .array .int
  | 35 => .int
  | 36 => .int
  | 37 => .int
  | 38 => .array .int
  | 39 => .array .int
  | 40 => .array .int
  | 41 => .array .boolean
  | 42 => .array .int
  | 43 => .array .boolean
  | 44 => .array .int
  | 45 => .int
  | 46 => .array .int
  | 47 => .array .int
  | 48 => .int
  | 49 => .array .int
  | 50 => .array .int
  | 51 => .int
  | 52 => .array .int
  | 53 => .array .int
  | _ => .array .int
theorem nmX10 : ∀ a, a < 55 → ∀ b, b < 55 → a ≠ b → (TX10 a).2.1 ≠ (TX10 b).2.1 := by decide +kernel
theorem tyX10_ok : ∀ k, k < 55 → parseFieldDescriptor (TX10 k).2.2.1 = some (tyX10 k) := by decide +kernel
def yX10_init : MethodName := ⟨RX10, "<init>", "()V"⟩
def yX10_in : MethodName := ⟨RX10, "in", "(JJJ)Z"⟩
def yX10_down : MethodName := ⟨RX10, "down", "(II)I"⟩
def yX10_size : MethodName := ⟨RX10, "size", "(I)I"⟩
def yX10_isWhistle : MethodName := ⟨RX10, "isWhistle", "(I)Z"⟩
def yX10_keeps : MethodName := ⟨RX10, "keeps", "()V"⟩
def yX10_undo : MethodName := ⟨RX10, "undo", "()I"⟩
def yX10_fire : MethodName := ⟨RX10, "fire", "(I)I"⟩
def yX10_water : MethodName := ⟨RX10, "water", "(I)I"⟩
def yX10_valve : MethodName := ⟨RX10, "valve", "(I)I"⟩
def yX10_pressure : MethodName := ⟨RX10, "pressure", "(I)I"⟩
def yX10_drawn : MethodName := ⟨RX10, "drawn", "(I)I"⟩
def yX10_boiler : MethodName := ⟨RX10, "boiler", "(I)I"⟩
def yX10_off : MethodName := ⟨RX10, "off", "(II)I"⟩
def yX10_strayOf : MethodName := ⟨RX10, "strayOf", "(II)I"⟩
def yX10_goes : MethodName := ⟨RX10, "goes", "(I)I"⟩
def yX10_beat : MethodName := ⟨RX10, "beat", "(I)I"⟩
def yX10_whistle : MethodName := ⟨RX10, "whistle", "(IIIZ)I"⟩
def yX10_told : MethodName := ⟨RX10, "told", "(II)I"⟩
def yX10_stem : MethodName := ⟨RX10, "stem", "(II)I"⟩
def yX10_crack : MethodName := ⟨RX10, "crack", "(II)I"⟩
def yX10_leak : MethodName := ⟨RX10, "leak", "(IZ)I"⟩
def yX10_pitch : MethodName := ⟨RX10, "pitch", "(II)I"⟩
def yX10_holds : MethodName := ⟨RX10, "holds", "(II)I"⟩
def yX10_tuneAll : MethodName := ⟨RX10, "tuneAll", "(I)I"⟩
def yX10_agree : MethodName := ⟨RX10, "agree", "(I)I"⟩
def yX10_feed : MethodName := ⟨RX10, "feed", "(J)I"⟩
def yX10_end : MethodName := ⟨RX10, "end", "(I)I"⟩
def yX10_fails : MethodName := ⟨RX10, "fails", "(II)V"⟩
def yX10_wants : MethodName := ⟨RX10, "wants", "(ZI)V"⟩
def yX10_look : MethodName := ⟨RX10, "look", "(I)I"⟩
def yX10_bits : MethodName := ⟨RX10, "bits", "(I)I"⟩
def yX10_readChord : MethodName := ⟨RX10, "readChord", "()V"⟩
def yX10_next : MethodName := ⟨RX10, "next", "()V"⟩
def yX10_isSign : MethodName := ⟨RX10, "isSign", "(I)Z"⟩
def yX10_beatRead : MethodName := ⟨RX10, "beatRead", "(I)V"⟩
def yX10_closes : MethodName := ⟨RX10, "closes", "()V"⟩
def yX10_readTune : MethodName := ⟨RX10, "readTune", "()V"⟩
def yX10_tune : MethodName := ⟨RX10, "tune", "()I"⟩
def yX10_fault : MethodName := ⟨RX10, "fault", "()I"⟩
def yX10_isTune : MethodName := ⟨RX10, "isTune", "(I)Z"⟩
def yX10_chordAt : MethodName := ⟨RX10, "chordAt", "(II)I"⟩
def yX10_allOf : MethodName := ⟨RX10, "allOf", "(I)I"⟩
def yX10_tuneOf : MethodName := ⟨RX10, "tuneOf", "(II)I"⟩
def yX10_isIn : MethodName := ⟨RX10, "isIn", "(II)Z"⟩
def yX10_moved : MethodName := ⟨RX10, "moved", "(II)I"⟩
def yX10_goesAll : MethodName := ⟨RX10, "goesAll", "(II)I"⟩
def yX10_tried : MethodName := ⟨RX10, "tried", "(II)I"⟩
def yX10_play : MethodName := ⟨RX10, "play", "(II)I"⟩
def yX10_would : MethodName := ⟨RX10, "would", "(II)I"⟩
def yX10_key : MethodName := ⟨RX10, "key", "(II)I"⟩
def yX10_spot : MethodName := ⟨RX10, "spot", "(III)I"⟩
def yX10_then : MethodName := ⟨RX10, "then", "(II)I"⟩
def yX10_prepares : MethodName := ⟨RX10, "prepares", "(I)V"⟩
def yX10_meets : MethodName := ⟨RX10, "meets", "(III)V"⟩
def yX10_bestSound : MethodName := ⟨RX10, "bestSound", "(IIII)I"⟩
def yX10_fills : MethodName := ⟨RX10, "fills", "(IIII)V"⟩
def yX10_set : MethodName := ⟨RX10, "set", "(IIIII)I"⟩
def yX10_drawnWith : MethodName := ⟨RX10, "drawnWith", "(II)I"⟩
def yX10_lowest : MethodName := ⟨RX10, "lowest", "(I)I"⟩
def yX10_explains : MethodName := ⟨RX10, "explains", "(IIIIII)I"⟩
def yX10_blame : MethodName := ⟨RX10, "blame", "(IIIIIII)I"⟩
def yX10_boat : MethodName := ⟨RX10, "boat", "(II)I"⟩
def yX10_bend : MethodName := ⟨RX10, "bend", "(II)I"⟩
def yX10_speed : MethodName := ⟨RX10, "speed", "(I)I"⟩
def yX10_farOf : MethodName := ⟨RX10, "farOf", "(II)I"⟩
def yX10_far : MethodName := ⟨RX10, "far", "(II)I"⟩
def yX10_heardAt : MethodName := ⟨RX10, "heardAt", "(II)I"⟩
def yX10_heard : MethodName := ⟨RX10, "heard", "(III)I"⟩
def yX10_step : MethodName := ⟨RX10, "step", "(III)I"⟩
def yX10_isSheet : MethodName := ⟨RX10, "isSheet", "(II)Z"⟩
def yX10_sheet : MethodName := ⟨RX10, "sheet", "(III)I"⟩
def yX10_lay : MethodName := ⟨RX10, "lay", "(III)I"⟩
def yX10_scan : MethodName := ⟨RX10, "scan", "(IIII)I"⟩
def yX10_count : MethodName := ⟨RX10, "count", "(I)I"⟩
def RJ6 : String := "java/lang/Integer"
def yJ6_bitCount_0f7a4 : MethodName := ⟨RJ6, "bitCount", "(I)I"⟩
def RJ9 : String := "java/lang/Math"
def yJ9_floorDiv_7cf53 : MethodName := ⟨RJ9, "floorDiv", "(II)I"⟩
def yJ9_abs_0f7a4 : MethodName := ⟨RJ9, "abs", "(I)I"⟩
def yJ9_max_7cf53 : MethodName := ⟨RJ9, "max", "(II)I"⟩
def yJ9_min_7cf53 : MethodName := ⟨RJ9, "min", "(II)I"⟩
def RJ7 : String := "java/util/Arrays"
def yJ7_rangeCheck_23922 : MethodName := ⟨RJ7, "rangeCheck", "(III)V"⟩
def yJ7_fill_53178 : MethodName := ⟨RJ7, "fill", "([II)V"⟩
def yJ7_fill_fda19 : MethodName := ⟨RJ7, "fill", "([IIII)V"⟩
def RL : String := "SteamTunesLaw"
def yL_law : MethodName := ⟨RL, "law", "([I)Z"⟩
abbrev vwCl : List vw_C := [(RX0, TX0, 4), (RX1, TX1, 5), (RX2, TX2, 14), (RX3, TX3, 11), (RX4, TX4, 16), (RX5, TX5, 3), (RX6, TX6, 8), (RX7, TX7, 3), (RX8, TX8, 8), (RX9, TX9, 10), (RX10, TX10, 55)]
def tyCl : Nat → Nat → FieldType := fun c => match c with
  | 0 => tyX0
  | 1 => tyX1
  | 2 => tyX2
  | 3 => tyX3
  | 4 => tyX4
  | 5 => tyX5
  | 6 => tyX6
  | 7 => tyX7
  | 8 => tyX8
  | 9 => tyX9
  | _ => tyX10
def nest_w : List (String × Nat × MethodName × String) := [("SteamTunes", 9, ⟨"SteamTunes$Boiler", "<init>", "()V"⟩, "SteamTunes"), ("SteamTunes", 21, ⟨"SteamTunes$Whistles", "<init>", "()V"⟩, "SteamTunes"), ("SteamTunes", 28, ⟨"SteamTunes$Acts", "<init>", "()V"⟩, "SteamTunes"), ("SteamTunes", 35, ⟨"SteamTunes$Reader", "<init>", "()V"⟩, "SteamTunes"), ("SteamTunes", 42, ⟨"SteamTunes$Tunes", "<init>", "()V"⟩, "SteamTunes"), ("SteamTunes", 49, ⟨"SteamTunes$Setting", "<init>", "()V"⟩, "SteamTunes"), ("SteamTunes", 56, ⟨"SteamTunes$Suspects", "<init>", "()V"⟩, "SteamTunes"), ("SteamTunes", 63, ⟨"SteamTunes$River", "<init>", "()V"⟩, "SteamTunes"), ("SteamTunes", 70, ⟨"SteamTunes$Sheets", "<init>", "()V"⟩, "SteamTunes"), ("SteamTunes$Whistles", 38, ⟨"SteamTunes", "isWithin", "(III)Z"⟩, "SteamTunes"), ("SteamTunes$Reader", 111, ⟨"SteamTunes", "isWithin", "(III)Z"⟩, "SteamTunes"), ("SteamTunes$Tunes", 39, ⟨"SteamTunes", "leastOf", "(I)I"⟩, "SteamTunes"), ("SteamTunes$Tunes", 42, ⟨"SteamTunes", "greatestOf", "(I)I"⟩, "SteamTunes"), ("SteamTunes$Suspects", 62, ⟨"SteamTunes", "leastOf", "(I)I"⟩, "SteamTunes"), ("SteamTunes$Suspects", 88, ⟨"SteamTunes", "isWithin", "(III)Z"⟩, "SteamTunes")]

