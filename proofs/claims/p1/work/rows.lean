section
-- ===== PART A: goes FIRST, ahead of the names: the tables' words, and 'selects' of the private methods out of them =====
/-- a private method of a class that the tables say can be made, by its rows of tables_1 -/
def lw_okq (q : MethodName × Nat) : Prop := (q.1.cls ≠ "java/lang/invoke/MethodHandle" ∧ q.1.cls ≠ "java/lang/invoke/VarHandle") ∧ Cond.instantiable q.1.cls q.2 ∈ tables_1 ∧ Cond.privateMethod q.1 ∈ tables_1 ∧ Cond.instanceMethod q.1 ∈ tables_1
theorem lw_p0 : lw_okq (⟨"SteamTunes$Reader", "readToken", "()V"⟩, 14) := ⟨⟨by decide +kernel, by decide +kernel⟩, List.mem_of_getElem? (i := 131) (by decide +kernel), List.mem_of_getElem? (i := 546) (by decide +kernel), List.mem_of_getElem? (i := 547) (by decide +kernel)⟩
theorem lw_p1 : lw_okq (⟨"SteamTunes$Reader", "isLetter", "(I)Z"⟩, 14) := ⟨⟨by decide +kernel, by decide +kernel⟩, List.mem_of_getElem? (i := 131) (by decide +kernel), List.mem_of_getElem? (i := 550) (by decide +kernel), List.mem_of_getElem? (i := 551) (by decide +kernel)⟩
theorem lw_p2 : lw_okq (⟨"SteamTunes$Reader", "readChord", "()V"⟩, 14) := ⟨⟨by decide +kernel, by decide +kernel⟩, List.mem_of_getElem? (i := 131) (by decide +kernel), List.mem_of_getElem? (i := 554) (by decide +kernel), List.mem_of_getElem? (i := 555) (by decide +kernel)⟩
theorem lw_p3 : lw_okq (⟨"SteamTunes$Reader", "fail", "(II)V"⟩, 14) := ⟨⟨by decide +kernel, by decide +kernel⟩, List.mem_of_getElem? (i := 131) (by decide +kernel), List.mem_of_getElem? (i := 558) (by decide +kernel), List.mem_of_getElem? (i := 559) (by decide +kernel)⟩
theorem lw_p4 : lw_okq (⟨"SteamTunes$Reader", "isFigure", "(I)Z"⟩, 14) := ⟨⟨by decide +kernel, by decide +kernel⟩, List.mem_of_getElem? (i := 131) (by decide +kernel), List.mem_of_getElem? (i := 562) (by decide +kernel), List.mem_of_getElem? (i := 563) (by decide +kernel)⟩
theorem lw_p5 : lw_okq (⟨"SteamTunes$Reader", "readNumber", "()V"⟩, 14) := ⟨⟨by decide +kernel, by decide +kernel⟩, List.mem_of_getElem? (i := 131) (by decide +kernel), List.mem_of_getElem? (i := 566) (by decide +kernel), List.mem_of_getElem? (i := 567) (by decide +kernel)⟩
theorem lw_p6 : lw_okq (⟨"SteamTunes$Reader", "readSign", "()V"⟩, 14) := ⟨⟨by decide +kernel, by decide +kernel⟩, List.mem_of_getElem? (i := 131) (by decide +kernel), List.mem_of_getElem? (i := 570) (by decide +kernel), List.mem_of_getElem? (i := 571) (by decide +kernel)⟩
theorem lw_p7 : lw_okq (⟨"SteamTunes$Reader", "take", "(I)I"⟩, 14) := ⟨⟨by decide +kernel, by decide +kernel⟩, List.mem_of_getElem? (i := 131) (by decide +kernel), List.mem_of_getElem? (i := 574) (by decide +kernel), List.mem_of_getElem? (i := 575) (by decide +kernel)⟩
theorem lw_p8 : lw_okq (⟨"SteamTunes$Reader", "takeOpen", "()I"⟩, 14) := ⟨⟨by decide +kernel, by decide +kernel⟩, List.mem_of_getElem? (i := 131) (by decide +kernel), List.mem_of_getElem? (i := 578) (by decide +kernel), List.mem_of_getElem? (i := 579) (by decide +kernel)⟩
theorem lw_p9 : lw_okq (⟨"SteamTunes$Reader", "misplaced", "()I"⟩, 14) := ⟨⟨by decide +kernel, by decide +kernel⟩, List.mem_of_getElem? (i := 131) (by decide +kernel), List.mem_of_getElem? (i := 582) (by decide +kernel), List.mem_of_getElem? (i := 583) (by decide +kernel)⟩
theorem lw_p10 : lw_okq (⟨"SteamTunes$Reader", "takeChord", "()I"⟩, 14) := ⟨⟨by decide +kernel, by decide +kernel⟩, List.mem_of_getElem? (i := 131) (by decide +kernel), List.mem_of_getElem? (i := 586) (by decide +kernel), List.mem_of_getElem? (i := 587) (by decide +kernel)⟩
theorem lw_p11 : lw_okq (⟨"SteamTunes$Reader", "addBeat", "(I)I"⟩, 14) := ⟨⟨by decide +kernel, by decide +kernel⟩, List.mem_of_getElem? (i := 131) (by decide +kernel), List.mem_of_getElem? (i := 590) (by decide +kernel), List.mem_of_getElem? (i := 591) (by decide +kernel)⟩
theorem lw_p12 : lw_okq (⟨"SteamTunes$Reader", "takeNumber", "()I"⟩, 14) := ⟨⟨by decide +kernel, by decide +kernel⟩, List.mem_of_getElem? (i := 131) (by decide +kernel), List.mem_of_getElem? (i := 595) (by decide +kernel), List.mem_of_getElem? (i := 596) (by decide +kernel)⟩
theorem lw_p13 : lw_okq (⟨"SteamTunes$Reader", "takeClose", "()I"⟩, 14) := ⟨⟨by decide +kernel, by decide +kernel⟩, List.mem_of_getElem? (i := 131) (by decide +kernel), List.mem_of_getElem? (i := 600) (by decide +kernel), List.mem_of_getElem? (i := 601) (by decide +kernel)⟩
theorem lw_p14 : lw_okq (⟨"SteamTunes$Reader", "takeEnd", "()I"⟩, 14) := ⟨⟨by decide +kernel, by decide +kernel⟩, List.mem_of_getElem? (i := 131) (by decide +kernel), List.mem_of_getElem? (i := 604) (by decide +kernel), List.mem_of_getElem? (i := 605) (by decide +kernel)⟩
theorem lw_p15 : lw_okq (⟨"SteamTunes", "isBeat", "(III)Z"⟩, 10) := ⟨⟨by decide +kernel, by decide +kernel⟩, List.mem_of_getElem? (i := 17) (by decide +kernel), List.mem_of_getElem? (i := 646) (by decide +kernel), List.mem_of_getElem? (i := 647) (by decide +kernel)⟩
def lw_privs_1 : List (MethodName × Nat) := [(⟨"SteamTunes$Reader", "readToken", "()V"⟩, 14), (⟨"SteamTunes$Reader", "isLetter", "(I)Z"⟩, 14), (⟨"SteamTunes$Reader", "readChord", "()V"⟩, 14), (⟨"SteamTunes$Reader", "fail", "(II)V"⟩, 14), (⟨"SteamTunes$Reader", "isFigure", "(I)Z"⟩, 14), (⟨"SteamTunes$Reader", "readNumber", "()V"⟩, 14), (⟨"SteamTunes$Reader", "readSign", "()V"⟩, 14), (⟨"SteamTunes$Reader", "take", "(I)I"⟩, 14), (⟨"SteamTunes$Reader", "takeOpen", "()I"⟩, 14), (⟨"SteamTunes$Reader", "misplaced", "()I"⟩, 14), (⟨"SteamTunes$Reader", "takeChord", "()I"⟩, 14), (⟨"SteamTunes$Reader", "addBeat", "(I)I"⟩, 14), (⟨"SteamTunes$Reader", "takeNumber", "()I"⟩, 14), (⟨"SteamTunes$Reader", "takeClose", "()I"⟩, 14), (⟨"SteamTunes$Reader", "takeEnd", "()I"⟩, 14), (⟨"SteamTunes", "isBeat", "(III)Z"⟩, 10)]
theorem lw_r1 : ∀ q ∈ lw_privs_1, lw_okq q := List.forall_mem_cons.mpr ⟨lw_p0, List.forall_mem_cons.mpr ⟨lw_p1, List.forall_mem_cons.mpr ⟨lw_p2, List.forall_mem_cons.mpr ⟨lw_p3, List.forall_mem_cons.mpr ⟨lw_p4, List.forall_mem_cons.mpr ⟨lw_p5, List.forall_mem_cons.mpr ⟨lw_p6, List.forall_mem_cons.mpr ⟨lw_p7, List.forall_mem_cons.mpr ⟨lw_p8, List.forall_mem_cons.mpr ⟨lw_p9, List.forall_mem_cons.mpr ⟨lw_p10, List.forall_mem_cons.mpr ⟨lw_p11, List.forall_mem_cons.mpr ⟨lw_p12, List.forall_mem_cons.mpr ⟨lw_p13, List.forall_mem_cons.mpr ⟨lw_p14, List.forall_mem_cons.mpr ⟨lw_p15, fun _ h => absurd h List.not_mem_nil⟩⟩⟩⟩⟩⟩⟩⟩⟩⟩⟩⟩⟩⟩⟩⟩
theorem lw_p16 : lw_okq (⟨"SteamTunes", "tryOut", "(II)I"⟩, 10) := ⟨⟨by decide +kernel, by decide +kernel⟩, List.mem_of_getElem? (i := 17) (by decide +kernel), List.mem_of_getElem? (i := 654) (by decide +kernel), List.mem_of_getElem? (i := 655) (by decide +kernel)⟩
theorem lw_p17 : lw_okq (⟨"SteamTunes$Setting", "markNear", "(LSteamTunes$Whistles;I)V"⟩, 16) := ⟨⟨by decide +kernel, by decide +kernel⟩, List.mem_of_getElem? (i := 207) (by decide +kernel), List.mem_of_getElem? (i := 705) (by decide +kernel), List.mem_of_getElem? (i := 706) (by decide +kernel)⟩
theorem lw_p18 : lw_okq (⟨"SteamTunes$Setting", "listOptions", "(LSteamTunes$Whistles;I)V"⟩, 16) := ⟨⟨by decide +kernel, by decide +kernel⟩, List.mem_of_getElem? (i := 207) (by decide +kernel), List.mem_of_getElem? (i := 719) (by decide +kernel), List.mem_of_getElem? (i := 720) (by decide +kernel)⟩
theorem lw_p19 : lw_okq (⟨"SteamTunes$Setting", "fillSounding", "(LSteamTunes$Boiler;I)V"⟩, 16) := ⟨⟨by decide +kernel, by decide +kernel⟩, List.mem_of_getElem? (i := 207) (by decide +kernel), List.mem_of_getElem? (i := 723) (by decide +kernel), List.mem_of_getElem? (i := 724) (by decide +kernel)⟩
theorem lw_p20 : lw_okq (⟨"SteamTunes$Setting", "isOpen", "(II)Z"⟩, 16) := ⟨⟨by decide +kernel, by decide +kernel⟩, List.mem_of_getElem? (i := 207) (by decide +kernel), List.mem_of_getElem? (i := 727) (by decide +kernel), List.mem_of_getElem? (i := 728) (by decide +kernel)⟩
theorem lw_p21 : lw_okq (⟨"SteamTunes$Setting", "raise", "(III)V"⟩, 16) := ⟨⟨by decide +kernel, by decide +kernel⟩, List.mem_of_getElem? (i := 207) (by decide +kernel), List.mem_of_getElem? (i := 737) (by decide +kernel), List.mem_of_getElem? (i := 738) (by decide +kernel)⟩
theorem lw_p22 : lw_okq (⟨"SteamTunes$Setting", "fillResting", "(LSteamTunes$Boiler;I)V"⟩, 16) := ⟨⟨by decide +kernel, by decide +kernel⟩, List.mem_of_getElem? (i := 207) (by decide +kernel), List.mem_of_getElem? (i := 741) (by decide +kernel), List.mem_of_getElem? (i := 742) (by decide +kernel)⟩
theorem lw_p23 : lw_okq (⟨"SteamTunes$Setting", "follow", "(LSteamTunes$Boiler;LSteamTunes$Whistles;I)V"⟩, 16) := ⟨⟨by decide +kernel, by decide +kernel⟩, List.mem_of_getElem? (i := 207) (by decide +kernel), List.mem_of_getElem? (i := 746) (by decide +kernel), List.mem_of_getElem? (i := 747) (by decide +kernel)⟩
theorem lw_p24 : lw_okq (⟨"SteamTunes$Setting", "bestOption", "(LSteamTunes$Boiler;III)I"⟩, 16) := ⟨⟨by decide +kernel, by decide +kernel⟩, List.mem_of_getElem? (i := 207) (by decide +kernel), List.mem_of_getElem? (i := 750) (by decide +kernel), List.mem_of_getElem? (i := 751) (by decide +kernel)⟩
theorem lw_p25 : lw_okq (⟨"SteamTunes$Setting", "worthOf", "(LSteamTunes$Boiler;IIII)I"⟩, 16) := ⟨⟨by decide +kernel, by decide +kernel⟩, List.mem_of_getElem? (i := 207) (by decide +kernel), List.mem_of_getElem? (i := 754) (by decide +kernel), List.mem_of_getElem? (i := 755) (by decide +kernel)⟩
theorem lw_p26 : lw_okq (⟨"SteamTunes", "takeHeard", "(IIII)I"⟩, 10) := ⟨⟨by decide +kernel, by decide +kernel⟩, List.mem_of_getElem? (i := 17) (by decide +kernel), List.mem_of_getElem? (i := 786) (by decide +kernel), List.mem_of_getElem? (i := 787) (by decide +kernel)⟩
theorem lw_p27 : lw_okq (⟨"SteamTunes$Suspects", "explains", "(LSteamTunes$Boiler;LSteamTunes$Whistles;II)Z"⟩, 8) := ⟨⟨by decide +kernel, by decide +kernel⟩, List.mem_of_getElem? (i := 262) (by decide +kernel), List.mem_of_getElem? (i := 806) (by decide +kernel), List.mem_of_getElem? (i := 807) (by decide +kernel)⟩
theorem lw_p28 : lw_okq (⟨"SteamTunes$Suspects", "agrees", "(LSteamTunes$Whistles;III)Z"⟩, 8) := ⟨⟨by decide +kernel, by decide +kernel⟩, List.mem_of_getElem? (i := 262) (by decide +kernel), List.mem_of_getElem? (i := 814) (by decide +kernel), List.mem_of_getElem? (i := 815) (by decide +kernel)⟩
theorem lw_p29 : lw_okq (⟨"SteamTunes$Suspects", "triedCracks", "()I"⟩, 8) := ⟨⟨by decide +kernel, by decide +kernel⟩, List.mem_of_getElem? (i := 262) (by decide +kernel), List.mem_of_getElem? (i := 822) (by decide +kernel), List.mem_of_getElem? (i := 823) (by decide +kernel)⟩
theorem lw_p30 : lw_okq (⟨"SteamTunes$Suspects", "crackedBits", "()I"⟩, 8) := ⟨⟨by decide +kernel, by decide +kernel⟩, List.mem_of_getElem? (i := 262) (by decide +kernel), List.mem_of_getElem? (i := 831) (by decide +kernel), List.mem_of_getElem? (i := 832) (by decide +kernel)⟩
theorem lw_p31 : lw_okq (⟨"SteamTunes", "scanOne", "(II)I"⟩, 10) := ⟨⟨by decide +kernel, by decide +kernel⟩, List.mem_of_getElem? (i := 17) (by decide +kernel), List.mem_of_getElem? (i := 924) (by decide +kernel), List.mem_of_getElem? (i := 925) (by decide +kernel)⟩
def lw_privs_2 : List (MethodName × Nat) := [(⟨"SteamTunes", "tryOut", "(II)I"⟩, 10), (⟨"SteamTunes$Setting", "markNear", "(LSteamTunes$Whistles;I)V"⟩, 16), (⟨"SteamTunes$Setting", "listOptions", "(LSteamTunes$Whistles;I)V"⟩, 16), (⟨"SteamTunes$Setting", "fillSounding", "(LSteamTunes$Boiler;I)V"⟩, 16), (⟨"SteamTunes$Setting", "isOpen", "(II)Z"⟩, 16), (⟨"SteamTunes$Setting", "raise", "(III)V"⟩, 16), (⟨"SteamTunes$Setting", "fillResting", "(LSteamTunes$Boiler;I)V"⟩, 16), (⟨"SteamTunes$Setting", "follow", "(LSteamTunes$Boiler;LSteamTunes$Whistles;I)V"⟩, 16), (⟨"SteamTunes$Setting", "bestOption", "(LSteamTunes$Boiler;III)I"⟩, 16), (⟨"SteamTunes$Setting", "worthOf", "(LSteamTunes$Boiler;IIII)I"⟩, 16), (⟨"SteamTunes", "takeHeard", "(IIII)I"⟩, 10), (⟨"SteamTunes$Suspects", "explains", "(LSteamTunes$Boiler;LSteamTunes$Whistles;II)Z"⟩, 8), (⟨"SteamTunes$Suspects", "agrees", "(LSteamTunes$Whistles;III)Z"⟩, 8), (⟨"SteamTunes$Suspects", "triedCracks", "()I"⟩, 8), (⟨"SteamTunes$Suspects", "crackedBits", "()I"⟩, 8), (⟨"SteamTunes", "scanOne", "(II)I"⟩, 10)]
theorem lw_r2 : ∀ q ∈ lw_privs_2, lw_okq q := List.forall_mem_cons.mpr ⟨lw_p16, List.forall_mem_cons.mpr ⟨lw_p17, List.forall_mem_cons.mpr ⟨lw_p18, List.forall_mem_cons.mpr ⟨lw_p19, List.forall_mem_cons.mpr ⟨lw_p20, List.forall_mem_cons.mpr ⟨lw_p21, List.forall_mem_cons.mpr ⟨lw_p22, List.forall_mem_cons.mpr ⟨lw_p23, List.forall_mem_cons.mpr ⟨lw_p24, List.forall_mem_cons.mpr ⟨lw_p25, List.forall_mem_cons.mpr ⟨lw_p26, List.forall_mem_cons.mpr ⟨lw_p27, List.forall_mem_cons.mpr ⟨lw_p28, List.forall_mem_cons.mpr ⟨lw_p29, List.forall_mem_cons.mpr ⟨lw_p30, List.forall_mem_cons.mpr ⟨lw_p31, fun _ h => absurd h List.not_mem_nil⟩⟩⟩⟩⟩⟩⟩⟩⟩⟩⟩⟩⟩⟩⟩⟩
theorem lw_p32 : lw_okq (⟨"SteamTunesModel", "keeps", "()V"⟩, 55) := ⟨⟨by decide +kernel, by decide +kernel⟩, List.mem_of_getElem? (i := 936) (by decide +kernel), List.mem_of_getElem? (i := 1121) (by decide +kernel), List.mem_of_getElem? (i := 1122) (by decide +kernel)⟩
theorem lw_p33 : lw_okq (⟨"SteamTunesModel", "drawn", "(I)I"⟩, 55) := ⟨⟨by decide +kernel, by decide +kernel⟩, List.mem_of_getElem? (i := 936) (by decide +kernel), List.mem_of_getElem? (i := 1144) (by decide +kernel), List.mem_of_getElem? (i := 1145) (by decide +kernel)⟩
theorem lw_p34 : lw_okq (⟨"SteamTunesModel", "goes", "(I)I"⟩, 55) := ⟨⟨by decide +kernel, by decide +kernel⟩, List.mem_of_getElem? (i := 936) (by decide +kernel), List.mem_of_getElem? (i := 1152) (by decide +kernel), List.mem_of_getElem? (i := 1153) (by decide +kernel)⟩
theorem lw_p35 : lw_okq (⟨"SteamTunesModel", "strayOf", "(II)I"⟩, 55) := ⟨⟨by decide +kernel, by decide +kernel⟩, List.mem_of_getElem? (i := 936) (by decide +kernel), List.mem_of_getElem? (i := 1156) (by decide +kernel), List.mem_of_getElem? (i := 1157) (by decide +kernel)⟩
theorem lw_p36 : lw_okq (⟨"SteamTunesModel", "off", "(II)I"⟩, 55) := ⟨⟨by decide +kernel, by decide +kernel⟩, List.mem_of_getElem? (i := 936) (by decide +kernel), List.mem_of_getElem? (i := 1160) (by decide +kernel), List.mem_of_getElem? (i := 1161) (by decide +kernel)⟩
theorem lw_p37 : lw_okq (⟨"SteamTunesModel", "isWhistle", "(I)Z"⟩, 55) := ⟨⟨by decide +kernel, by decide +kernel⟩, List.mem_of_getElem? (i := 936) (by decide +kernel), List.mem_of_getElem? (i := 1180) (by decide +kernel), List.mem_of_getElem? (i := 1181) (by decide +kernel)⟩
theorem lw_p38 : lw_okq (⟨"SteamTunesModel", "next", "()V"⟩, 55) := ⟨⟨by decide +kernel, by decide +kernel⟩, List.mem_of_getElem? (i := 936) (by decide +kernel), List.mem_of_getElem? (i := 1232) (by decide +kernel), List.mem_of_getElem? (i := 1233) (by decide +kernel)⟩
theorem lw_p39 : lw_okq (⟨"SteamTunesModel", "look", "(I)I"⟩, 55) := ⟨⟨by decide +kernel, by decide +kernel⟩, List.mem_of_getElem? (i := 936) (by decide +kernel), List.mem_of_getElem? (i := 1236) (by decide +kernel), List.mem_of_getElem? (i := 1237) (by decide +kernel)⟩
theorem lw_p40 : lw_okq (⟨"SteamTunesModel", "readChord", "()V"⟩, 55) := ⟨⟨by decide +kernel, by decide +kernel⟩, List.mem_of_getElem? (i := 936) (by decide +kernel), List.mem_of_getElem? (i := 1242) (by decide +kernel), List.mem_of_getElem? (i := 1243) (by decide +kernel)⟩
theorem lw_p41 : lw_okq (⟨"SteamTunesModel", "fails", "(II)V"⟩, 55) := ⟨⟨by decide +kernel, by decide +kernel⟩, List.mem_of_getElem? (i := 936) (by decide +kernel), List.mem_of_getElem? (i := 1246) (by decide +kernel), List.mem_of_getElem? (i := 1247) (by decide +kernel)⟩
theorem lw_p42 : lw_okq (⟨"SteamTunesModel", "wants", "(ZI)V"⟩, 55) := ⟨⟨by decide +kernel, by decide +kernel⟩, List.mem_of_getElem? (i := 936) (by decide +kernel), List.mem_of_getElem? (i := 1255) (by decide +kernel), List.mem_of_getElem? (i := 1256) (by decide +kernel)⟩
theorem lw_p43 : lw_okq (⟨"SteamTunesModel", "readTune", "()V"⟩, 55) := ⟨⟨by decide +kernel, by decide +kernel⟩, List.mem_of_getElem? (i := 936) (by decide +kernel), List.mem_of_getElem? (i := 1259) (by decide +kernel), List.mem_of_getElem? (i := 1260) (by decide +kernel)⟩
theorem lw_p44 : lw_okq (⟨"SteamTunesModel", "isSign", "(I)Z"⟩, 55) := ⟨⟨by decide +kernel, by decide +kernel⟩, List.mem_of_getElem? (i := 936) (by decide +kernel), List.mem_of_getElem? (i := 1263) (by decide +kernel), List.mem_of_getElem? (i := 1264) (by decide +kernel)⟩
theorem lw_p45 : lw_okq (⟨"SteamTunesModel", "beatRead", "(I)V"⟩, 55) := ⟨⟨by decide +kernel, by decide +kernel⟩, List.mem_of_getElem? (i := 936) (by decide +kernel), List.mem_of_getElem? (i := 1267) (by decide +kernel), List.mem_of_getElem? (i := 1268) (by decide +kernel)⟩
theorem lw_p46 : lw_okq (⟨"SteamTunesModel", "closes", "()V"⟩, 55) := ⟨⟨by decide +kernel, by decide +kernel⟩, List.mem_of_getElem? (i := 936) (by decide +kernel), List.mem_of_getElem? (i := 1271) (by decide +kernel), List.mem_of_getElem? (i := 1272) (by decide +kernel)⟩
theorem lw_p47 : lw_okq (⟨"SteamTunesModel", "isTune", "(I)Z"⟩, 55) := ⟨⟨by decide +kernel, by decide +kernel⟩, List.mem_of_getElem? (i := 936) (by decide +kernel), List.mem_of_getElem? (i := 1283) (by decide +kernel), List.mem_of_getElem? (i := 1284) (by decide +kernel)⟩
def lw_privs_3 : List (MethodName × Nat) := [(⟨"SteamTunesModel", "keeps", "()V"⟩, 55), (⟨"SteamTunesModel", "drawn", "(I)I"⟩, 55), (⟨"SteamTunesModel", "goes", "(I)I"⟩, 55), (⟨"SteamTunesModel", "strayOf", "(II)I"⟩, 55), (⟨"SteamTunesModel", "off", "(II)I"⟩, 55), (⟨"SteamTunesModel", "isWhistle", "(I)Z"⟩, 55), (⟨"SteamTunesModel", "next", "()V"⟩, 55), (⟨"SteamTunesModel", "look", "(I)I"⟩, 55), (⟨"SteamTunesModel", "readChord", "()V"⟩, 55), (⟨"SteamTunesModel", "fails", "(II)V"⟩, 55), (⟨"SteamTunesModel", "wants", "(ZI)V"⟩, 55), (⟨"SteamTunesModel", "readTune", "()V"⟩, 55), (⟨"SteamTunesModel", "isSign", "(I)Z"⟩, 55), (⟨"SteamTunesModel", "beatRead", "(I)V"⟩, 55), (⟨"SteamTunesModel", "closes", "()V"⟩, 55), (⟨"SteamTunesModel", "isTune", "(I)Z"⟩, 55)]
theorem lw_r3 : ∀ q ∈ lw_privs_3, lw_okq q := List.forall_mem_cons.mpr ⟨lw_p32, List.forall_mem_cons.mpr ⟨lw_p33, List.forall_mem_cons.mpr ⟨lw_p34, List.forall_mem_cons.mpr ⟨lw_p35, List.forall_mem_cons.mpr ⟨lw_p36, List.forall_mem_cons.mpr ⟨lw_p37, List.forall_mem_cons.mpr ⟨lw_p38, List.forall_mem_cons.mpr ⟨lw_p39, List.forall_mem_cons.mpr ⟨lw_p40, List.forall_mem_cons.mpr ⟨lw_p41, List.forall_mem_cons.mpr ⟨lw_p42, List.forall_mem_cons.mpr ⟨lw_p43, List.forall_mem_cons.mpr ⟨lw_p44, List.forall_mem_cons.mpr ⟨lw_p45, List.forall_mem_cons.mpr ⟨lw_p46, List.forall_mem_cons.mpr ⟨lw_p47, fun _ h => absurd h List.not_mem_nil⟩⟩⟩⟩⟩⟩⟩⟩⟩⟩⟩⟩⟩⟩⟩⟩
theorem lw_p48 : lw_okq (⟨"SteamTunesModel", "chordAt", "(II)I"⟩, 55) := ⟨⟨by decide +kernel, by decide +kernel⟩, List.mem_of_getElem? (i := 936) (by decide +kernel), List.mem_of_getElem? (i := 1289) (by decide +kernel), List.mem_of_getElem? (i := 1290) (by decide +kernel)⟩
theorem lw_p49 : lw_okq (⟨"SteamTunesModel", "allOf", "(I)I"⟩, 55) := ⟨⟨by decide +kernel, by decide +kernel⟩, List.mem_of_getElem? (i := 936) (by decide +kernel), List.mem_of_getElem? (i := 1293) (by decide +kernel), List.mem_of_getElem? (i := 1294) (by decide +kernel)⟩
theorem lw_p50 : lw_okq (⟨"SteamTunesModel", "isIn", "(II)Z"⟩, 55) := ⟨⟨by decide +kernel, by decide +kernel⟩, List.mem_of_getElem? (i := 936) (by decide +kernel), List.mem_of_getElem? (i := 1303) (by decide +kernel), List.mem_of_getElem? (i := 1304) (by decide +kernel)⟩
theorem lw_p51 : lw_okq (⟨"SteamTunesModel", "tried", "(II)I"⟩, 55) := ⟨⟨by decide +kernel, by decide +kernel⟩, List.mem_of_getElem? (i := 936) (by decide +kernel), List.mem_of_getElem? (i := 1307) (by decide +kernel), List.mem_of_getElem? (i := 1308) (by decide +kernel)⟩
theorem lw_p52 : lw_okq (⟨"SteamTunesModel", "goesAll", "(II)I"⟩, 55) := ⟨⟨by decide +kernel, by decide +kernel⟩, List.mem_of_getElem? (i := 936) (by decide +kernel), List.mem_of_getElem? (i := 1311) (by decide +kernel), List.mem_of_getElem? (i := 1312) (by decide +kernel)⟩
theorem lw_p53 : lw_okq (⟨"SteamTunesModel", "moved", "(II)I"⟩, 55) := ⟨⟨by decide +kernel, by decide +kernel⟩, List.mem_of_getElem? (i := 936) (by decide +kernel), List.mem_of_getElem? (i := 1315) (by decide +kernel), List.mem_of_getElem? (i := 1316) (by decide +kernel)⟩
theorem lw_p54 : lw_okq (⟨"SteamTunesModel", "fills", "(IIII)V"⟩, 55) := ⟨⟨by decide +kernel, by decide +kernel⟩, List.mem_of_getElem? (i := 936) (by decide +kernel), List.mem_of_getElem? (i := 1333) (by decide +kernel), List.mem_of_getElem? (i := 1334) (by decide +kernel)⟩
theorem lw_p55 : lw_okq (⟨"SteamTunesModel", "prepares", "(I)V"⟩, 55) := ⟨⟨by decide +kernel, by decide +kernel⟩, List.mem_of_getElem? (i := 936) (by decide +kernel), List.mem_of_getElem? (i := 1337) (by decide +kernel), List.mem_of_getElem? (i := 1338) (by decide +kernel)⟩
theorem lw_p56 : lw_okq (⟨"SteamTunesModel", "meets", "(III)V"⟩, 55) := ⟨⟨by decide +kernel, by decide +kernel⟩, List.mem_of_getElem? (i := 936) (by decide +kernel), List.mem_of_getElem? (i := 1341) (by decide +kernel), List.mem_of_getElem? (i := 1342) (by decide +kernel)⟩
theorem lw_p57 : lw_okq (⟨"SteamTunesModel", "spot", "(III)I"⟩, 55) := ⟨⟨by decide +kernel, by decide +kernel⟩, List.mem_of_getElem? (i := 936) (by decide +kernel), List.mem_of_getElem? (i := 1345) (by decide +kernel), List.mem_of_getElem? (i := 1346) (by decide +kernel)⟩
theorem lw_p58 : lw_okq (⟨"SteamTunesModel", "then", "(II)I"⟩, 55) := ⟨⟨by decide +kernel, by decide +kernel⟩, List.mem_of_getElem? (i := 936) (by decide +kernel), List.mem_of_getElem? (i := 1349) (by decide +kernel), List.mem_of_getElem? (i := 1350) (by decide +kernel)⟩
theorem lw_p59 : lw_okq (⟨"SteamTunesModel", "bestSound", "(IIII)I"⟩, 55) := ⟨⟨by decide +kernel, by decide +kernel⟩, List.mem_of_getElem? (i := 936) (by decide +kernel), List.mem_of_getElem? (i := 1353) (by decide +kernel), List.mem_of_getElem? (i := 1354) (by decide +kernel)⟩
theorem lw_p60 : lw_okq (⟨"SteamTunesModel", "explains", "(IIIIII)I"⟩, 55) := ⟨⟨by decide +kernel, by decide +kernel⟩, List.mem_of_getElem? (i := 936) (by decide +kernel), List.mem_of_getElem? (i := 1365) (by decide +kernel), List.mem_of_getElem? (i := 1366) (by decide +kernel)⟩
theorem lw_p61 : lw_okq (⟨"SteamTunesModel", "drawnWith", "(II)I"⟩, 55) := ⟨⟨by decide +kernel, by decide +kernel⟩, List.mem_of_getElem? (i := 936) (by decide +kernel), List.mem_of_getElem? (i := 1372) (by decide +kernel), List.mem_of_getElem? (i := 1373) (by decide +kernel)⟩
theorem lw_p62 : lw_okq (⟨"SteamTunesModel", "farOf", "(II)I"⟩, 55) := ⟨⟨by decide +kernel, by decide +kernel⟩, List.mem_of_getElem? (i := 936) (by decide +kernel), List.mem_of_getElem? (i := 1394) (by decide +kernel), List.mem_of_getElem? (i := 1395) (by decide +kernel)⟩
theorem lw_p63 : lw_okq (⟨"SteamTunesModel", "heardAt", "(II)I"⟩, 55) := ⟨⟨by decide +kernel, by decide +kernel⟩, List.mem_of_getElem? (i := 936) (by decide +kernel), List.mem_of_getElem? (i := 1402) (by decide +kernel), List.mem_of_getElem? (i := 1403) (by decide +kernel)⟩
def lw_privs_4 : List (MethodName × Nat) := [(⟨"SteamTunesModel", "chordAt", "(II)I"⟩, 55), (⟨"SteamTunesModel", "allOf", "(I)I"⟩, 55), (⟨"SteamTunesModel", "isIn", "(II)Z"⟩, 55), (⟨"SteamTunesModel", "tried", "(II)I"⟩, 55), (⟨"SteamTunesModel", "goesAll", "(II)I"⟩, 55), (⟨"SteamTunesModel", "moved", "(II)I"⟩, 55), (⟨"SteamTunesModel", "fills", "(IIII)V"⟩, 55), (⟨"SteamTunesModel", "prepares", "(I)V"⟩, 55), (⟨"SteamTunesModel", "meets", "(III)V"⟩, 55), (⟨"SteamTunesModel", "spot", "(III)I"⟩, 55), (⟨"SteamTunesModel", "then", "(II)I"⟩, 55), (⟨"SteamTunesModel", "bestSound", "(IIII)I"⟩, 55), (⟨"SteamTunesModel", "explains", "(IIIIII)I"⟩, 55), (⟨"SteamTunesModel", "drawnWith", "(II)I"⟩, 55), (⟨"SteamTunesModel", "farOf", "(II)I"⟩, 55), (⟨"SteamTunesModel", "heardAt", "(II)I"⟩, 55)]
theorem lw_r4 : ∀ q ∈ lw_privs_4, lw_okq q := List.forall_mem_cons.mpr ⟨lw_p48, List.forall_mem_cons.mpr ⟨lw_p49, List.forall_mem_cons.mpr ⟨lw_p50, List.forall_mem_cons.mpr ⟨lw_p51, List.forall_mem_cons.mpr ⟨lw_p52, List.forall_mem_cons.mpr ⟨lw_p53, List.forall_mem_cons.mpr ⟨lw_p54, List.forall_mem_cons.mpr ⟨lw_p55, List.forall_mem_cons.mpr ⟨lw_p56, List.forall_mem_cons.mpr ⟨lw_p57, List.forall_mem_cons.mpr ⟨lw_p58, List.forall_mem_cons.mpr ⟨lw_p59, List.forall_mem_cons.mpr ⟨lw_p60, List.forall_mem_cons.mpr ⟨lw_p61, List.forall_mem_cons.mpr ⟨lw_p62, List.forall_mem_cons.mpr ⟨lw_p63, fun _ h => absurd h List.not_mem_nil⟩⟩⟩⟩⟩⟩⟩⟩⟩⟩⟩⟩⟩⟩⟩⟩
def lw_privs : List (MethodName × Nat) := lw_privs_1 ++ (lw_privs_2 ++ (lw_privs_3 ++ (lw_privs_4)))
def lw_tbl : List Cond := k2_sels lw_privs ++ tables_1
theorem lw_privs_ok : ∀ q ∈ lw_privs, lw_okq q := by
  show ∀ q ∈ lw_privs_1 ++ (lw_privs_2 ++ (lw_privs_3 ++ (lw_privs_4))), lw_okq q
  exact List.forall_mem_append.mpr ⟨lw_r1, List.forall_mem_append.mpr ⟨lw_r2, List.forall_mem_append.mpr ⟨lw_r3, lw_r4⟩⟩⟩
-- ===== end of PART A; then your names; then what follows =====
def RX0 : String := "SteamTunes$Acts"
def TX0 : u_T := fun k => match k with
  | 0 => ("SteamTunes$Acts", "rows", "[[I", true)
  | 1 => ("SteamTunes$Acts", "next", "I", false)
  | 2 => ("SteamTunes$Acts", "held", "I", false)
  | _ => ("SteamTunes$Acts", "changes", "I", false)
def tyX0 : Nat → FieldType := fun k => match k with
  | 0 => .array (.array .int)
  | 1 => .int
  | 2 => .int
  | _ => .int
abbrev wsX00 : List Cond := u_ws RX0 TX0 4
theorem nmX0 : ∀ a, a < 4 → ∀ b, b < 4 → a ≠ b → (TX0 a).2.1 ≠ (TX0 b).2.1 := by decide +kernel
theorem tyX0_ok : ∀ k, k < 4 → parseFieldDescriptor (TX0 k).2.2.1 = some (tyX0 k) := by decide +kernel
abbrev cX0_init : ByteArray := prog_2_method_1_code
def yX0_init : MethodName := ⟨RX0, "<init>", "()V"⟩
abbrev cX0_keep : ByteArray := prog_2_method_2_code
def yX0_keep : MethodName := ⟨RX0, "keep", "(LSteamTunes$Boiler;LSteamTunes$Whistles;)V"⟩
abbrev cX0_restore : ByteArray := prog_2_method_3_code
def yX0_restore : MethodName := ⟨RX0, "restore", "(LSteamTunes$Boiler;LSteamTunes$Whistles;)Z"⟩
def RX1 : String := "SteamTunes$Boiler"
def TX1 : u_T := fun k => match k with
  | 0 => ("SteamTunes$Boiler", "pressure", "I", false)
  | 1 => ("SteamTunes$Boiler", "water", "I", false)
  | 2 => ("SteamTunes$Boiler", "fire", "I", false)
  | 3 => ("SteamTunes$Boiler", "valve", "I", false)
  | _ => ("SteamTunes$Boiler", "blows", "I", false)
def tyX1 : Nat → FieldType := fun k => match k with
  | 0 => .int
  | 1 => .int
  | 2 => .int
  | 3 => .int
  | _ => .int
abbrev wsX10 : List Cond := u_ws RX1 TX1 5
theorem nmX1 : ∀ a, a < 5 → ∀ b, b < 5 → a ≠ b → (TX1 a).2.1 ≠ (TX1 b).2.1 := by decide +kernel
theorem tyX1_ok : ∀ k, k < 5 → parseFieldDescriptor (TX1 k).2.2.1 = some (tyX1 k) := by decide +kernel
abbrev cX1_init : ByteArray := prog_3_method_1_code
def yX1_init : MethodName := ⟨RX1, "<init>", "()V"⟩
abbrev cX1_copyFrom : ByteArray := prog_3_method_2_code
def yX1_copyFrom : MethodName := ⟨RX1, "copyFrom", "(LSteamTunes$Boiler;)V"⟩
abbrev cX1_pass : ByteArray := prog_3_method_3_code
def yX1_pass : MethodName := ⟨RX1, "pass", "(I)V"⟩
abbrev cX1_after : ByteArray := prog_3_method_4_code
def yX1_after : MethodName := ⟨RX1, "after", "(II)I"⟩
def RX2 : String := "SteamTunes$Reader"
def TX2 : u_T := fun k => match k with
  | 0 => ("SteamTunes$Reader", "tape", "[B", true)
  | 1 => ("SteamTunes$Reader", "length", "I", false)
  | 2 => ("SteamTunes$Reader", "at", "I", false)
  | 3 => ("SteamTunes$Reader", "kind", "I", false)
  | 4 => ("SteamTunes$Reader", "place", "I", false)
  | 5 => ("SteamTunes$Reader", "value", "I", false)
  | 6 => ("SteamTunes$Reader", "spoiledAt", "I", false)
  | 7 => ("SteamTunes$Reader", "fault", "I", false)
  | 8 => ("SteamTunes$Reader", "faultPlace", "I", false)
  | 9 => ("SteamTunes$Reader", "row", "[I", true)
  | 10 => ("SteamTunes$Reader", "beats", "I", false)
  | 11 => ("SteamTunes$Reader", "begins", "[I", true)
  | 12 => ("SteamTunes$Reader", "rounds", "[I", true)
  | _ => ("SteamTunes$Reader", "depth", "I", false)
def tyX2 : Nat → FieldType := fun k => match k with
  | 0 => .array .byte
  | 1 => .int
  | 2 => .int
  | 3 => .int
  | 4 => .int
  | 5 => .int
  | 6 => .int
  | 7 => .int
  | 8 => .int
  | 9 => .array .int
  | 10 => .int
  | 11 => .array .int
  | 12 => .array .int
  | _ => .int
abbrev wsX20 : List Cond := u_ws RX2 TX2 14
theorem nmX2 : ∀ a, a < 14 → ∀ b, b < 14 → a ≠ b → (TX2 a).2.1 ≠ (TX2 b).2.1 := by decide +kernel
theorem tyX2_ok : ∀ k, k < 14 → parseFieldDescriptor (TX2 k).2.2.1 = some (tyX2 k) := by decide +kernel
abbrev cX2_init : ByteArray := prog_4_method_1_code
def yX2_init : MethodName := ⟨RX2, "<init>", "()V"⟩
abbrev cX2_append : ByteArray := prog_4_method_2_code
def yX2_append : MethodName := ⟨RX2, "append", "(J)Z"⟩
abbrev cX2_readAll : ByteArray := prog_4_method_3_code
def yX2_readAll : MethodName := ⟨RX2, "readAll", "()V"⟩
abbrev cX2_readToken : ByteArray := prog_4_method_4_code
def yX2_readToken : MethodName := ⟨RX2, "readToken", "()V"⟩
abbrev cX2_isLetter : ByteArray := prog_4_method_5_code
def yX2_isLetter : MethodName := ⟨RX2, "isLetter", "(I)Z"⟩
abbrev cX2_isFigure : ByteArray := prog_4_method_6_code
def yX2_isFigure : MethodName := ⟨RX2, "isFigure", "(I)Z"⟩
abbrev cX2_readChord : ByteArray := prog_4_method_7_code
def yX2_readChord : MethodName := ⟨RX2, "readChord", "()V"⟩
abbrev cX2_readNumber : ByteArray := prog_4_method_8_code
def yX2_readNumber : MethodName := ⟨RX2, "readNumber", "()V"⟩
abbrev cX2_readSign : ByteArray := prog_4_method_9_code
def yX2_readSign : MethodName := ⟨RX2, "readSign", "()V"⟩
abbrev cX2_take : ByteArray := prog_4_method_10_code
def yX2_take : MethodName := ⟨RX2, "take", "(I)I"⟩
abbrev cX2_takeChord : ByteArray := prog_4_method_11_code
def yX2_takeChord : MethodName := ⟨RX2, "takeChord", "()I"⟩
abbrev cX2_addBeat : ByteArray := prog_4_method_12_code
def yX2_addBeat : MethodName := ⟨RX2, "addBeat", "(I)I"⟩
abbrev cX2_takeNumber : ByteArray := prog_4_method_13_code
def yX2_takeNumber : MethodName := ⟨RX2, "takeNumber", "()I"⟩
abbrev cX2_takeOpen : ByteArray := prog_4_method_14_code
def yX2_takeOpen : MethodName := ⟨RX2, "takeOpen", "()I"⟩
abbrev cX2_takeClose : ByteArray := prog_4_method_15_code
def yX2_takeClose : MethodName := ⟨RX2, "takeClose", "()I"⟩
abbrev cX2_takeEnd : ByteArray := prog_4_method_16_code
def yX2_takeEnd : MethodName := ⟨RX2, "takeEnd", "()I"⟩
abbrev cX2_misplaced : ByteArray := prog_4_method_17_code
def yX2_misplaced : MethodName := ⟨RX2, "misplaced", "()I"⟩
abbrev cX2_fail : ByteArray := prog_4_method_18_code
def yX2_fail : MethodName := ⟨RX2, "fail", "(II)V"⟩
def RX3 : String := "SteamTunes$River"
def TX3 : u_T := fun k => match k with
  | 0 => ("SteamTunes$River", "boatPlace", "[I", true)
  | 1 => ("SteamTunes$River", "boatLag", "[I", true)
  | 2 => ("SteamTunes$River", "boats", "I", false)
  | 3 => ("SteamTunes$River", "bendPlace", "[I", true)
  | 4 => ("SteamTunes$River", "bendLength", "[I", true)
  | 5 => ("SteamTunes$River", "bends", "I", false)
  | 6 => ("SteamTunes$River", "speed", "I", false)
  | 7 => ("SteamTunes$River", "inStep", "I", false)
  | 8 => ("SteamTunes$River", "firstPlace", "I", false)
  | 9 => ("SteamTunes$River", "lastPlace", "I", false)
  | _ => ("SteamTunes$River", "longest", "I", false)
def tyX3 : Nat → FieldType := fun k => match k with
  | 0 => .array .int
  | 1 => .array .int
  | 2 => .int
  | 3 => .array .int
  | 4 => .array .int
  | 5 => .int
  | 6 => .int
  | 7 => .int
  | 8 => .int
  | 9 => .int
  | _ => .int
abbrev wsX30 : List Cond := u_ws RX3 TX3 11
theorem nmX3 : ∀ a, a < 11 → ∀ b, b < 11 → a ≠ b → (TX3 a).2.1 ≠ (TX3 b).2.1 := by decide +kernel
theorem tyX3_ok : ∀ k, k < 11 → parseFieldDescriptor (TX3 k).2.2.1 = some (tyX3 k) := by decide +kernel
abbrev cX3_init : ByteArray := prog_5_method_1_code
def yX3_init : MethodName := ⟨RX3, "<init>", "()V"⟩
abbrev cX3_hasBoat : ByteArray := prog_5_method_2_code
def yX3_hasBoat : MethodName := ⟨RX3, "hasBoat", "(I)Z"⟩
abbrev cX3_addBoat : ByteArray := prog_5_method_3_code
def yX3_addBoat : MethodName := ⟨RX3, "addBoat", "(II)I"⟩
abbrev cX3_bendsAt : ByteArray := prog_5_method_4_code
def yX3_bendsAt : MethodName := ⟨RX3, "bendsAt", "(I)Z"⟩
abbrev cX3_addBend : ByteArray := prog_5_method_5_code
def yX3_addBend : MethodName := ⟨RX3, "addBend", "(II)I"⟩
abbrev cX3_way : ByteArray := prog_5_method_6_code
def yX3_way : MethodName := ⟨RX3, "way", "(II)I"⟩
abbrev cX3_firstHeard : ByteArray := prog_5_method_7_code
def yX3_firstHeard : MethodName := ⟨RX3, "firstHeard", "(II)I"⟩
abbrev cX3_walk : ByteArray := prog_5_method_8_code
def yX3_walk : MethodName := ⟨RX3, "walk", "(II)V"⟩
def RX4 : String := "SteamTunes$Setting"
def TX4 : u_T := fun k => match k with
  | 0 => ("SteamTunes$Setting", "table", "[I", false)
  | 1 => ("SteamTunes$Setting", "near", "[I", true)
  | 2 => ("SteamTunes$Setting", "row", "[I", true)
  | 3 => ("SteamTunes$Setting", "beats", "I", false)
  | 4 => ("SteamTunes$Setting", "levels", "I", false)
  | 5 => ("SteamTunes$Setting", "option", "[I", true)
  | 6 => ("SteamTunes$Setting", "drawn", "[I", true)
  | 7 => ("SteamTunes$Setting", "options", "I", false)
  | 8 => ("SteamTunes$Setting", "idle", "I", false)
  | 9 => ("SteamTunes$Setting", "sounds", "[I", true)
  | 10 => ("SteamTunes$Setting", "ahead", "[I", true)
  | 11 => ("SteamTunes$Setting", "total", "I", false)
  | 12 => ("SteamTunes$Setting", "rested", "I", false)
  | 13 => ("SteamTunes$Setting", "behind", "I", false)
  | 14 => ("SteamTunes$Setting", "asked", "[I", true)
  | _ => ("SteamTunes$Setting", "isSolved", "Z", false)
def tyX4 : Nat → FieldType := fun k => match k with
  | 0 => .array .int
  | 1 => .array .int
  | 2 => .array .int
  | 3 => .int
  | 4 => .int
  | 5 => .array .int
  | 6 => .array .int
  | 7 => .int
  | 8 => .int
  | 9 => .array .int
  | 10 => .array .int
  | 11 => .int
  | 12 => .int
  | 13 => .int
  | 14 => .array .int
  | _ => .boolean
abbrev wsX40 : List Cond := u_ws RX4 TX4 16
theorem nmX4 : ∀ a, a < 16 → ∀ b, b < 16 → a ≠ b → (TX4 a).2.1 ≠ (TX4 b).2.1 := by decide +kernel
theorem tyX4_ok : ∀ k, k < 16 → parseFieldDescriptor (TX4 k).2.2.1 = some (tyX4 k) := by decide +kernel
abbrev cX4_init : ByteArray := prog_6_method_1_code
def yX4_init : MethodName := ⟨RX4, "<init>", "()V"⟩
abbrev cX4_isFor : ByteArray := prog_6_method_2_code
def yX4_isFor : MethodName := ⟨RX4, "isFor", "(IIIII)Z"⟩
abbrev cX4_remember : ByteArray := prog_6_method_3_code
def yX4_remember : MethodName := ⟨RX4, "remember", "(IIIII)V"⟩
abbrev cX4_takeTune : ByteArray := prog_6_method_4_code
def yX4_takeTune : MethodName := ⟨RX4, "takeTune", "(LSteamTunes$Tunes;II)V"⟩
abbrev cX4_answer : ByteArray := prog_6_method_5_code
def yX4_answer : MethodName := ⟨RX4, "answer", "(I)I"⟩
abbrev cX4_solve : ByteArray := prog_6_method_6_code
def yX4_solve : MethodName := ⟨RX4, "solve", "(LSteamTunes$Boiler;LSteamTunes$Whistles;II)V"⟩
abbrev cX4_cell : ByteArray := prog_6_method_7_code
def yX4_cell : MethodName := ⟨RX4, "cell", "(II)I"⟩
abbrev cX4_markNear : ByteArray := prog_6_method_8_code
def yX4_markNear : MethodName := ⟨RX4, "markNear", "(LSteamTunes$Whistles;I)V"⟩
abbrev cX4_listOptions : ByteArray := prog_6_method_9_code
def yX4_listOptions : MethodName := ⟨RX4, "listOptions", "(LSteamTunes$Whistles;I)V"⟩
abbrev cX4_isOpen : ByteArray := prog_6_method_10_code
def yX4_isOpen : MethodName := ⟨RX4, "isOpen", "(II)Z"⟩
abbrev cX4_fillSounding : ByteArray := prog_6_method_11_code
def yX4_fillSounding : MethodName := ⟨RX4, "fillSounding", "(LSteamTunes$Boiler;I)V"⟩
abbrev cX4_raise : ByteArray := prog_6_method_12_code
def yX4_raise : MethodName := ⟨RX4, "raise", "(III)V"⟩
abbrev cX4_fillResting : ByteArray := prog_6_method_13_code
def yX4_fillResting : MethodName := ⟨RX4, "fillResting", "(LSteamTunes$Boiler;I)V"⟩
abbrev cX4_follow : ByteArray := prog_6_method_14_code
def yX4_follow : MethodName := ⟨RX4, "follow", "(LSteamTunes$Boiler;LSteamTunes$Whistles;I)V"⟩
abbrev cX4_bestOption : ByteArray := prog_6_method_15_code
def yX4_bestOption : MethodName := ⟨RX4, "bestOption", "(LSteamTunes$Boiler;III)I"⟩
abbrev cX4_worthOf : ByteArray := prog_6_method_16_code
def yX4_worthOf : MethodName := ⟨RX4, "worthOf", "(LSteamTunes$Boiler;IIII)I"⟩
def RX5 : String := "SteamTunes$Sheets"
def TX5 : u_T := fun k => match k with
  | 0 => ("SteamTunes$Sheets", "cells", "[[I", true)
  | 1 => ("SteamTunes$Sheets", "laneOf", "[I", true)
  | _ => ("SteamTunes$Sheets", "size", "[I", true)
def tyX5 : Nat → FieldType := fun k => match k with
  | 0 => .array (.array .int)
  | 1 => .array .int
  | _ => .array .int
abbrev wsX50 : List Cond := u_ws RX5 TX5 3
theorem nmX5 : ∀ a, a < 3 → ∀ b, b < 3 → a ≠ b → (TX5 a).2.1 ≠ (TX5 b).2.1 := by decide +kernel
theorem tyX5_ok : ∀ k, k < 3 → parseFieldDescriptor (TX5 k).2.2.1 = some (tyX5 k) := by decide +kernel
abbrev cX5_init : ByteArray := prog_7_method_1_code
def yX5_init : MethodName := ⟨RX5, "<init>", "()V"⟩
abbrev cX5_has : ByteArray := prog_7_method_2_code
def yX5_has : MethodName := ⟨RX5, "has", "(I)Z"⟩
abbrev cX5_isLane : ByteArray := prog_7_method_3_code
def yX5_isLane : MethodName := ⟨RX5, "isLane", "(I)Z"⟩
abbrev cX5_isNothing : ByteArray := prog_7_method_4_code
def yX5_isNothing : MethodName := ⟨RX5, "isNothing", "(I)Z"⟩
abbrev cX5_hasCell : ByteArray := prog_7_method_5_code
def yX5_hasCell : MethodName := ⟨RX5, "hasCell", "(II)Z"⟩
abbrev cX5_faultAs : ByteArray := prog_7_method_6_code
def yX5_faultAs : MethodName := ⟨RX5, "faultAs", "(II)I"⟩
abbrev cX5_renew : ByteArray := prog_7_method_7_code
def yX5_renew : MethodName := ⟨RX5, "renew", "(III)V"⟩
abbrev cX5_put : ByteArray := prog_7_method_8_code
def yX5_put : MethodName := ⟨RX5, "put", "(III)V"⟩
def RX6 : String := "SteamTunes$Suspects"
def TX6 : u_T := fun k => match k with
  | 0 => ("SteamTunes$Suspects", "row", "[I", true)
  | 1 => ("SteamTunes$Suspects", "cells", "[I", true)
  | 2 => ("SteamTunes$Suspects", "beats", "I", false)
  | 3 => ("SteamTunes$Suspects", "tried", "[I", true)
  | 4 => ("SteamTunes$Suspects", "known", "I", false)
  | 5 => ("SteamTunes$Suspects", "cracks", "[I", true)
  | 6 => ("SteamTunes$Suspects", "many", "I", false)
  | _ => ("SteamTunes$Suspects", "leaking", "I", false)
def tyX6 : Nat → FieldType := fun k => match k with
  | 0 => .array .int
  | 1 => .array .int
  | 2 => .int
  | 3 => .array .int
  | 4 => .int
  | 5 => .array .int
  | 6 => .int
  | _ => .int
abbrev wsX60 : List Cond := u_ws RX6 TX6 8
theorem nmX6 : ∀ a, a < 8 → ∀ b, b < 8 → a ≠ b → (TX6 a).2.1 ≠ (TX6 b).2.1 := by decide +kernel
theorem tyX6_ok : ∀ k, k < 8 → parseFieldDescriptor (TX6 k).2.2.1 = some (tyX6 k) := by decide +kernel
abbrev cX6_init : ByteArray := prog_8_method_1_code
def yX6_init : MethodName := ⟨RX6, "<init>", "()V"⟩
abbrev cX6_forget : ByteArray := prog_8_method_2_code
def yX6_forget : MethodName := ⟨RX6, "forget", "()V"⟩
abbrev cX6_addBeat : ByteArray := prog_8_method_3_code
def yX6_addBeat : MethodName := ⟨RX6, "addBeat", "(II)V"⟩
abbrev cX6_find : ByteArray := prog_8_method_4_code
def yX6_find : MethodName := ⟨RX6, "find", "(LSteamTunes$Boiler;LSteamTunes$Whistles;I)Z"⟩
abbrev cX6_explains : ByteArray := prog_8_method_5_code
def yX6_explains : MethodName := ⟨RX6, "explains", "(LSteamTunes$Boiler;LSteamTunes$Whistles;II)Z"⟩
abbrev cX6_agrees : ByteArray := prog_8_method_6_code
def yX6_agrees : MethodName := ⟨RX6, "agrees", "(LSteamTunes$Whistles;III)Z"⟩
abbrev cX6_triedCracks : ByteArray := prog_8_method_7_code
def yX6_triedCracks : MethodName := ⟨RX6, "triedCracks", "()I"⟩
abbrev cX6_answer : ByteArray := prog_8_method_8_code
def yX6_answer : MethodName := ⟨RX6, "answer", "(I)I"⟩
abbrev cX6_crackedBits : ByteArray := prog_8_method_9_code
def yX6_crackedBits : MethodName := ⟨RX6, "crackedBits", "()I"⟩
def RX7 : String := "SteamTunes$Tunes"
def TX7 : u_T := fun k => match k with
  | 0 => ("SteamTunes$Tunes", "rows", "[[I", true)
  | 1 => ("SteamTunes$Tunes", "beats", "[I", true)
  | _ => ("SteamTunes$Tunes", "number", "I", false)
def tyX7 : Nat → FieldType := fun k => match k with
  | 0 => .array (.array .int)
  | 1 => .array .int
  | _ => .int
abbrev wsX70 : List Cond := u_ws RX7 TX7 3
theorem nmX7 : ∀ a, a < 3 → ∀ b, b < 3 → a ≠ b → (TX7 a).2.1 ≠ (TX7 b).2.1 := by decide +kernel
theorem tyX7_ok : ∀ k, k < 3 → parseFieldDescriptor (TX7 k).2.2.1 = some (tyX7 k) := by decide +kernel
abbrev cX7_init : ByteArray := prog_9_method_1_code
def yX7_init : MethodName := ⟨RX7, "<init>", "()V"⟩
abbrev cX7_add : ByteArray := prog_9_method_2_code
def yX7_add : MethodName := ⟨RX7, "add", "([II)I"⟩
abbrev cX7_has : ByteArray := prog_9_method_3_code
def yX7_has : MethodName := ⟨RX7, "has", "(I)Z"⟩
abbrev cX7_sounding : ByteArray := prog_9_method_4_code
def yX7_sounding : MethodName := ⟨RX7, "sounding", "(I)I"⟩
abbrev cX7_whistlesOf : ByteArray := prog_9_method_5_code
def yX7_whistlesOf : MethodName := ⟨RX7, "whistlesOf", "(I)I"⟩
abbrev cX7_goes : ByteArray := prog_9_method_6_code
def yX7_goes : MethodName := ⟨RX7, "goes", "(III)Z"⟩
abbrev cX7_chordIn : ByteArray := prog_9_method_7_code
def yX7_chordIn : MethodName := ⟨RX7, "chordIn", "(III)I"⟩
def RX8 : String := "SteamTunes$Whistles"
def TX8 : u_T := fun k => match k with
  | 0 => ("SteamTunes$Whistles", "note", "[I", true)
  | 1 => ("SteamTunes$Whistles", "draw", "[I", true)
  | 2 => ("SteamTunes$Whistles", "slope", "[I", true)
  | 3 => ("SteamTunes$Whistles", "stuck", "[Z", true)
  | 4 => ("SteamTunes$Whistles", "stem", "[I", true)
  | 5 => ("SteamTunes$Whistles", "crack", "[I", true)
  | 6 => ("SteamTunes$Whistles", "leaks", "I", false)
  | _ => ("SteamTunes$Whistles", "number", "I", false)
def tyX8 : Nat → FieldType := fun k => match k with
  | 0 => .array .int
  | 1 => .array .int
  | 2 => .array .int
  | 3 => .array .boolean
  | 4 => .array .int
  | 5 => .array .int
  | 6 => .int
  | _ => .int
abbrev wsX80 : List Cond := u_ws RX8 TX8 8
theorem nmX8 : ∀ a, a < 8 → ∀ b, b < 8 → a ≠ b → (TX8 a).2.1 ≠ (TX8 b).2.1 := by decide +kernel
theorem tyX8_ok : ∀ k, k < 8 → parseFieldDescriptor (TX8 k).2.2.1 = some (tyX8 k) := by decide +kernel
abbrev cX8_init : ByteArray := prog_10_method_1_code
def yX8_init : MethodName := ⟨RX8, "<init>", "()V"⟩
abbrev cX8_add : ByteArray := prog_10_method_2_code
def yX8_add : MethodName := ⟨RX8, "add", "(IIIZ)I"⟩
abbrev cX8_has : ByteArray := prog_10_method_3_code
def yX8_has : MethodName := ⟨RX8, "has", "(I)Z"⟩
abbrev cX8_all : ByteArray := prog_10_method_4_code
def yX8_all : MethodName := ⟨RX8, "all", "()I"⟩
abbrev cX8_hasAll : ByteArray := prog_10_method_5_code
def yX8_hasAll : MethodName := ⟨RX8, "hasAll", "(I)Z"⟩
abbrev cX8_bentAt : ByteArray := prog_10_method_6_code
def yX8_bentAt : MethodName := ⟨RX8, "bentAt", "(II)I"⟩
abbrev cX8_offAt : ByteArray := prog_10_method_7_code
def yX8_offAt : MethodName := ⟨RX8, "offAt", "(II)I"⟩
abbrev cX8_isNear : ByteArray := prog_10_method_8_code
def yX8_isNear : MethodName := ⟨RX8, "isNear", "(III)Z"⟩
abbrev cX8_strayOf : ByteArray := prog_10_method_9_code
def yX8_strayOf : MethodName := ⟨RX8, "strayOf", "(II)I"⟩
abbrev cX8_drawnBy : ByteArray := prog_10_method_10_code
def yX8_drawnBy : MethodName := ⟨RX8, "drawnBy", "(II)I"⟩
abbrev cX8_bringNear : ByteArray := prog_10_method_11_code
def yX8_bringNear : MethodName := ⟨RX8, "bringNear", "(I)V"⟩
abbrev cX8_exactAt : ByteArray := prog_10_method_12_code
def yX8_exactAt : MethodName := ⟨RX8, "exactAt", "(I)I"⟩
abbrev cX8_cracked : ByteArray := prog_10_method_13_code
def yX8_cracked : MethodName := ⟨RX8, "cracked", "()I"⟩
def RX9 : String := "SteamTunes"
def TX9 : u_T := fun k => match k with
  | 0 => ("SteamTunes", "boiler", "LSteamTunes$Boiler;", true)
  | 1 => ("SteamTunes", "trial", "LSteamTunes$Boiler;", true)
  | 2 => ("SteamTunes", "whistles", "LSteamTunes$Whistles;", true)
  | 3 => ("SteamTunes", "acts", "LSteamTunes$Acts;", true)
  | 4 => ("SteamTunes", "reader", "LSteamTunes$Reader;", true)
  | 5 => ("SteamTunes", "tunes", "LSteamTunes$Tunes;", true)
  | 6 => ("SteamTunes", "setting", "LSteamTunes$Setting;", true)
  | 7 => ("SteamTunes", "suspects", "LSteamTunes$Suspects;", true)
  | 8 => ("SteamTunes", "river", "LSteamTunes$River;", true)
  | _ => ("SteamTunes", "sheets", "LSteamTunes$Sheets;", true)
def tyX9 : Nat → FieldType := fun k => match k with
  | 0 => .object "SteamTunes$Boiler"
  | 1 => .object "SteamTunes$Boiler"
  | 2 => .object "SteamTunes$Whistles"
  | 3 => .object "SteamTunes$Acts"
  | 4 => .object "SteamTunes$Reader"
  | 5 => .object "SteamTunes$Tunes"
  | 6 => .object "SteamTunes$Setting"
  | 7 => .object "SteamTunes$Suspects"
  | 8 => .object "SteamTunes$River"
  | _ => .object "SteamTunes$Sheets"
abbrev wsX90 : List Cond := u_ws RX9 TX9 10
theorem nmX9 : ∀ a, a < 10 → ∀ b, b < 10 → a ≠ b → (TX9 a).2.1 ≠ (TX9 b).2.1 := by decide +kernel
theorem tyX9_ok : ∀ k, k < 10 → parseFieldDescriptor (TX9 k).2.2.1 = some (tyX9 k) := by decide +kernel
abbrev cX9_init : ByteArray := prog_1_method_1_code
def yX9_init : MethodName := ⟨RX9, "<init>", "()V"⟩
abbrev cX9_fire : ByteArray := prog_1_method_2_code
def yX9_fire : MethodName := ⟨RX9, "fire", "(I)I"⟩
abbrev cX9_water : ByteArray := prog_1_method_3_code
def yX9_water : MethodName := ⟨RX9, "water", "(I)I"⟩
abbrev cX9_valve : ByteArray := prog_1_method_4_code
def yX9_valve : MethodName := ⟨RX9, "valve", "(I)I"⟩
abbrev cX9_pressure : ByteArray := prog_1_method_5_code
def yX9_pressure : MethodName := ⟨RX9, "pressure", "(I)I"⟩
abbrev cX9_boiler : ByteArray := prog_1_method_6_code
def yX9_boiler : MethodName := ⟨RX9, "boiler", "(I)I"⟩
abbrev cX9_beat : ByteArray := prog_1_method_7_code
def yX9_beat : MethodName := ⟨RX9, "beat", "(I)I"⟩
abbrev cX9_whistle : ByteArray := prog_1_method_8_code
def yX9_whistle : MethodName := ⟨RX9, "whistle", "(IIIZ)I"⟩
abbrev cX9_told : ByteArray := prog_1_method_9_code
def yX9_told : MethodName := ⟨RX9, "told", "(II)I"⟩
abbrev cX9_stem : ByteArray := prog_1_method_10_code
def yX9_stem : MethodName := ⟨RX9, "stem", "(II)I"⟩
abbrev cX9_crack : ByteArray := prog_1_method_11_code
def yX9_crack : MethodName := ⟨RX9, "crack", "(II)I"⟩
abbrev cX9_leak : ByteArray := prog_1_method_12_code
def yX9_leak : MethodName := ⟨RX9, "leak", "(IZ)I"⟩
abbrev cX9_pitch : ByteArray := prog_1_method_13_code
def yX9_pitch : MethodName := ⟨RX9, "pitch", "(II)I"⟩
abbrev cX9_holds : ByteArray := prog_1_method_14_code
def yX9_holds : MethodName := ⟨RX9, "holds", "(II)I"⟩
abbrev cX9_tuneAll : ByteArray := prog_1_method_15_code
def yX9_tuneAll : MethodName := ⟨RX9, "tuneAll", "(I)I"⟩
abbrev cX9_agree : ByteArray := prog_1_method_16_code
def yX9_agree : MethodName := ⟨RX9, "agree", "(I)I"⟩
abbrev cX9_feed : ByteArray := prog_1_method_17_code
def yX9_feed : MethodName := ⟨RX9, "feed", "(J)I"⟩
abbrev cX9_end : ByteArray := prog_1_method_18_code
def yX9_end : MethodName := ⟨RX9, "end", "(I)I"⟩
abbrev cX9_tune : ByteArray := prog_1_method_19_code
def yX9_tune : MethodName := ⟨RX9, "tune", "()I"⟩
abbrev cX9_fault : ByteArray := prog_1_method_20_code
def yX9_fault : MethodName := ⟨RX9, "fault", "()I"⟩
abbrev cX9_tuneOf : ByteArray := prog_1_method_21_code
def yX9_tuneOf : MethodName := ⟨RX9, "tuneOf", "(II)I"⟩
abbrev cX9_play : ByteArray := prog_1_method_22_code
def yX9_play : MethodName := ⟨RX9, "play", "(II)I"⟩
abbrev cX9_would : ByteArray := prog_1_method_23_code
def yX9_would : MethodName := ⟨RX9, "would", "(II)I"⟩
abbrev cX9_key : ByteArray := prog_1_method_24_code
def yX9_key : MethodName := ⟨RX9, "key", "(II)I"⟩
abbrev cX9_set : ByteArray := prog_1_method_25_code
def yX9_set : MethodName := ⟨RX9, "set", "(IIIII)I"⟩
abbrev cX9_blame : ByteArray := prog_1_method_26_code
def yX9_blame : MethodName := ⟨RX9, "blame", "(IIIIIII)I"⟩
abbrev cX9_boat : ByteArray := prog_1_method_27_code
def yX9_boat : MethodName := ⟨RX9, "boat", "(II)I"⟩
abbrev cX9_bend : ByteArray := prog_1_method_28_code
def yX9_bend : MethodName := ⟨RX9, "bend", "(II)I"⟩
abbrev cX9_speed : ByteArray := prog_1_method_29_code
def yX9_speed : MethodName := ⟨RX9, "speed", "(I)I"⟩
abbrev cX9_far : ByteArray := prog_1_method_30_code
def yX9_far : MethodName := ⟨RX9, "far", "(II)I"⟩
abbrev cX9_heard : ByteArray := prog_1_method_31_code
def yX9_heard : MethodName := ⟨RX9, "heard", "(III)I"⟩
abbrev cX9_step : ByteArray := prog_1_method_32_code
def yX9_step : MethodName := ⟨RX9, "step", "(III)I"⟩
abbrev cX9_undo : ByteArray := prog_1_method_33_code
def yX9_undo : MethodName := ⟨RX9, "undo", "()I"⟩
abbrev cX9_sheet : ByteArray := prog_1_method_34_code
def yX9_sheet : MethodName := ⟨RX9, "sheet", "(III)I"⟩
abbrev cX9_lay : ByteArray := prog_1_method_35_code
def yX9_lay : MethodName := ⟨RX9, "lay", "(III)I"⟩
abbrev cX9_scan : ByteArray := prog_1_method_36_code
def yX9_scan : MethodName := ⟨RX9, "scan", "(IIII)I"⟩
abbrev cX9_count : ByteArray := prog_1_method_37_code
def yX9_count : MethodName := ⟨RX9, "count", "(I)I"⟩
abbrev cX9_tryOut : ByteArray := prog_1_method_38_code
def yX9_tryOut : MethodName := ⟨RX9, "tryOut", "(II)I"⟩
abbrev cX9_takeHeard : ByteArray := prog_1_method_39_code
def yX9_takeHeard : MethodName := ⟨RX9, "takeHeard", "(IIII)I"⟩
abbrev cX9_scanOne : ByteArray := prog_1_method_40_code
def yX9_scanOne : MethodName := ⟨RX9, "scanOne", "(II)I"⟩
abbrev cX9_isBeat : ByteArray := prog_1_method_41_code
def yX9_isBeat : MethodName := ⟨RX9, "isBeat", "(III)Z"⟩
abbrev cX9_isKey : ByteArray := prog_1_method_42_code
def yX9_isKey : MethodName := ⟨RX9, "isKey", "(I)Z"⟩
abbrev cX9_isPlace : ByteArray := prog_1_method_43_code
def yX9_isPlace : MethodName := ⟨RX9, "isPlace", "(I)Z"⟩
abbrev cX9_isWithin : ByteArray := prog_1_method_44_code
def yX9_isWithin : MethodName := ⟨RX9, "isWithin", "(III)Z"⟩
abbrev cX9_leastOf : ByteArray := prog_1_method_45_code
def yX9_leastOf : MethodName := ⟨RX9, "leastOf", "(I)I"⟩
abbrev cX9_greatestOf : ByteArray := prog_1_method_46_code
def yX9_greatestOf : MethodName := ⟨RX9, "greatestOf", "(I)I"⟩
def RX10 : String := "SteamTunesModel"
def TX10 : u_T := fun k => match k with
  | 0 => ("SteamTunesModel", "steam", "I", false)
  | 1 => ("SteamTunesModel", "water", "I", false)
  | 2 => ("SteamTunesModel", "fire", "I", false)
  | 3 => ("SteamTunesModel", "valve", "I", false)
  | 4 => ("SteamTunesModel", "blows", "I", false)
  | 5 => ("SteamTunesModel", "whistles", "I", false)
  | 6 => ("SteamTunesModel", "notes", "[I", true)
  | 7 => ("SteamTunesModel", "draws", "[I", true)
  | 8 => ("SteamTunesModel", "slopes", "[I", true)
  | 9 => ("SteamTunesModel", "isStuck", "[Z", true)
  | 10 => ("SteamTunesModel", "stems", "[I", true)
  | 11 => ("SteamTunesModel", "cracks", "[I", true)
  | 12 => ("SteamTunesModel", "leaks", "[Z", true)
  | 13 => ("SteamTunesModel", "acts", "I", false)
  | 14 => ("SteamTunesModel", "kept", "[I", true)
  | 15 => ("SteamTunesModel", "tape", "[I", true)
  | 16 => ("SteamTunesModel", "taped", "I", false)
  | 17 => ("SteamTunesModel", "pos", "I", false)
  | 18 => ("SteamTunesModel", "from", "I", false)
  | 19 => ("SteamTunesModel", "sort", "I", false)
  | 20 => ("SteamTunesModel", "value", "I", false)
  | 21 => ("SteamTunesModel", "fault", "I", false)
  | 22 => ("SteamTunesModel", "wrongAt", "I", false)
  | 23 => ("SteamTunesModel", "tunes", "I", false)
  | 24 => ("SteamTunesModel", "tMany", "[I", true)
  | 25 => ("SteamTunesModel", "tChords", "[I", true)
  | 26 => ("SteamTunesModel", "read", "[I", true)
  | 27 => ("SteamTunesModel", "readMany", "I", false)
  | 28 => ("SteamTunesModel", "isTooLong", "Z", false)
  | 29 => ("SteamTunesModel", "openAt", "[I", true)
  | 30 => ("SteamTunesModel", "openTimes", "[I", true)
  | 31 => ("SteamTunesModel", "open", "I", false)
  | 32 => ("SteamTunesModel", "table", "[I", true)
  | 33 => ("SteamTunesModel", "setChord", "[I", true)
  | 34 => ("SteamTunesModel", "setRests", "[I", true)
  | 35 => ("SteamTunesModel", "setSound", "I", false)
  | 36 => ("SteamTunesModel", "setSum", "I", false)
  | 37 => ("SteamTunesModel", "setSteam", "I", false)
  | 38 => ("SteamTunesModel", "mayAt", "[I", true)
  | 39 => ("SteamTunesModel", "drawOf", "[I", true)
  | 40 => ("SteamTunesModel", "manyOf", "[I", true)
  | 41 => ("SteamTunesModel", "isMet", "[Z", true)
  | 42 => ("SteamTunesModel", "found", "[I", true)
  | 43 => ("SteamTunesModel", "isFound", "[Z", true)
  | 44 => ("SteamTunesModel", "bestFound", "[I", true)
  | 45 => ("SteamTunesModel", "boats", "I", false)
  | 46 => ("SteamTunesModel", "bPlace", "[I", true)
  | 47 => ("SteamTunesModel", "bLag", "[I", true)
  | 48 => ("SteamTunesModel", "bends", "I", false)
  | 49 => ("SteamTunesModel", "nPlace", "[I", true)
  | 50 => ("SteamTunesModel", "nLength", "[I", true)
  | 51 => ("SteamTunesModel", "speed", "I", false)
  | 52 => ("SteamTunesModel", "lanes", "[I", true)
  | 53 => ("SteamTunesModel", "sizes", "[I", true)
  | _ => ("SteamTunesModel", "cells", "[I", true)
def tyX10 : Nat → FieldType := fun k => match k with
  | 0 => .int
  | 1 => .int
  | 2 => .int
  | 3 => .int
  | 4 => .int
  | 5 => .int
  | 6 => .array .int
  | 7 => .array .int
  | 8 => .array .int
  | 9 => .array .boolean
  | 10 => .array .int
  | 11 => .array .int
  | 12 => .array .boolean
  | 13 => .int
  | 14 => .array .int
  | 15 => .array .int
  | 16 => .int
  | 17 => .int
  | 18 => .int
  | 19 => .int
  | 20 => .int
  | 21 => .int
  | 22 => .int
  | 23 => .int
  | 24 => .array .int
  | 25 => .array .int
  | 26 => .array .int
  | 27 => .int
  | 28 => .boolean
  | 29 => .array .int
  | 30 => .array .int
  | 31 => .int
  | 32 => .array .int
  | 33 => .array .int
  | 34 => .array .int
  | 35 => .int
  | 36 => .int
  | 37 => .int
  | 38 => .array .int
  | 39 => .array .int
  | 40 => .array .int
  | 41 => .array .boolean
  | 42 => .array .int
  | 43 => .array .boolean
  | 44 => .array .int
  | 45 => .int
  | 46 => .array .int
  | 47 => .array .int
  | 48 => .int
  | 49 => .array .int
  | 50 => .array .int
  | 51 => .int
  | 52 => .array .int
  | 53 => .array .int
  | _ => .array .int
abbrev wsX100 : List Cond := u_ws RX10 TX10 55
theorem nmX10 : ∀ a, a < 55 → ∀ b, b < 55 → a ≠ b → (TX10 a).2.1 ≠ (TX10 b).2.1 := by decide +kernel
theorem tyX10_ok : ∀ k, k < 55 → parseFieldDescriptor (TX10 k).2.2.1 = some (tyX10 k) := by decide +kernel
abbrev cX10_init : ByteArray := prog_12_method_1_code
def yX10_init : MethodName := ⟨RX10, "<init>", "()V"⟩
abbrev cX10_in : ByteArray := prog_12_method_3_code
def yX10_in : MethodName := ⟨RX10, "in", "(JJJ)Z"⟩
abbrev cX10_down : ByteArray := prog_12_method_4_code
def yX10_down : MethodName := ⟨RX10, "down", "(II)I"⟩
abbrev cX10_size : ByteArray := prog_12_method_5_code
def yX10_size : MethodName := ⟨RX10, "size", "(I)I"⟩
abbrev cX10_isWhistle : ByteArray := prog_12_method_6_code
def yX10_isWhistle : MethodName := ⟨RX10, "isWhistle", "(I)Z"⟩
abbrev cX10_keeps : ByteArray := prog_12_method_7_code
def yX10_keeps : MethodName := ⟨RX10, "keeps", "()V"⟩
abbrev cX10_undo : ByteArray := prog_12_method_8_code
def yX10_undo : MethodName := ⟨RX10, "undo", "()I"⟩
abbrev cX10_fire : ByteArray := prog_12_method_9_code
def yX10_fire : MethodName := ⟨RX10, "fire", "(I)I"⟩
abbrev cX10_water : ByteArray := prog_12_method_10_code
def yX10_water : MethodName := ⟨RX10, "water", "(I)I"⟩
abbrev cX10_valve : ByteArray := prog_12_method_11_code
def yX10_valve : MethodName := ⟨RX10, "valve", "(I)I"⟩
abbrev cX10_pressure : ByteArray := prog_12_method_12_code
def yX10_pressure : MethodName := ⟨RX10, "pressure", "(I)I"⟩
abbrev cX10_drawn : ByteArray := prog_12_method_13_code
def yX10_drawn : MethodName := ⟨RX10, "drawn", "(I)I"⟩
abbrev cX10_boiler : ByteArray := prog_12_method_14_code
def yX10_boiler : MethodName := ⟨RX10, "boiler", "(I)I"⟩
abbrev cX10_off : ByteArray := prog_12_method_15_code
def yX10_off : MethodName := ⟨RX10, "off", "(II)I"⟩
abbrev cX10_strayOf : ByteArray := prog_12_method_16_code
def yX10_strayOf : MethodName := ⟨RX10, "strayOf", "(II)I"⟩
abbrev cX10_goes : ByteArray := prog_12_method_17_code
def yX10_goes : MethodName := ⟨RX10, "goes", "(I)I"⟩
abbrev cX10_beat : ByteArray := prog_12_method_18_code
def yX10_beat : MethodName := ⟨RX10, "beat", "(I)I"⟩
abbrev cX10_whistle : ByteArray := prog_12_method_19_code
def yX10_whistle : MethodName := ⟨RX10, "whistle", "(IIIZ)I"⟩
abbrev cX10_told : ByteArray := prog_12_method_20_code
def yX10_told : MethodName := ⟨RX10, "told", "(II)I"⟩
abbrev cX10_stem : ByteArray := prog_12_method_21_code
def yX10_stem : MethodName := ⟨RX10, "stem", "(II)I"⟩
abbrev cX10_crack : ByteArray := prog_12_method_22_code
def yX10_crack : MethodName := ⟨RX10, "crack", "(II)I"⟩
abbrev cX10_leak : ByteArray := prog_12_method_23_code
def yX10_leak : MethodName := ⟨RX10, "leak", "(IZ)I"⟩
abbrev cX10_pitch : ByteArray := prog_12_method_24_code
def yX10_pitch : MethodName := ⟨RX10, "pitch", "(II)I"⟩
abbrev cX10_holds : ByteArray := prog_12_method_25_code
def yX10_holds : MethodName := ⟨RX10, "holds", "(II)I"⟩
abbrev cX10_tuneAll : ByteArray := prog_12_method_26_code
def yX10_tuneAll : MethodName := ⟨RX10, "tuneAll", "(I)I"⟩
abbrev cX10_agree : ByteArray := prog_12_method_27_code
def yX10_agree : MethodName := ⟨RX10, "agree", "(I)I"⟩
abbrev cX10_feed : ByteArray := prog_12_method_28_code
def yX10_feed : MethodName := ⟨RX10, "feed", "(J)I"⟩
abbrev cX10_end : ByteArray := prog_12_method_29_code
def yX10_end : MethodName := ⟨RX10, "end", "(I)I"⟩
abbrev cX10_fails : ByteArray := prog_12_method_30_code
def yX10_fails : MethodName := ⟨RX10, "fails", "(II)V"⟩
abbrev cX10_wants : ByteArray := prog_12_method_31_code
def yX10_wants : MethodName := ⟨RX10, "wants", "(ZI)V"⟩
abbrev cX10_look : ByteArray := prog_12_method_32_code
def yX10_look : MethodName := ⟨RX10, "look", "(I)I"⟩
abbrev cX10_bits : ByteArray := prog_12_method_33_code
def yX10_bits : MethodName := ⟨RX10, "bits", "(I)I"⟩
abbrev cX10_readChord : ByteArray := prog_12_method_34_code
def yX10_readChord : MethodName := ⟨RX10, "readChord", "()V"⟩
abbrev cX10_next : ByteArray := prog_12_method_35_code
def yX10_next : MethodName := ⟨RX10, "next", "()V"⟩
abbrev cX10_isSign : ByteArray := prog_12_method_36_code
def yX10_isSign : MethodName := ⟨RX10, "isSign", "(I)Z"⟩
abbrev cX10_beatRead : ByteArray := prog_12_method_37_code
def yX10_beatRead : MethodName := ⟨RX10, "beatRead", "(I)V"⟩
abbrev cX10_closes : ByteArray := prog_12_method_38_code
def yX10_closes : MethodName := ⟨RX10, "closes", "()V"⟩
abbrev cX10_readTune : ByteArray := prog_12_method_39_code
def yX10_readTune : MethodName := ⟨RX10, "readTune", "()V"⟩
abbrev cX10_tune : ByteArray := prog_12_method_40_code
def yX10_tune : MethodName := ⟨RX10, "tune", "()I"⟩
abbrev cX10_fault : ByteArray := prog_12_method_41_code
def yX10_fault : MethodName := ⟨RX10, "fault", "()I"⟩
abbrev cX10_isTune : ByteArray := prog_12_method_42_code
def yX10_isTune : MethodName := ⟨RX10, "isTune", "(I)Z"⟩
abbrev cX10_chordAt : ByteArray := prog_12_method_43_code
def yX10_chordAt : MethodName := ⟨RX10, "chordAt", "(II)I"⟩
abbrev cX10_allOf : ByteArray := prog_12_method_44_code
def yX10_allOf : MethodName := ⟨RX10, "allOf", "(I)I"⟩
abbrev cX10_tuneOf : ByteArray := prog_12_method_45_code
def yX10_tuneOf : MethodName := ⟨RX10, "tuneOf", "(II)I"⟩
abbrev cX10_isIn : ByteArray := prog_12_method_46_code
def yX10_isIn : MethodName := ⟨RX10, "isIn", "(II)Z"⟩
abbrev cX10_moved : ByteArray := prog_12_method_47_code
def yX10_moved : MethodName := ⟨RX10, "moved", "(II)I"⟩
abbrev cX10_goesAll : ByteArray := prog_12_method_48_code
def yX10_goesAll : MethodName := ⟨RX10, "goesAll", "(II)I"⟩
abbrev cX10_tried : ByteArray := prog_12_method_49_code
def yX10_tried : MethodName := ⟨RX10, "tried", "(II)I"⟩
abbrev cX10_play : ByteArray := prog_12_method_50_code
def yX10_play : MethodName := ⟨RX10, "play", "(II)I"⟩
abbrev cX10_would : ByteArray := prog_12_method_51_code
def yX10_would : MethodName := ⟨RX10, "would", "(II)I"⟩
abbrev cX10_key : ByteArray := prog_12_method_52_code
def yX10_key : MethodName := ⟨RX10, "key", "(II)I"⟩
abbrev cX10_spot : ByteArray := prog_12_method_53_code
def yX10_spot : MethodName := ⟨RX10, "spot", "(III)I"⟩
abbrev cX10_then : ByteArray := prog_12_method_54_code
def yX10_then : MethodName := ⟨RX10, "then", "(II)I"⟩
abbrev cX10_prepares : ByteArray := prog_12_method_55_code
def yX10_prepares : MethodName := ⟨RX10, "prepares", "(I)V"⟩
abbrev cX10_meets : ByteArray := prog_12_method_56_code
def yX10_meets : MethodName := ⟨RX10, "meets", "(III)V"⟩
abbrev cX10_bestSound : ByteArray := prog_12_method_57_code
def yX10_bestSound : MethodName := ⟨RX10, "bestSound", "(IIII)I"⟩
abbrev cX10_fills : ByteArray := prog_12_method_58_code
def yX10_fills : MethodName := ⟨RX10, "fills", "(IIII)V"⟩
abbrev cX10_set : ByteArray := prog_12_method_59_code
def yX10_set : MethodName := ⟨RX10, "set", "(IIIII)I"⟩
abbrev cX10_drawnWith : ByteArray := prog_12_method_60_code
def yX10_drawnWith : MethodName := ⟨RX10, "drawnWith", "(II)I"⟩
abbrev cX10_lowest : ByteArray := prog_12_method_61_code
def yX10_lowest : MethodName := ⟨RX10, "lowest", "(I)I"⟩
abbrev cX10_explains : ByteArray := prog_12_method_62_code
def yX10_explains : MethodName := ⟨RX10, "explains", "(IIIIII)I"⟩
abbrev cX10_blame : ByteArray := prog_12_method_63_code
def yX10_blame : MethodName := ⟨RX10, "blame", "(IIIIIII)I"⟩
abbrev cX10_boat : ByteArray := prog_12_method_64_code
def yX10_boat : MethodName := ⟨RX10, "boat", "(II)I"⟩
abbrev cX10_bend : ByteArray := prog_12_method_65_code
def yX10_bend : MethodName := ⟨RX10, "bend", "(II)I"⟩
abbrev cX10_speed : ByteArray := prog_12_method_66_code
def yX10_speed : MethodName := ⟨RX10, "speed", "(I)I"⟩
abbrev cX10_farOf : ByteArray := prog_12_method_67_code
def yX10_farOf : MethodName := ⟨RX10, "farOf", "(II)I"⟩
abbrev cX10_far : ByteArray := prog_12_method_68_code
def yX10_far : MethodName := ⟨RX10, "far", "(II)I"⟩
abbrev cX10_heardAt : ByteArray := prog_12_method_69_code
def yX10_heardAt : MethodName := ⟨RX10, "heardAt", "(II)I"⟩
abbrev cX10_heard : ByteArray := prog_12_method_70_code
def yX10_heard : MethodName := ⟨RX10, "heard", "(III)I"⟩
abbrev cX10_step : ByteArray := prog_12_method_71_code
def yX10_step : MethodName := ⟨RX10, "step", "(III)I"⟩
abbrev cX10_isSheet : ByteArray := prog_12_method_72_code
def yX10_isSheet : MethodName := ⟨RX10, "isSheet", "(II)Z"⟩
abbrev cX10_sheet : ByteArray := prog_12_method_73_code
def yX10_sheet : MethodName := ⟨RX10, "sheet", "(III)I"⟩
abbrev cX10_lay : ByteArray := prog_12_method_74_code
def yX10_lay : MethodName := ⟨RX10, "lay", "(III)I"⟩
abbrev cX10_scan : ByteArray := prog_12_method_75_code
def yX10_scan : MethodName := ⟨RX10, "scan", "(IIII)I"⟩
abbrev cX10_count : ByteArray := prog_12_method_76_code
def yX10_count : MethodName := ⟨RX10, "count", "(I)I"⟩
def RJ6 : String := "java/lang/Integer"
abbrev cJ6_bitCount_0f7a4 : ByteArray := prog_13_method_49_code
def yJ6_bitCount_0f7a4 : MethodName := ⟨RJ6, "bitCount", "(I)I"⟩
def RJ9 : String := "java/lang/Math"
abbrev cJ9_floorDiv_7cf53 : ByteArray := prog_14_method_47_code
def yJ9_floorDiv_7cf53 : MethodName := ⟨RJ9, "floorDiv", "(II)I"⟩
abbrev cJ9_abs_0f7a4 : ByteArray := prog_14_method_59_code
def yJ9_abs_0f7a4 : MethodName := ⟨RJ9, "abs", "(I)I"⟩
abbrev cJ9_max_7cf53 : ByteArray := prog_14_method_65_code
def yJ9_max_7cf53 : MethodName := ⟨RJ9, "max", "(II)I"⟩
abbrev cJ9_min_7cf53 : ByteArray := prog_14_method_69_code
def yJ9_min_7cf53 : MethodName := ⟨RJ9, "min", "(II)I"⟩
def RJ10 : String := "java/lang/System"
def RJ7 : String := "java/util/Arrays"
abbrev cJ7_rangeCheck_23922 : ByteArray := prog_16_method_30_code
def yJ7_rangeCheck_23922 : MethodName := ⟨RJ7, "rangeCheck", "(III)V"⟩
abbrev cJ7_fill_53178 : ByteArray := prog_16_method_103_code
def yJ7_fill_53178 : MethodName := ⟨RJ7, "fill", "([II)V"⟩
abbrev cJ7_fill_fda19 : ByteArray := prog_16_method_104_code
def yJ7_fill_fda19 : MethodName := ⟨RJ7, "fill", "([IIII)V"⟩
def RL : String := "SteamTunesLaw"
abbrev cL_law : ByteArray := code
def yL_law : MethodName := ⟨RL, "law", "([I)Z"⟩
abbrev vwCl : List vw_C := [(RX0, TX0, 4), (RX1, TX1, 5), (RX2, TX2, 14), (RX3, TX3, 11), (RX4, TX4, 16), (RX5, TX5, 3), (RX6, TX6, 8), (RX7, TX7, 3), (RX8, TX8, 8), (RX9, TX9, 10), (RX10, TX10, 55)]
def tyCl : Nat → Nat → FieldType := fun c => match c with
  | 0 => tyX0
  | 1 => tyX1
  | 2 => tyX2
  | 3 => tyX3
  | 4 => tyX4
  | 5 => tyX5
  | 6 => tyX6
  | 7 => tyX7
  | 8 => tyX8
  | 9 => tyX9
  | _ => tyX10
def nest_w : List (String × Nat × MethodName × String) := [("SteamTunes", 9, ⟨"SteamTunes$Boiler", "<init>", "()V"⟩, "SteamTunes"), ("SteamTunes", 21, ⟨"SteamTunes$Whistles", "<init>", "()V"⟩, "SteamTunes"), ("SteamTunes", 28, ⟨"SteamTunes$Acts", "<init>", "()V"⟩, "SteamTunes"), ("SteamTunes", 35, ⟨"SteamTunes$Reader", "<init>", "()V"⟩, "SteamTunes"), ("SteamTunes", 42, ⟨"SteamTunes$Tunes", "<init>", "()V"⟩, "SteamTunes"), ("SteamTunes", 49, ⟨"SteamTunes$Setting", "<init>", "()V"⟩, "SteamTunes"), ("SteamTunes", 56, ⟨"SteamTunes$Suspects", "<init>", "()V"⟩, "SteamTunes"), ("SteamTunes", 63, ⟨"SteamTunes$River", "<init>", "()V"⟩, "SteamTunes"), ("SteamTunes", 70, ⟨"SteamTunes$Sheets", "<init>", "()V"⟩, "SteamTunes"), ("SteamTunes$Whistles", 38, ⟨"SteamTunes", "isWithin", "(III)Z"⟩, "SteamTunes"), ("SteamTunes$Reader", 111, ⟨"SteamTunes", "isWithin", "(III)Z"⟩, "SteamTunes"), ("SteamTunes$Tunes", 39, ⟨"SteamTunes", "leastOf", "(I)I"⟩, "SteamTunes"), ("SteamTunes$Tunes", 42, ⟨"SteamTunes", "greatestOf", "(I)I"⟩, "SteamTunes"), ("SteamTunes$Suspects", 62, ⟨"SteamTunes", "leastOf", "(I)I"⟩, "SteamTunes"), ("SteamTunes$Suspects", 88, ⟨"SteamTunes", "isWithin", "(III)Z"⟩, "SteamTunes")]
end
section
/-! THE ABSTRACT MACHINE: EvQ speaks of a method's frame over an abstract heap (G: shapes and references, h: ints);
    each rule below is one instruction. Abstract address 0 is the script, k > 0 is the k-th cell made since the law began. -/
abbrev Shp : Type := Nat ⊕ (FieldType × Nat)
abbrev Geo : Type := List (Shp × List (Option Nat))
abbrev Hp : Type := Nat → Nat → Int32
abbrev Ent : Type := Instr × Nat × Nat
abbrev Tab : Type := List (Nat × List (Nat × Ent))
/-- name, code, locals, return, frames, locals' words, class, table -/
abbrev MI : Type := MethodName × ByteArray × Nat × Option FieldType × Nat × Nat × Nat × Tab
abbrev mi_C (mi : MI) : ByteArray := mi.2.1
abbrev mi_L (mi : MI) : Nat := mi.2.2.1
abbrev mi_R (mi : MI) : Option FieldType := mi.2.2.2.1
abbrev mi_F (mi : MI) : Nat := mi.2.2.2.2.1
abbrev mi_S (mi : MI) : Nat := mi.2.2.2.2.2.1
abbrev mi_K (mi : MI) : Nat := mi.2.2.2.2.2.2.1
abbrev mi_T (mi : MI) : Tab := mi.2.2.2.2.2.2.2
def ev_l1 : List (Nat × Ent) → Nat → Option Ent
  | [], _ => none
  | q :: r, pc => bif Nat.beq q.1 pc then some q.2 else ev_l1 r pc
def ev_l2 : Tab → Nat → Option Ent
  | [], _ => none
  | c :: r, pc => bif Nat.ble pc c.1 then ev_l1 c.2 pc else ev_l2 r pc
abbrev ev_at (mi : MI) (pc : Nat) : Option Ent := ev_l2 (mi_T mi) pc
def ev_off (pc : Nat) (tg : Nat) : Instr → Bool
  | .goto o => (pc : Int) + o == (tg : Int)
  | .ifCond _ o => (pc : Int) + o == (tg : Int)
  | .if_icmp _ o => (pc : Int) + o == (tg : Int)
  | .ifnull o => (pc : Int) + o == (tg : Int)
  | .ifnonnull o => (pc : Int) + o == (tg : Int)
  | _ => true
def ev_eok (cc : ByteArray) (q : Nat × Ent) : Bool := decide (decode cc q.1 = .ok (q.2.1, q.2.2.1 - q.1)) && Nat.ble q.1 q.2.2.1 && ev_off q.1 q.2.2.2 q.2.1
def ev_ok (mi : MI) : Prop := ∀ pc i nx tg, ev_at mi pc = some (i, nx, tg) → decode (mi_C mi) pc = .ok (i, nx - pc) ∧ pc ≤ nx ∧ ev_off pc tg i = true
theorem ev_l1_in : ∀ (l : List (Nat × Ent)) (pc : Nat) (x : Ent), ev_l1 l pc = some x → (pc, x) ∈ l
  | [], _, _, h => by cases h
  | q :: r, pc, x, h => by
    unfold ev_l1 at h
    cases hq : Nat.beq q.1 pc with
    | true =>
      rw [hq] at h
      have h1 : q.1 = pc := Nat.eq_of_beq_eq_true hq
      have h2 : q.2 = x := Option.some.inj h
      rw [← h1, ← h2]
      exact List.mem_cons_self
    | false =>
      rw [hq] at h
      exact List.mem_cons_of_mem _ (ev_l1_in r pc x h)
theorem ev_l2_in : ∀ (l : Tab) (pc : Nat) (x : Ent), ev_l2 l pc = some x → ∃ c ∈ l, (pc, x) ∈ c.2
  | [], _, _, h => by cases h
  | c :: r, pc, x, h => by
    unfold ev_l2 at h
    cases hq : Nat.ble pc c.1 with
    | true => rw [hq] at h; exact ⟨c, List.mem_cons_self, ev_l1_in _ _ _ h⟩
    | false =>
      rw [hq] at h
      obtain ⟨d, hd, hx⟩ := ev_l2_in r pc x h
      exact ⟨d, List.mem_cons_of_mem _ hd, hx⟩
theorem ev_ok_of {mi : MI} (h : (mi_T mi).all (fun c => c.2.all (ev_eok (mi_C mi))) = true) : ev_ok mi := by
  intro pc i nx tg hx
  obtain ⟨c, hc, hm⟩ := ev_l2_in _ _ _ hx
  have h1 := List.all_eq_true.mp (List.all_eq_true.mp h c hc) _ hm
  simp only [ev_eok, Bool.and_eq_true, decide_eq_true_eq] at h1
  exact ⟨h1.1.1, Nat.le_of_ble_eq_true h1.1.2, h1.2⟩
/-! addresses and values -/
def ev_ad (b base k : Nat) : Nat := if k = 0 then b else base + k
def ev_rv (b base : Nat) : Value → Value
  | .ref k => .ref (ev_ad b base k)
  | v => v
theorem ev_rv_cat (b base : Nat) (v : Value) : (ev_rv b base v).category = v.category := by cases v <;> rfl
def ev_rf (b base : Nat) (r : Option Nat) : Value := match r with
  | none => .null
  | some k => .ref (ev_ad b base k)
def ev_vf (r : Option Nat) : Value := match r with
  | none => .null
  | some k => .ref k
theorem ev_rv_vf (b base : Nat) (r : Option Nat) : ev_rv b base (ev_vf r) = ev_rf b base r := by cases r <;> rfl
def ev_sh (G : Geo) (a : Nat) : Option Shp := (G[a]?).map (fun c => c.1)
def ev_gr (G : Geo) (a k : Nat) : Option Nat := match G[a]? with
  | none => none
  | some c => match c.2[k]? with
    | none => none
    | some r => r
def ev_sv (b base : Nat) (ty : FieldType) (G : Geo) (h : Hp) (a k : Nat) : Value := if ty.isReference = true then ev_rf b base (ev_gr G a k) else .int (h a k)
def ev_set (h : Hp) (a k : Nat) (x : Int32) : Hp := fun i j => if i = a ∧ j = k then x else h i j
def ev_rset (G : Geo) (a k : Nat) (r : Option Nat) : Geo := G.modify a (fun c => (c.1, c.2.set k r))
/-- the cell k > 0 of the abstract heap -/
def ev_cell (b base : Nat) (G : Geo) (h : Hp) (U : State) (H : Heap) (a : Nat) (z : Shp) : Prop := match z with
  | .inl c => ∃ (q : vw_C) (cC : ClassId) (iS : Nat → Nat), vwCl[c]? = some q ∧ u_Kn U q.1 q.2.1 q.2.2 cC iS ∧ t_OB (base + a) cC q.2.2 iS H (fun k => ev_sv b base (tyCl c k) G h a k)
  | .inr (ty, n) => ∃ cA : ClassId, ArrOfT U cA ty ∧ H[base + a]? = some (arrV cA n (fun j => ev_sv b base ty G h a j))
def ev_S (b base : Nat) (G : Geo) (h : Hp) (U : State) (H : Heap) : Prop :=
  b ≤ base ∧ H.size = base + G.length ∧ (∃ L : Nat, ev_sh G 0 = some (.inr (.int, L)) ∧ va_X b L (h 0) U H) ∧ ∀ (a : Nat) (z : Shp), 0 < a → ev_sh G a = some z → ev_cell b base G h U H a z
/-- the nest's words -/
def ev_N (U : State) : Prop := (∀ q ∈ nest_w, va_Nw (.methodLinkNest q.1 q.2.1 q.2.2.1 q.2.2.2) U) ∧ (Cond.arrayOver (.array .int)).before #[] U = true
theorem ev_N.moved {s U : State} (hW : s.WarmedH U.vm) (h : ev_N s) : ev_N U := ⟨fun q hq => va_Nw.warmM hW (h.1 q hq), over_moved hW.alike h.2⟩
theorem ev_cell.moved {b base : Nat} {G : Geo} {h : Hp} {u U : State} {H : Heap} {a : Nat} {z : Shp} (hvm : u.vm.Alike U.vm) (hc : ev_cell b base G h u H a z) : ev_cell b base G h U H a z := by
  cases z with
  | inl c =>
    obtain ⟨q, cC, iS, h1, h2, h3⟩ := hc
    exact ⟨q, cC, iS, h1, u_Kn_moved hvm h2, h3⟩
  | inr t =>
    obtain ⟨ty, n⟩ := t
    obtain ⟨cA, h1, h2⟩ := hc
    exact ⟨cA, arrOfT_moved hvm h1, h2⟩
theorem ev_S.moved {b base : Nat} {G : Geo} {h : Hp} {u U : State} {H : Heap} (hvm : u.vm.Alike U.vm) (hS : ev_S b base G h u H) : ev_S b base G h U H := by
  obtain ⟨h1, h2, ⟨L, h3, h4⟩, h5⟩ := hS
  exact ⟨h1, h2, ⟨L, h3, h4.moved hvm⟩, fun a z ha hz => (h5 a z ha hz).moved hvm⟩
theorem ev_sh_lt {G : Geo} {a : Nat} {z : Shp} (h : ev_sh G a = some z) : a < G.length := by
  unfold ev_sh at h
  cases hg : G[a]? with
  | none => rw [hg] at h; cases h
  | some c => exact (List.getElem?_eq_some_iff.mp hg).1
/-- an array is read: the script's or one of ours -/
theorem ev_S.arr {b base : Nat} {G : Geo} {h : Hp} {U : State} {H : Heap} (hS : ev_S b base G h U H) {a n : Nat} {ty : FieldType} (hz : ev_sh G a = some (.inr (ty, n))) :
    ∃ cell : Cell, H[ev_ad b base a]? = some cell ∧ U.isArrayOf cell ty ∧ cell.vm ≠ .unknown ∧ cell.slots.size = n ∧ ∀ j : Nat, j < n → cell.slots[j]? = some (ev_sv b base ty G h a j) := by
  obtain ⟨h1, h2, ⟨L, h3, scr, x1, x2, x3, x4, x5⟩, h5⟩ := hS
  by_cases ha : a = 0
  · subst ha
    rw [h3] at hz
    cases hz
    exact ⟨scr, x1, x2, x3, x4, fun j hj => by rw [x5 j hj]; rfl⟩
  · obtain ⟨cA, g1, g2⟩ := h5 a _ (Nat.pos_of_ne_zero ha) hz
    have e : ev_ad b base a = base + a := if_neg ha
    rw [e]
    exact ⟨_, g2, g1 _ _, (fun q => by cases q), arrV_size _ _ _, fun j hj => arrV_read _ _ hj⟩
/-- locals -/
def ev_L (b base nL : Nat) (lo : List (Option Value)) (ls : Array Slot) : Prop := ∃ l : List (Nat × Value), lv_has ls nL l ∧ ∀ (k : Nat) (v : Value), lo[k]? = some (some v) → (k, ev_rv b base v) ∈ l
theorem ev_L.get {b base nL k : Nat} {lo : List (Option Value)} {ls : Array Slot} {v : Value} (h : ev_L b base nL lo ls) (hk : lo[k]? = some (some v)) : ls[k]? = some (.val (ev_rv b base v)) := by
  obtain ⟨l, h1, h2⟩ := h
  exact h1.2.2 _ (h2 k v hk)
def ev_c1 (lo : List (Option Value)) : Nat → Bool
  | 0 => true
  | k + 1 => match lo[k]? with
    | some (some v) => Nat.beq v.category 1
    | _ => true
theorem ev_c1_spec {lo : List (Option Value)} {k : Nat} {w : Value} (h : ev_c1 lo (k + 1) = true) (hk : lo[k]? = some (some w)) : w.category = 1 := by
  simp only [ev_c1, hk] at h
  exact Nat.eq_of_beq_eq_true h
theorem ev_L.put1 {b base nL i : Nat} {lo : List (Option Value)} {l : List (Nat × Value)} {ls' : Array Slot} {v : Value} (h2 : ∀ (k : Nat) (w : Value), lo[k]? = some (some w) → (k, ev_rv b base w) ∈ l) (hc : ev_c1 lo i = true)
    (h : lv_has ls' nL ((i, ev_rv b base v) :: l.filter (fun q => !(q.1 == i) && !(q.1 + 1 == i && q.2.category == 2)))) : ev_L b base nL (lo.set i (some v)) ls' := by
  refine ⟨_, h, fun k w hk => ?_⟩
  by_cases e : k = i
  · subst e
    have hl : k < lo.length := by
      have := (List.getElem?_eq_some_iff.mp hk).1
      simpa using this
    rw [List.getElem?_set_self hl] at hk
    cases hk
    exact List.mem_cons_self
  · rw [List.getElem?_set_ne (Ne.symm e)] at hk
    refine List.mem_cons_of_mem _ (List.mem_filter.mpr ⟨h2 k w hk, ?_⟩)
    have e1 : (k == i) = false := by simpa using e
    have e2 : (k + 1 == i && (ev_rv b base w).category == 2) = false := by
      by_cases e3 : k + 1 = i
      · subst e3
        rw [ev_rv_cat, ev_c1_spec hc hk]
        simp
      · have : (k + 1 == i) = false := by simpa using e3
        rw [this]; rfl
    simp only [e1, e2]; rfl
theorem ev_L.put2 {b base nL i : Nat} {lo : List (Option Value)} {l : List (Nat × Value)} {ls' : Array Slot} {v : Value} (h2 : ∀ (k : Nat) (w : Value), lo[k]? = some (some w) → (k, ev_rv b base w) ∈ l) (hc : ev_c1 lo i = true)
    (h : lv_has ls' nL ((i, ev_rv b base v) :: l.filter (fun q => !(q.1 == i) && (!(q.1 == i + 1) && !(q.1 + 1 == i && q.2.category == 2))))) : ev_L b base nL ((lo.set i (some v)).set (i + 1) none) ls' := by
  refine ⟨_, h, fun k w hk => ?_⟩
  by_cases e0 : k = i + 1
  · subst e0
    exfalso
    have hl : i + 1 < (lo.set i (some v)).length := by
      have := (List.getElem?_eq_some_iff.mp hk).1
      simpa using this
    rw [List.getElem?_set_self hl] at hk
    cases hk
  rw [List.getElem?_set_ne (Ne.symm e0)] at hk
  by_cases e : k = i
  · subst e
    have hl : k < lo.length := by
      have := (List.getElem?_eq_some_iff.mp hk).1
      simpa using this
    rw [List.getElem?_set_self hl] at hk
    cases hk
    exact List.mem_cons_self
  · rw [List.getElem?_set_ne (Ne.symm e)] at hk
    refine List.mem_cons_of_mem _ (List.mem_filter.mpr ⟨h2 k w hk, ?_⟩)
    have e1 : (k == i) = false := by simpa using e
    have e4 : (k == i + 1) = false := by simpa using e0
    have e2 : (k + 1 == i && (ev_rv b base w).category == 2) = false := by
      by_cases e3 : k + 1 = i
      · subst e3
        rw [ev_rv_cat, ev_c1_spec hc hk]
        simp
      · have : (k + 1 == i) = false := by simpa using e3
        rw [this]; rfl
    simp only [e1, e2, e4]; rfl
def ev_al : List Value → List (Option Value)
  | [] => []
  | v :: vs => if v.category = 2 then some v :: none :: ev_al vs else some v :: ev_al vs
theorem ev_al_cons (v : Value) (vs : List Value) : ev_al (v :: vs) = if v.category = 2 then some v :: none :: ev_al vs else some v :: ev_al vs := rfl
theorem ev_al_in (b base : Nat) : ∀ (vs : List Value) (i k : Nat) (v : Value), (ev_al vs)[k]? = some (some v) → (i + k, ev_rv b base v) ∈ lv_args i (vs.map (ev_rv b base))
  | [], i, k, v, h => by simp [ev_al] at h
  | w :: vs, i, k, v, h => by
    rw [List.map_cons]
    unfold lv_args
    rw [ev_al_cons] at h
    rw [ev_rv_cat]
    by_cases hc : w.category = 2
    · rw [if_pos hc] at h ⊢
      match k, h with
      | 0, h => cases h; exact List.mem_cons_self
      | 1, h => cases h
      | k + 2, h =>
        have h' : (ev_al vs)[k]? = some (some v) := h
        have := ev_al_in b base vs (i + 2) k v h'
        rw [show i + 2 + k = i + (k + 2) by omega] at this
        exact List.mem_cons_of_mem _ this
    · rw [if_neg hc] at h ⊢
      match k, h with
      | 0, h => cases h; exact List.mem_cons_self
      | k + 1, h =>
        have h' : (ev_al vs)[k]? = some (some v) := h
        have := ev_al_in b base vs (i + 1) k v h'
        rw [show i + 1 + k = i + (k + 1) by omega] at this
        exact List.mem_cons_of_mem _ this
def ev_lo (nL : Nat) (args : List Value) : List (Option Value) := ev_al args ++ List.replicate (nL - (ev_al args).length) none
theorem ev_lo_in (b base nL : Nat) (vs : List Value) (k : Nat) (v : Value) (h : (ev_lo nL vs)[k]? = some (some v)) : (k, ev_rv b base v) ∈ lv_args 0 (vs.map (ev_rv b base)) := by
  unfold ev_lo at h
  by_cases hk : k < (ev_al vs).length
  · rw [List.getElem?_append_left hk] at h
    have := ev_al_in b base vs 0 k v h
    rwa [Nat.zero_add] at this
  · rw [List.getElem?_append_right (by omega)] at h
    have := List.eq_of_mem_replicate (List.mem_of_getElem? h)
    cases this
theorem ev_al_len : ∀ (b base : Nat) (vs : List Value), (lg_sl (vs.map (ev_rv b base))).length = (ev_al vs).length
  | b, base, [] => rfl
  | b, base, v :: vs => by
    have ih := ev_al_len b base vs
    unfold lg_sl at ih ⊢
    rw [List.map_cons, List.flatMap_cons, List.length_append, ih, ev_rv_cat, ev_al_cons]
    by_cases hc : v.category = 2
    · rw [if_pos hc, if_pos hc]; simp; omega
    · rw [if_neg hc, if_neg hc]; simp; omega
end
section
/-! EvQ: from this frame the method comes to its return, with Q of the answer and the heap; at most kc cells of ks slots are made -/
def gwl : List Cond := lw_tbl.filter goodWord
theorem gwl_in {w : Cond} (i : Nat) (h : lw_tbl[i]? = some w) (g : goodWord w = true) : w ∈ gwl := List.mem_filter.mpr ⟨List.mem_of_getElem? h, g⟩
theorem gwl_good : GoodIn gwl gwl := fun w hw => ⟨hw, good_of_word (List.mem_filter.mp hw).2⟩
def ev_C (mi : MI) (p : Program) (R : Room) (s : State) (m : MethodId) (args : Array Value) (meth : Method) (c : Code) : Prop :=
  p.tables.exec = Jvm.exec ∧ c.code = mi_C mi ∧ c.maxLocals = mi_L mi ∧ meth.sig.returnType = mi_R mi ∧ s.vm.findClass mi.1.cls = some m.cls ∧ (∀ w ∈ gwl, w.before args s = true) ∧ meth.locks = false ∧ meth.name = mi.1.name ∧ mi_F mi ≤ R.frames ∧ mi_S mi ≤ R.locals ∧ ev_N s ∧ ev_ok mi
def ev_rt (ret : Option FieldType) (v : Option Value) : Prop := match ret, v with
  | none, none => True
  | some ty, some (.int x) => narrow ty (.int x) = .int x
  | _, _ => False
def ev_ro (v : Option Value) : Instr := match v with
  | none => .return_
  | some _ => .ireturn
def ev_B (base : Nat) (locs : List Loc) : Prop := ∀ q ∈ locs, base < q.base
theorem ev_B.put {base : Nat} {locs : List Loc} {a k : Nat} (h : ev_B base locs) (ha : base < a) : ev_B base (locs ++ [⟨a, k⟩]) := fun q hq => by
  rcases List.mem_append.mp hq with h1 | h1
  · exact h q h1
  · rw [List.mem_singleton.mp h1]; exact ha
theorem ev_B.app {base : Nat} {locs L : List Loc} (h : ev_B base locs) (h2 : ∀ q ∈ L, base < q.base) : ev_B base (locs ++ L) := fun q hq => by
  rcases List.mem_append.mp hq with h1 | h1
  · exact h q h1
  · exact h2 q h1
abbrev Pst : Type := Option Value → Geo → Hp → Prop
def EvQ (mi : MI) (pc : Nat) (lo : List (Option Value)) (st : List Value) (G : Geo) (h : Hp) (kc ks : Nat) (Q : Pst) : Prop :=
  ∀ (p : Program) (l : Launch) (e : Env) (R : Room) (s : State) (m : MethodId) (args : Array Value) (below : List Frame) (meth : Method) (c : Code) (b base : Nat) (ls : Array Slot) (H : Heap) (locs : List Loc) (cells slots : Nat) (Qf : State → Prop),
    ev_C mi p R s m args meth c → ev_L b base (mi_L mi) lo ls → ev_S b base G h s H → ev_B base locs → cells + kc ≤ R.cells → slots + ks ≤ R.slots →
    (∀ (v : Option Value) (G' : Geo) (h' : Hp) (pc' nx tg : Nat) (ls' : Array Slot) (H' : Heap) (locs' : List Loc), Q v G' h' → ev_rt (mi_R mi) v → ev_S b base G' h' s H' → ev_B base locs' → ev_at mi pc' = some (ev_ro v, nx, tg) → nx = pc' + 1 → W p l e R s m args below meth c H' locs' (cells + kc) (slots + ks) Qf (F0 m pc' ls' ((v.map (ev_rv b base)).toList))) →
    W p l e R s m args below meth c H locs cells slots Qf (F0 m pc ls (st.map (ev_rv b base)))
theorem EvQ.mono {mi : MI} {pc : Nat} {lo : List (Option Value)} {st : List Value} {G : Geo} {h : Hp} {kc ks kc' ks' : Nat} {Q Q' : Pst} (k : EvQ mi pc lo st G h kc ks Q) (h1 : kc ≤ kc') (h2 : ks ≤ ks') (hq : ∀ v G' h', Q v G' h' → Q' v G' h') : EvQ mi pc lo st G h kc' ks' Q' := by
  intro p l e R s m args below meth c b base ls H locs cells slots Qf C hL hS hB hc hs hr
  exact k p l e R s m args below meth c b base ls H locs cells slots Qf C hL hS hB (by omega) (by omega)
    (fun v G' h' pc' nx tg ls' H' locs' q1 q2 q3 q4 q5 q6 => W.widen (by omega) (by omega) (hr v G' h' pc' nx tg ls' H' locs' (hq _ _ _ q1) q2 q3 q4 q5 q6))
/-- a row that neither branches nor touches heap or locals -/
theorem ev_up {mi : MI} {pc pc' : Nat} {lo : List (Option Value)} {st st' : List Value} {G : Geo} {h : Hp} {kc ks : Nat} {Q : Pst}
    (hr : ∀ (p : Program) (l : Launch) (e : Env) (R : Room) (s : State) (m : MethodId) (args : Array Value) (below : List Frame) (meth : Method) (c : Code) (b base : Nat) (ls : Array Slot) (H : Heap) (locs : List Loc) (cells slots : Nat) (Qf : State → Prop), ev_C mi p R s m args meth c → ev_L b base (mi_L mi) lo ls → ev_S b base G h s H → W p l e R s m args below meth c H locs cells slots Qf (F0 m pc' ls (st'.map (ev_rv b base))) → W p l e R s m args below meth c H locs cells slots Qf (F0 m pc ls (st.map (ev_rv b base))))
    (k : EvQ mi pc' lo st' G h kc ks Q) : EvQ mi pc lo st G h kc ks Q := by
  intro p l e R s m args below meth c b base ls H locs cells slots Qf C hL hS hB hc hs hret
  exact hr p l e R s m args below meth c b base ls H locs cells slots Qf C hL hS (k p l e R s m args below meth c b base ls H locs cells slots Qf C hL hS hB hc hs hret)
theorem ev_dec {mi : MI} {p : Program} {R : Room} {s : State} {m : MethodId} {args : Array Value} {meth : Method} {c : Code} (C : ev_C mi p R s m args meth c) {pc nx tg n : Nat} {i : Instr} (h : ev_at mi pc = some (i, nx, tg)) (hn : nx = pc + n) : decode (mi_C mi) pc = .ok (i, n) := by
  have h1 := (C.2.2.2.2.2.2.2.2.2.2.2 pc i nx tg h).1
  rw [hn, Nat.add_sub_cancel_left] at h1
  exact h1
theorem ev_tgt {mi : MI} {p : Program} {R : Room} {s : State} {m : MethodId} {args : Array Value} {meth : Method} {c : Code} (C : ev_C mi p R s m args meth c) {pc nx tg : Nat} {i : Instr} (h : ev_at mi pc = some (i, nx, tg)) : ev_off pc tg i = true := (C.2.2.2.2.2.2.2.2.2.2.2 pc i nx tg h).2.2
section EVR
variable {mi : MI} {pc nx tg : Nat} {lo : List (Option Value)} {st : List Value} {G : Geo} {h : Hp} {kc ks : Nat} {Q : Pst}
theorem ev_iconst {n : Int} {v : Int32} (hd : ev_at mi pc = some (.iconst n, nx, tg)) (hn : nx = pc + 1) (hv : Int32.ofInt n = v) (k : EvQ mi nx lo (.int v :: st) G h kc ks Q) : EvQ mi pc lo st G h kc ks Q := by
  subst hn
  exact ev_up (fun p l e R s m args below meth c b base ls H locs cells slots Qf C hL hS w => lv_iconst C.1 C.2.1 (ev_dec C hd rfl) hv w) k
theorem ev_bipush {n : Int} {v : Int32} (hd : ev_at mi pc = some (.bipush n, nx, tg)) (hn : nx = pc + 2) (hv : (Int8.ofInt n).toInt32 = v) (k : EvQ mi nx lo (.int v :: st) G h kc ks Q) : EvQ mi pc lo st G h kc ks Q := by
  subst hn
  exact ev_up (fun p l e R s m args below meth c b base ls H locs cells slots Qf C hL hS w => lv_bipush C.1 C.2.1 (ev_dec C hd rfl) hv w) k
theorem ev_sipush {n : Int} {v : Int32} (hd : ev_at mi pc = some (.sipush n, nx, tg)) (hn : nx = pc + 3) (hv : (Int16.ofInt n).toInt32 = v) (k : EvQ mi nx lo (.int v :: st) G h kc ks Q) : EvQ mi pc lo st G h kc ks Q := by
  subst hn
  exact ev_up (fun p l e R s m args below meth c b base ls H locs cells slots Qf C hL hS w => lv_sipush C.1 C.2.1 (ev_dec C hd rfl) hv w) k
theorem ev_lconst {n : Fin 2} {v : Int64} (hd : ev_at mi pc = some (.lconst n, nx, tg)) (hn : nx = pc + 1) (hv : Int64.ofNat (n : Nat) = v) (k : EvQ mi nx lo (.long v :: st) G h kc ks Q) : EvQ mi pc lo st G h kc ks Q := by
  subst hn
  exact ev_up (fun p l e R s m args below meth c b base ls H locs cells slots Qf C hL hS w => lv_lconst C.1 C.2.1 (ev_dec C hd rfl) hv w) k
theorem ev_ldc {ix : Nat} {v : Int32} (hd : ev_at mi pc = some (.ldc ix, nx, tg)) (hn : nx = pc + 2) (hw : Cond.constant mi.1.cls ix v ∈ gwl) (k : EvQ mi nx lo (.int v :: st) G h kc ks Q) : EvQ mi pc lo st G h kc ks Q := by
  subst hn
  exact ev_up (fun p l e R s m args below meth c b base ls H locs cells slots Qf C hL hS w => lv_ldc C.1 C.2.1 C.2.2.2.2.1 (C.2.2.2.2.2.1 _ hw) (ev_dec C hd rfl) w) k
theorem ev_ldcw {ix : Nat} {v : Int32} (hd : ev_at mi pc = some (.ldc_w ix, nx, tg)) (hn : nx = pc + 3) (hw : Cond.constant mi.1.cls ix v ∈ gwl) (k : EvQ mi nx lo (.int v :: st) G h kc ks Q) : EvQ mi pc lo st G h kc ks Q := by
  subst hn
  exact ev_up (fun p l e R s m args below meth c b base ls H locs cells slots Qf C hL hS w => lv_ldcw C.1 C.2.1 C.2.2.2.2.1 (C.2.2.2.2.2.1 _ hw) (ev_dec C hd rfl) w) k
theorem ev_ldc2 {ix : Nat} {v : Int64} (hd : ev_at mi pc = some (.ldc2_w ix, nx, tg)) (hn : nx = pc + 3) (hw : Cond.constantLong mi.1.cls ix v ∈ gwl) (k : EvQ mi nx lo (.long v :: st) G h kc ks Q) : EvQ mi pc lo st G h kc ks Q := by
  subst hn
  exact ev_up (fun p l e R s m args below meth c b base ls H locs cells slots Qf C hL hS w => lv_ldc2 C.1 C.2.1 C.2.2.2.2.1 (C.2.2.2.2.2.1 _ hw) (ev_dec C hd rfl) w) k
theorem ev_iload_n {n : Fin 4} {x : Int32} (hd : ev_at mi pc = some (.iload_n n, nx, tg)) (hn : nx = pc + 1) (hl : lo[(n : Nat)]? = some (some (.int x))) (k : EvQ mi nx lo (.int x :: st) G h kc ks Q) : EvQ mi pc lo st G h kc ks Q := by
  subst hn
  exact ev_up (fun p l e R s m args below meth c b base ls H locs cells slots Qf C hL hS w => lv_iload_n C.1 C.2.1 (ev_dec C hd rfl) rfl (hL.get hl) w) k
theorem ev_iload {n : Nat} {x : Int32} (hd : ev_at mi pc = some (.iload n, nx, tg)) (hn : nx = pc + 2) (hl : lo[n]? = some (some (.int x))) (k : EvQ mi nx lo (.int x :: st) G h kc ks Q) : EvQ mi pc lo st G h kc ks Q := by
  subst hn
  exact ev_up (fun p l e R s m args below meth c b base ls H locs cells slots Qf C hL hS w => lv_iload C.1 C.2.1 (ev_dec C hd rfl) (hL.get hl) w) k
theorem ev_lload_n {n : Fin 4} {x : Int64} (hd : ev_at mi pc = some (.lload_n n, nx, tg)) (hn : nx = pc + 1) (hl : lo[(n : Nat)]? = some (some (.long x))) (k : EvQ mi nx lo (.long x :: st) G h kc ks Q) : EvQ mi pc lo st G h kc ks Q := by
  subst hn
  exact ev_up (fun p l e R s m args below meth c b base ls H locs cells slots Qf C hL hS w => lv_lload_n C.1 C.2.1 (ev_dec C hd rfl) rfl (hL.get hl) w) k
theorem ev_lload {n : Nat} {x : Int64} (hd : ev_at mi pc = some (.lload n, nx, tg)) (hn : nx = pc + 2) (hl : lo[n]? = some (some (.long x))) (k : EvQ mi nx lo (.long x :: st) G h kc ks Q) : EvQ mi pc lo st G h kc ks Q := by
  subst hn
  exact ev_up (fun p l e R s m args below meth c b base ls H locs cells slots Qf C hL hS w => lv_lload C.1 C.2.1 (ev_dec C hd rfl) (hL.get hl) w) k
theorem ev_aload_n {n : Fin 4} {x : Nat} (hd : ev_at mi pc = some (.aload_n n, nx, tg)) (hn : nx = pc + 1) (hl : lo[(n : Nat)]? = some (some (.ref x))) (k : EvQ mi nx lo (.ref x :: st) G h kc ks Q) : EvQ mi pc lo st G h kc ks Q := by
  subst hn
  exact ev_up (fun p l e R s m args below meth c b base ls H locs cells slots Qf C hL hS w => lv_aload_n C.1 C.2.1 (ev_dec C hd rfl) rfl (hL.get hl) w) k
theorem ev_aload {n : Nat} {x : Nat} (hd : ev_at mi pc = some (.aload n, nx, tg)) (hn : nx = pc + 2) (hl : lo[n]? = some (some (.ref x))) (k : EvQ mi nx lo (.ref x :: st) G h kc ks Q) : EvQ mi pc lo st G h kc ks Q := by
  subst hn
  exact ev_up (fun p l e R s m args below meth c b base ls H locs cells slots Qf C hL hS w => lv_aload C.1 C.2.1 (ev_dec C hd rfl) (hL.get hl) w) k
theorem ev_istore_n {n : Fin 4} {x : Int32} (hd : ev_at mi pc = some (.istore_n n, nx, tg)) (hn : nx = pc + 1) (hb : Nat.blt (n : Nat) (mi_L mi) = true) (hc : ev_c1 lo (n : Nat) = true) (k : EvQ mi nx (lo.set (n : Nat) (some (.int x))) st G h kc ks Q) : EvQ mi pc lo (.int x :: st) G h kc ks Q := by
  subst hn
  intro p l e R s m args below meth c b base ls H locs cells slots Qf C hL hS hB hcc hss hret
  obtain ⟨l0, hl1, hl2⟩ := hL
  exact lv_istore_n C.1 C.2.1 (ev_dec C hd rfl) rfl hl1 (Nat.le_of_ble_eq_true hb) rfl (fun ls' hl' => k p l e R s m args below meth c b base ls' H locs cells slots Qf C (ev_L.put1 (v := .int x) hl2 hc hl') hS hB hcc hss hret)
theorem ev_istore {n : Nat} {x : Int32} (hd : ev_at mi pc = some (.istore n, nx, tg)) (hn : nx = pc + 2) (hb : Nat.blt n (mi_L mi) = true) (hc : ev_c1 lo n = true) (k : EvQ mi nx (lo.set n (some (.int x))) st G h kc ks Q) : EvQ mi pc lo (.int x :: st) G h kc ks Q := by
  subst hn
  intro p l e R s m args below meth c b base ls H locs cells slots Qf C hL hS hB hcc hss hret
  obtain ⟨l0, hl1, hl2⟩ := hL
  exact lv_istore C.1 C.2.1 (ev_dec C hd rfl) hl1 (Nat.le_of_ble_eq_true hb) rfl (fun ls' hl' => k p l e R s m args below meth c b base ls' H locs cells slots Qf C (ev_L.put1 (v := .int x) hl2 hc hl') hS hB hcc hss hret)
theorem ev_astore_n {n : Fin 4} {x : Nat} (hd : ev_at mi pc = some (.astore_n n, nx, tg)) (hn : nx = pc + 1) (hb : Nat.blt (n : Nat) (mi_L mi) = true) (hc : ev_c1 lo (n : Nat) = true) (k : EvQ mi nx (lo.set (n : Nat) (some (.ref x))) st G h kc ks Q) : EvQ mi pc lo (.ref x :: st) G h kc ks Q := by
  subst hn
  intro p l e R s m args below meth c b base ls H locs cells slots Qf C hL hS hB hcc hss hret
  obtain ⟨l0, hl1, hl2⟩ := hL
  exact lv_astore_n C.1 C.2.1 (ev_dec C hd rfl) rfl hl1 (Nat.le_of_ble_eq_true hb) rfl (fun ls' hl' => k p l e R s m args below meth c b base ls' H locs cells slots Qf C (ev_L.put1 (v := .ref x) hl2 hc hl') hS hB hcc hss hret)
theorem ev_astore {n : Nat} {x : Nat} (hd : ev_at mi pc = some (.astore n, nx, tg)) (hn : nx = pc + 2) (hb : Nat.blt n (mi_L mi) = true) (hc : ev_c1 lo n = true) (k : EvQ mi nx (lo.set n (some (.ref x))) st G h kc ks Q) : EvQ mi pc lo (.ref x :: st) G h kc ks Q := by
  subst hn
  intro p l e R s m args below meth c b base ls H locs cells slots Qf C hL hS hB hcc hss hret
  obtain ⟨l0, hl1, hl2⟩ := hL
  exact lv_astore C.1 C.2.1 (ev_dec C hd rfl) hl1 (Nat.le_of_ble_eq_true hb) rfl (fun ls' hl' => k p l e R s m args below meth c b base ls' H locs cells slots Qf C (ev_L.put1 (v := .ref x) hl2 hc hl') hS hB hcc hss hret)
theorem ev_lstore {n : Nat} {x : Int64} (hd : ev_at mi pc = some (.lstore n, nx, tg)) (hn : nx = pc + 2) (hb : Nat.blt (n + 1) (mi_L mi) = true) (hc : ev_c1 lo n = true) (k : EvQ mi nx ((lo.set n (some (.long x))).set (n + 1) none) st G h kc ks Q) : EvQ mi pc lo (.long x :: st) G h kc ks Q := by
  subst hn
  intro p l e R s m args below meth c b base ls H locs cells slots Qf C hL hS hB hcc hss hret
  obtain ⟨l0, hl1, hl2⟩ := hL
  exact lv_lstore C.1 C.2.1 (ev_dec C hd rfl) hl1 (Nat.le_of_ble_eq_true hb) rfl (fun ls' hl' => k p l e R s m args below meth c b base ls' H locs cells slots Qf C (ev_L.put2 (v := .long x) hl2 hc hl') hS hB hcc hss hret)
theorem ev_iinc {n : Nat} {d : Int} {x y : Int32} (hd : ev_at mi pc = some (.iinc n d, nx, tg)) (hn : nx = pc + 3) (hl : lo[n]? = some (some (.int x))) (hy : Int32.ofInt d = y) (hb : Nat.blt n (mi_L mi) = true) (hc : ev_c1 lo n = true) (k : EvQ mi nx (lo.set n (some (.int (x + y)))) st G h kc ks Q) : EvQ mi pc lo st G h kc ks Q := by
  subst hn
  subst hy
  intro p l e R s m args below meth c b base ls H locs cells slots Qf C hL hS hB hcc hss hret
  obtain ⟨l0, hl1, hl2⟩ := hL
  obtain ⟨j, hj⟩ := List.getElem?_of_mem (hl2 n _ hl)
  exact lv_iinc C.1 C.2.1 (ev_dec C hd rfl) hl1 hj rfl (Nat.le_of_ble_eq_true hb) rfl (fun ls' hl' => k p l e R s m args below meth c b base ls' H locs cells slots Qf C (ev_L.put1 (v := .int (x + Int32.ofInt d)) hl2 hc hl') hS hB hcc hss hret)
theorem ev_null (hd : ev_at mi pc = some (.aconst_null, nx, tg)) (hn : nx = pc + 1) (k : EvQ mi nx lo (.null :: st) G h kc ks Q) : EvQ mi pc lo st G h kc ks Q := by
  subst hn
  exact ev_up (fun p l e R s m args below meth c b base ls H locs cells slots Qf C hL hS w => lv_null C.1 C.2.1 (ev_dec C hd rfl) w) k
theorem ev_dup {v : Value} (hd : ev_at mi pc = some (.dup, nx, tg)) (hn : nx = pc + 1) (hc : Nat.beq v.category 1 = true) (k : EvQ mi nx lo (v :: v :: st) G h kc ks Q) : EvQ mi pc lo (v :: st) G h kc ks Q := by
  subst hn
  exact ev_up (fun p l e R s m args below meth c b base ls H locs cells slots Qf C hL hS w => lv_dup C.1 C.2.1 (ev_dec C hd rfl) ((ev_rv_cat b base v).trans (Nat.eq_of_beq_eq_true hc)) w) k
theorem ev_pop {v : Value} (hd : ev_at mi pc = some (.pop, nx, tg)) (hn : nx = pc + 1) (hc : Nat.beq v.category 1 = true) (k : EvQ mi nx lo st G h kc ks Q) : EvQ mi pc lo (v :: st) G h kc ks Q := by
  subst hn
  exact ev_up (fun p l e R s m args below meth c b base ls H locs cells slots Qf C hL hS w => lv_pop C.1 C.2.1 (ev_dec C hd rfl) ((ev_rv_cat b base v).trans (Nat.eq_of_beq_eq_true hc)) w) k
theorem ev_dup2 {v u : Value} (hd : ev_at mi pc = some (.dup2, nx, tg)) (hn : nx = pc + 1) (hc : Nat.beq v.category 1 = true) (hu : Nat.beq u.category 1 = true) (k : EvQ mi nx lo (v :: u :: v :: u :: st) G h kc ks Q) : EvQ mi pc lo (v :: u :: st) G h kc ks Q := by
  subst hn
  exact ev_up (fun p l e R s m args below meth c b base ls H locs cells slots Qf C hL hS w => lv_dup2_11 C.1 C.2.1 (ev_dec C hd rfl) ((ev_rv_cat b base v).trans (Nat.eq_of_beq_eq_true hc)) ((ev_rv_cat b base u).trans (Nat.eq_of_beq_eq_true hu)) w) k
theorem ev_dup_x1 {v u : Value} (hd : ev_at mi pc = some (.dup_x1, nx, tg)) (hn : nx = pc + 1) (hc : Nat.beq v.category 1 = true) (hu : Nat.beq u.category 1 = true) (k : EvQ mi nx lo (v :: u :: v :: st) G h kc ks Q) : EvQ mi pc lo (v :: u :: st) G h kc ks Q := by
  subst hn
  exact ev_up (fun p l e R s m args below meth c b base ls H locs cells slots Qf C hL hS w => lv_dup_x1 C.1 C.2.1 (ev_dec C hd rfl) ((ev_rv_cat b base v).trans (Nat.eq_of_beq_eq_true hc)) ((ev_rv_cat b base u).trans (Nat.eq_of_beq_eq_true hu)) w) k
theorem ev_iadd {x : Int32} {y : Int32} (hd : ev_at mi pc = some (.iadd, nx, tg)) (hn : nx = pc + 1) (k : EvQ mi nx lo (.int (x + y) :: st) G h kc ks Q) : EvQ mi pc lo (.int y :: .int x :: st) G h kc ks Q := by
  subst hn
  exact ev_up (fun p l e R s m args below meth c b base ls H locs cells slots Qf C hL hS w => lv_iadd C.1 C.2.1 (ev_dec C hd rfl) w) k
theorem ev_isub {x : Int32} {y : Int32} (hd : ev_at mi pc = some (.isub, nx, tg)) (hn : nx = pc + 1) (k : EvQ mi nx lo (.int (x - y) :: st) G h kc ks Q) : EvQ mi pc lo (.int y :: .int x :: st) G h kc ks Q := by
  subst hn
  exact ev_up (fun p l e R s m args below meth c b base ls H locs cells slots Qf C hL hS w => lv_isub C.1 C.2.1 (ev_dec C hd rfl) w) k
theorem ev_imul {x : Int32} {y : Int32} (hd : ev_at mi pc = some (.imul, nx, tg)) (hn : nx = pc + 1) (k : EvQ mi nx lo (.int (x * y) :: st) G h kc ks Q) : EvQ mi pc lo (.int y :: .int x :: st) G h kc ks Q := by
  subst hn
  exact ev_up (fun p l e R s m args below meth c b base ls H locs cells slots Qf C hL hS w => lv_imul C.1 C.2.1 (ev_dec C hd rfl) w) k
theorem ev_iand {x : Int32} {y : Int32} (hd : ev_at mi pc = some (.iand, nx, tg)) (hn : nx = pc + 1) (k : EvQ mi nx lo (.int (x &&& y) :: st) G h kc ks Q) : EvQ mi pc lo (.int y :: .int x :: st) G h kc ks Q := by
  subst hn
  exact ev_up (fun p l e R s m args below meth c b base ls H locs cells slots Qf C hL hS w => lv_iand C.1 C.2.1 (ev_dec C hd rfl) w) k
theorem ev_ior {x : Int32} {y : Int32} (hd : ev_at mi pc = some (.ior, nx, tg)) (hn : nx = pc + 1) (k : EvQ mi nx lo (.int (x ||| y) :: st) G h kc ks Q) : EvQ mi pc lo (.int y :: .int x :: st) G h kc ks Q := by
  subst hn
  exact ev_up (fun p l e R s m args below meth c b base ls H locs cells slots Qf C hL hS w => lv_ior C.1 C.2.1 (ev_dec C hd rfl) w) k
theorem ev_ixor {x : Int32} {y : Int32} (hd : ev_at mi pc = some (.ixor, nx, tg)) (hn : nx = pc + 1) (k : EvQ mi nx lo (.int (x ^^^ y) :: st) G h kc ks Q) : EvQ mi pc lo (.int y :: .int x :: st) G h kc ks Q := by
  subst hn
  exact ev_up (fun p l e R s m args below meth c b base ls H locs cells slots Qf C hL hS w => lv_ixor C.1 C.2.1 (ev_dec C hd rfl) w) k
theorem ev_idiv {x : Int32} {y : Int32} (hd : ev_at mi pc = some (.idiv, nx, tg)) (hn : nx = pc + 1) (hne : ¬ y = 0) (k : EvQ mi nx lo (.int (x / y) :: st) G h kc ks Q) : EvQ mi pc lo (.int y :: .int x :: st) G h kc ks Q := by
  subst hn
  exact ev_up (fun p l e R s m args below meth c b base ls H locs cells slots Qf C hL hS w => lv_idiv C.1 C.2.1 (ev_dec C hd rfl) hne w) k
theorem ev_irem {x : Int32} {y : Int32} (hd : ev_at mi pc = some (.irem, nx, tg)) (hn : nx = pc + 1) (hne : ¬ y = 0) (k : EvQ mi nx lo (.int (x - x / y * y) :: st) G h kc ks Q) : EvQ mi pc lo (.int y :: .int x :: st) G h kc ks Q := by
  subst hn
  exact ev_up (fun p l e R s m args below meth c b base ls H locs cells slots Qf C hL hS w => lv_irem C.1 C.2.1 (ev_dec C hd rfl) hne w) k
theorem ev_ladd {x : Int64} {y : Int64} (hd : ev_at mi pc = some (.ladd, nx, tg)) (hn : nx = pc + 1) (k : EvQ mi nx lo (.long (x + y) :: st) G h kc ks Q) : EvQ mi pc lo (.long y :: .long x :: st) G h kc ks Q := by
  subst hn
  exact ev_up (fun p l e R s m args below meth c b base ls H locs cells slots Qf C hL hS w => lv_ladd C.1 C.2.1 (ev_dec C hd rfl) w) k
theorem ev_lsub {x : Int64} {y : Int64} (hd : ev_at mi pc = some (.lsub, nx, tg)) (hn : nx = pc + 1) (k : EvQ mi nx lo (.long (x - y) :: st) G h kc ks Q) : EvQ mi pc lo (.long y :: .long x :: st) G h kc ks Q := by
  subst hn
  exact ev_up (fun p l e R s m args below meth c b base ls H locs cells slots Qf C hL hS w => lv_lsub C.1 C.2.1 (ev_dec C hd rfl) w) k
theorem ev_land {x : Int64} {y : Int64} (hd : ev_at mi pc = some (.land, nx, tg)) (hn : nx = pc + 1) (k : EvQ mi nx lo (.long (x &&& y) :: st) G h kc ks Q) : EvQ mi pc lo (.long y :: .long x :: st) G h kc ks Q := by
  subst hn
  exact ev_up (fun p l e R s m args below meth c b base ls H locs cells slots Qf C hL hS w => lv_land C.1 C.2.1 (ev_dec C hd rfl) w) k
theorem ev_lor {x : Int64} {y : Int64} (hd : ev_at mi pc = some (.lor, nx, tg)) (hn : nx = pc + 1) (k : EvQ mi nx lo (.long (x ||| y) :: st) G h kc ks Q) : EvQ mi pc lo (.long y :: .long x :: st) G h kc ks Q := by
  subst hn
  exact ev_up (fun p l e R s m args below meth c b base ls H locs cells slots Qf C hL hS w => lv_lor C.1 C.2.1 (ev_dec C hd rfl) w) k
theorem ev_ishl {x : Int32} {y : Int32} (hd : ev_at mi pc = some (.ishl, nx, tg)) (hn : nx = pc + 1) (k : EvQ mi nx lo (.int (x <<< (y &&& 31)) :: st) G h kc ks Q) : EvQ mi pc lo (.int y :: .int x :: st) G h kc ks Q := by
  subst hn
  exact ev_up (fun p l e R s m args below meth c b base ls H locs cells slots Qf C hL hS w => lv_ishl C.1 C.2.1 (ev_dec C hd rfl) w) k
theorem ev_ishr {x : Int32} {y : Int32} (hd : ev_at mi pc = some (.ishr, nx, tg)) (hn : nx = pc + 1) (k : EvQ mi nx lo (.int (x >>> (y &&& 31)) :: st) G h kc ks Q) : EvQ mi pc lo (.int y :: .int x :: st) G h kc ks Q := by
  subst hn
  exact ev_up (fun p l e R s m args below meth c b base ls H locs cells slots Qf C hL hS w => lv_ishr C.1 C.2.1 (ev_dec C hd rfl) w) k
theorem ev_iushr {x : Int32} {y : Int32} (hd : ev_at mi pc = some (.iushr, nx, tg)) (hn : nx = pc + 1) (k : EvQ mi nx lo (.int ((x.toUInt32 >>> (y.toUInt32 &&& Int32.toUInt32 31)).toInt32) :: st) G h kc ks Q) : EvQ mi pc lo (.int y :: .int x :: st) G h kc ks Q := by
  subst hn
  exact ev_up (fun p l e R s m args below meth c b base ls H locs cells slots Qf C hL hS w => lv_iushr C.1 C.2.1 (ev_dec C hd rfl) rfl w) k
theorem ev_lshl {x : Int64} {y : Int32} (hd : ev_at mi pc = some (.lshl, nx, tg)) (hn : nx = pc + 1) (k : EvQ mi nx lo (.long (x <<< (y.toInt64 &&& 63)) :: st) G h kc ks Q) : EvQ mi pc lo (.int y :: .long x :: st) G h kc ks Q := by
  subst hn
  exact ev_up (fun p l e R s m args below meth c b base ls H locs cells slots Qf C hL hS w => lv_lshl C.1 C.2.1 (ev_dec C hd rfl) rfl w) k
theorem ev_lshr {x : Int64} {y : Int32} (hd : ev_at mi pc = some (.lshr, nx, tg)) (hn : nx = pc + 1) (k : EvQ mi nx lo (.long (x >>> (y.toInt64 &&& 63)) :: st) G h kc ks Q) : EvQ mi pc lo (.int y :: .long x :: st) G h kc ks Q := by
  subst hn
  exact ev_up (fun p l e R s m args below meth c b base ls H locs cells slots Qf C hL hS w => lv_lshr C.1 C.2.1 (ev_dec C hd rfl) rfl w) k
theorem ev_lcmp {x : Int64} {y : Int64} (hd : ev_at mi pc = some (.lcmp, nx, tg)) (hn : nx = pc + 1) (k : EvQ mi nx lo (.int (lg_cmp x y) :: st) G h kc ks Q) : EvQ mi pc lo (.long y :: .long x :: st) G h kc ks Q := by
  subst hn
  exact ev_up (fun p l e R s m args below meth c b base ls H locs cells slots Qf C hL hS w => W.lcmp C.1 C.2.1 (ev_dec C hd rfl) w) k
theorem ev_ineg {x : Int32} (hd : ev_at mi pc = some (.ineg, nx, tg)) (hn : nx = pc + 1) (k : EvQ mi nx lo (.int (-x) :: st) G h kc ks Q) : EvQ mi pc lo (.int x :: st) G h kc ks Q := by
  subst hn
  exact ev_up (fun p l e R s m args below meth c b base ls H locs cells slots Qf C hL hS w => lv_ineg C.1 C.2.1 (ev_dec C hd rfl) w) k
theorem ev_i2l {x : Int32} (hd : ev_at mi pc = some (.i2l, nx, tg)) (hn : nx = pc + 1) (k : EvQ mi nx lo (.long (x.toInt64) :: st) G h kc ks Q) : EvQ mi pc lo (.int x :: st) G h kc ks Q := by
  subst hn
  exact ev_up (fun p l e R s m args below meth c b base ls H locs cells slots Qf C hL hS w => lv_i2l C.1 C.2.1 (ev_dec C hd rfl) rfl w) k
theorem ev_l2i {x : Int64} (hd : ev_at mi pc = some (.l2i, nx, tg)) (hn : nx = pc + 1) (k : EvQ mi nx lo (.int (x.toInt32) :: st) G h kc ks Q) : EvQ mi pc lo (.long x :: st) G h kc ks Q := by
  subst hn
  exact ev_up (fun p l e R s m args below meth c b base ls H locs cells slots Qf C hL hS w => lv_l2i C.1 C.2.1 (ev_dec C hd rfl) rfl w) k
theorem ev_i2b {x : Int32} (hd : ev_at mi pc = some (.i2b, nx, tg)) (hn : nx = pc + 1) (k : EvQ mi nx lo (.int (x.toInt8.toInt32) :: st) G h kc ks Q) : EvQ mi pc lo (.int x :: st) G h kc ks Q := by
  subst hn
  exact ev_up (fun p l e R s m args below meth c b base ls H locs cells slots Qf C hL hS w => lv_i2b C.1 C.2.1 (ev_dec C hd rfl) rfl w) k
theorem ev_i2s {x : Int32} (hd : ev_at mi pc = some (.i2s, nx, tg)) (hn : nx = pc + 1) (k : EvQ mi nx lo (.int (x.toInt16.toInt32) :: st) G h kc ks Q) : EvQ mi pc lo (.int x :: st) G h kc ks Q := by
  subst hn
  exact ev_up (fun p l e R s m args below meth c b base ls H locs cells slots Qf C hL hS w => lv_i2s C.1 C.2.1 (ev_dec C hd rfl) rfl w) k
theorem ev_icmp_eq {x y : Int32} {off : Int} (hd : ev_at mi pc = some (.if_icmp .eq off, nx, tg)) (hn : nx = pc + 3) (kt : x = y → EvQ mi tg lo st G h kc ks Q) (kf : ¬ x = y → EvQ mi nx lo st G h kc ks Q) : EvQ mi pc lo (.int y :: .int x :: st) G h kc ks Q := by
  subst hn
  intro p l e R s m args below meth c b base ls H locs cells slots Qf C hL hS hB hcc hss hret
  exact lv_icmp_eq C.1 C.2.1 (ev_dec C hd rfl) (by simpa [ev_off] using ev_tgt C hd) (fun q => kt q p l e R s m args below meth c b base ls H locs cells slots Qf C hL hS hB hcc hss hret) (fun q => kf q p l e R s m args below meth c b base ls H locs cells slots Qf C hL hS hB hcc hss hret)
theorem ev_if_eq {x : Int32} {off : Int} (hd : ev_at mi pc = some (.ifCond .eq off, nx, tg)) (hn : nx = pc + 3) (kt : x = 0 → EvQ mi tg lo st G h kc ks Q) (kf : ¬ x = 0 → EvQ mi nx lo st G h kc ks Q) : EvQ mi pc lo (.int x :: st) G h kc ks Q := by
  subst hn
  intro p l e R s m args below meth c b base ls H locs cells slots Qf C hL hS hB hcc hss hret
  exact lv_if_eq C.1 C.2.1 (ev_dec C hd rfl) (by simpa [ev_off] using ev_tgt C hd) (fun q => kt q p l e R s m args below meth c b base ls H locs cells slots Qf C hL hS hB hcc hss hret) (fun q => kf q p l e R s m args below meth c b base ls H locs cells slots Qf C hL hS hB hcc hss hret)
theorem ev_icmp_ne {x y : Int32} {off : Int} (hd : ev_at mi pc = some (.if_icmp .ne off, nx, tg)) (hn : nx = pc + 3) (kt : ¬ x = y → EvQ mi tg lo st G h kc ks Q) (kf : x = y → EvQ mi nx lo st G h kc ks Q) : EvQ mi pc lo (.int y :: .int x :: st) G h kc ks Q := by
  subst hn
  intro p l e R s m args below meth c b base ls H locs cells slots Qf C hL hS hB hcc hss hret
  exact lv_icmp_ne C.1 C.2.1 (ev_dec C hd rfl) (by simpa [ev_off] using ev_tgt C hd) (fun q => kt q p l e R s m args below meth c b base ls H locs cells slots Qf C hL hS hB hcc hss hret) (fun q => kf q p l e R s m args below meth c b base ls H locs cells slots Qf C hL hS hB hcc hss hret)
theorem ev_if_ne {x : Int32} {off : Int} (hd : ev_at mi pc = some (.ifCond .ne off, nx, tg)) (hn : nx = pc + 3) (kt : ¬ x = 0 → EvQ mi tg lo st G h kc ks Q) (kf : x = 0 → EvQ mi nx lo st G h kc ks Q) : EvQ mi pc lo (.int x :: st) G h kc ks Q := by
  subst hn
  intro p l e R s m args below meth c b base ls H locs cells slots Qf C hL hS hB hcc hss hret
  exact lv_if_ne C.1 C.2.1 (ev_dec C hd rfl) (by simpa [ev_off] using ev_tgt C hd) (fun q => kt q p l e R s m args below meth c b base ls H locs cells slots Qf C hL hS hB hcc hss hret) (fun q => kf q p l e R s m args below meth c b base ls H locs cells slots Qf C hL hS hB hcc hss hret)
theorem ev_icmp_lt {x y : Int32} {off : Int} (hd : ev_at mi pc = some (.if_icmp .lt off, nx, tg)) (hn : nx = pc + 3) (kt : x < y → EvQ mi tg lo st G h kc ks Q) (kf : ¬ x < y → EvQ mi nx lo st G h kc ks Q) : EvQ mi pc lo (.int y :: .int x :: st) G h kc ks Q := by
  subst hn
  intro p l e R s m args below meth c b base ls H locs cells slots Qf C hL hS hB hcc hss hret
  exact lv_icmp_lt C.1 C.2.1 (ev_dec C hd rfl) (by simpa [ev_off] using ev_tgt C hd) (fun q => kt q p l e R s m args below meth c b base ls H locs cells slots Qf C hL hS hB hcc hss hret) (fun q => kf q p l e R s m args below meth c b base ls H locs cells slots Qf C hL hS hB hcc hss hret)
theorem ev_if_lt {x : Int32} {off : Int} (hd : ev_at mi pc = some (.ifCond .lt off, nx, tg)) (hn : nx = pc + 3) (kt : x < 0 → EvQ mi tg lo st G h kc ks Q) (kf : ¬ x < 0 → EvQ mi nx lo st G h kc ks Q) : EvQ mi pc lo (.int x :: st) G h kc ks Q := by
  subst hn
  intro p l e R s m args below meth c b base ls H locs cells slots Qf C hL hS hB hcc hss hret
  exact lv_if_lt C.1 C.2.1 (ev_dec C hd rfl) (by simpa [ev_off] using ev_tgt C hd) (fun q => kt q p l e R s m args below meth c b base ls H locs cells slots Qf C hL hS hB hcc hss hret) (fun q => kf q p l e R s m args below meth c b base ls H locs cells slots Qf C hL hS hB hcc hss hret)
theorem ev_icmp_ge {x y : Int32} {off : Int} (hd : ev_at mi pc = some (.if_icmp .ge off, nx, tg)) (hn : nx = pc + 3) (kt : y ≤ x → EvQ mi tg lo st G h kc ks Q) (kf : ¬ y ≤ x → EvQ mi nx lo st G h kc ks Q) : EvQ mi pc lo (.int y :: .int x :: st) G h kc ks Q := by
  subst hn
  intro p l e R s m args below meth c b base ls H locs cells slots Qf C hL hS hB hcc hss hret
  exact lv_icmp_ge C.1 C.2.1 (ev_dec C hd rfl) (by simpa [ev_off] using ev_tgt C hd) (fun q => kt q p l e R s m args below meth c b base ls H locs cells slots Qf C hL hS hB hcc hss hret) (fun q => kf q p l e R s m args below meth c b base ls H locs cells slots Qf C hL hS hB hcc hss hret)
theorem ev_if_ge {x : Int32} {off : Int} (hd : ev_at mi pc = some (.ifCond .ge off, nx, tg)) (hn : nx = pc + 3) (kt : 0 ≤ x → EvQ mi tg lo st G h kc ks Q) (kf : ¬ 0 ≤ x → EvQ mi nx lo st G h kc ks Q) : EvQ mi pc lo (.int x :: st) G h kc ks Q := by
  subst hn
  intro p l e R s m args below meth c b base ls H locs cells slots Qf C hL hS hB hcc hss hret
  exact lv_if_ge C.1 C.2.1 (ev_dec C hd rfl) (by simpa [ev_off] using ev_tgt C hd) (fun q => kt q p l e R s m args below meth c b base ls H locs cells slots Qf C hL hS hB hcc hss hret) (fun q => kf q p l e R s m args below meth c b base ls H locs cells slots Qf C hL hS hB hcc hss hret)
theorem ev_icmp_gt {x y : Int32} {off : Int} (hd : ev_at mi pc = some (.if_icmp .gt off, nx, tg)) (hn : nx = pc + 3) (kt : y < x → EvQ mi tg lo st G h kc ks Q) (kf : ¬ y < x → EvQ mi nx lo st G h kc ks Q) : EvQ mi pc lo (.int y :: .int x :: st) G h kc ks Q := by
  subst hn
  intro p l e R s m args below meth c b base ls H locs cells slots Qf C hL hS hB hcc hss hret
  exact lv_icmp_gt C.1 C.2.1 (ev_dec C hd rfl) (by simpa [ev_off] using ev_tgt C hd) (fun q => kt q p l e R s m args below meth c b base ls H locs cells slots Qf C hL hS hB hcc hss hret) (fun q => kf q p l e R s m args below meth c b base ls H locs cells slots Qf C hL hS hB hcc hss hret)
theorem ev_if_gt {x : Int32} {off : Int} (hd : ev_at mi pc = some (.ifCond .gt off, nx, tg)) (hn : nx = pc + 3) (kt : 0 < x → EvQ mi tg lo st G h kc ks Q) (kf : ¬ 0 < x → EvQ mi nx lo st G h kc ks Q) : EvQ mi pc lo (.int x :: st) G h kc ks Q := by
  subst hn
  intro p l e R s m args below meth c b base ls H locs cells slots Qf C hL hS hB hcc hss hret
  exact lv_if_gt C.1 C.2.1 (ev_dec C hd rfl) (by simpa [ev_off] using ev_tgt C hd) (fun q => kt q p l e R s m args below meth c b base ls H locs cells slots Qf C hL hS hB hcc hss hret) (fun q => kf q p l e R s m args below meth c b base ls H locs cells slots Qf C hL hS hB hcc hss hret)
theorem ev_icmp_le {x y : Int32} {off : Int} (hd : ev_at mi pc = some (.if_icmp .le off, nx, tg)) (hn : nx = pc + 3) (kt : x ≤ y → EvQ mi tg lo st G h kc ks Q) (kf : ¬ x ≤ y → EvQ mi nx lo st G h kc ks Q) : EvQ mi pc lo (.int y :: .int x :: st) G h kc ks Q := by
  subst hn
  intro p l e R s m args below meth c b base ls H locs cells slots Qf C hL hS hB hcc hss hret
  exact lv_icmp_le C.1 C.2.1 (ev_dec C hd rfl) (by simpa [ev_off] using ev_tgt C hd) (fun q => kt q p l e R s m args below meth c b base ls H locs cells slots Qf C hL hS hB hcc hss hret) (fun q => kf q p l e R s m args below meth c b base ls H locs cells slots Qf C hL hS hB hcc hss hret)
theorem ev_if_le {x : Int32} {off : Int} (hd : ev_at mi pc = some (.ifCond .le off, nx, tg)) (hn : nx = pc + 3) (kt : x ≤ 0 → EvQ mi tg lo st G h kc ks Q) (kf : ¬ x ≤ 0 → EvQ mi nx lo st G h kc ks Q) : EvQ mi pc lo (.int x :: st) G h kc ks Q := by
  subst hn
  intro p l e R s m args below meth c b base ls H locs cells slots Qf C hL hS hB hcc hss hret
  exact lv_if_le C.1 C.2.1 (ev_dec C hd rfl) (by simpa [ev_off] using ev_tgt C hd) (fun q => kt q p l e R s m args below meth c b base ls H locs cells slots Qf C hL hS hB hcc hss hret) (fun q => kf q p l e R s m args below meth c b base ls H locs cells slots Qf C hL hS hB hcc hss hret)
theorem ev_goto {off : Int} (hd : ev_at mi pc = some (.goto off, nx, tg)) (hn : nx = pc + 3) (k : EvQ mi tg lo st G h kc ks Q) : EvQ mi pc lo st G h kc ks Q :=
  ev_up (fun p l e R s m args below meth c b base ls H locs cells slots Qf C hL hS w => lv_goto C.1 C.2.1 (ev_dec C hd hn) (by simpa [ev_off] using ev_tgt C hd) w) k
theorem ev_ifnn {off : Int} {x : Nat} (hd : ev_at mi pc = some (.ifnonnull off, nx, tg)) (hn : nx = pc + 3) (k : EvQ mi tg lo st G h kc ks Q) : EvQ mi pc lo (.ref x :: st) G h kc ks Q :=
  ev_up (fun p l e R s m args below meth c b base ls H locs cells slots Qf C hL hS w => lv_ifnonnull C.1 C.2.1 (ev_dec C hd hn) (by simpa [ev_off] using ev_tgt C hd) w) k
theorem ev_ifnnN {off : Int} (hd : ev_at mi pc = some (.ifnonnull off, nx, tg)) (hn : nx = pc + 3) (k : EvQ mi nx lo st G h kc ks Q) : EvQ mi pc lo (.null :: st) G h kc ks Q := by
  subst hn
  exact ev_up (fun p l e R s m args below meth c b base ls H locs cells slots Qf C hL hS w => lv_ifnonnullN C.1 C.2.1 (ev_dec C hd rfl) w) k
theorem ev_tabIn {dflt lw hi : Int} {offs : Array Int} {x : Int32} {off : Int} (t : Nat) (hd : ev_at mi pc = some (.tableswitch dflt lw hi offs, nx, tg)) (h1 : ¬ x.toInt < lw) (h2 : ¬ hi < x.toInt) (ho : offs[(x.toInt - lw).toNat]? = some off) (ht : (pc : Int) + off = (t : Int)) (k : EvQ mi t lo st G h kc ks Q) : EvQ mi pc lo (.int x :: st) G h kc ks Q :=
  ev_up (fun p l e R s m args below meth c b base ls H locs cells slots Qf C hL hS w => lv_tableIn C.1 C.2.1 (C.2.2.2.2.2.2.2.2.2.2.2 pc _ nx tg hd).1 h1 h2 ho ht w) k
theorem ev_tabOut {dflt lw hi : Int} {offs : Array Int} {x : Int32} (t : Nat) (hd : ev_at mi pc = some (.tableswitch dflt lw hi offs, nx, tg)) (h1 : x.toInt < lw ∨ hi < x.toInt) (ht : (pc : Int) + dflt = (t : Int)) (k : EvQ mi t lo st G h kc ks Q) : EvQ mi pc lo (.int x :: st) G h kc ks Q :=
  ev_up (fun p l e R s m args below meth c b base ls H locs cells slots Qf C hL hS w => lv_tableOut C.1 C.2.1 (C.2.2.2.2.2.2.2.2.2.2.2 pc _ nx tg hd).1 h1 ht w) k
theorem ev_lookup {dflt : Int} {ps : Array (Int × Int)} {x : Int32} {off : Int} (t : Nat) (hd : ev_at mi pc = some (.lookupswitch dflt ps, nx, tg)) (hp : (ps.toList.zip (ps.toList.drop 1)).all (fun (a, next) => a.1 < next.1) = true) (ho : Op.lookupswitch.offset ps.toList dflt x.toInt = off) (ht : (pc : Int) + off = (t : Int)) (k : EvQ mi t lo st G h kc ks Q) : EvQ mi pc lo (.int x :: st) G h kc ks Q :=
  ev_up (fun p l e R s m args below meth c b base ls H locs cells slots Qf C hL hS w => lv_lookup C.1 C.2.1 (C.2.2.2.2.2.2.2.2.2.2.2 pc _ nx tg hd).1 hp ho ht w) k
theorem ev_iret {x : Int32} (hd : ev_at mi pc = some (.ireturn, nx, tg)) (hn : nx = pc + 1) (ht : ev_rt (mi_R mi) (some (.int x))) (hq : Q (some (.int x)) G h) : EvQ mi pc lo [.int x] G h kc ks Q := by
  intro p l e R s m args below meth c b base ls H locs cells slots Qf C hL hS hB hcc hss hret
  exact W.widen (by omega) (by omega) (hret (some (.int x)) G h pc nx tg ls H locs hq ht hS hB hd hn)
theorem ev_vret (hd : ev_at mi pc = some (.return_, nx, tg)) (hn : nx = pc + 1) (ht : ev_rt (mi_R mi) none) (hq : Q none G h) : EvQ mi pc lo [] G h kc ks Q := by
  intro p l e R s m args below meth c b base ls H locs cells slots Qf C hL hS hB hcc hss hret
  exact W.widen (by omega) (by omega) (hret none G h pc nx tg ls H locs hq ht hS hB hd hn)
end EVR
end
section
/-! heap rows -/
/-- which field a pool index names: the class's number, the field's number, by its words -/
def ev_fl (own : String) (ix c k : Nat) : Prop := ∃ q : vw_C, vwCl[c]? = some q ∧ k < q.2.2 ∧ (∀ w ∈ u_ws q.1 q.2.1 q.2.2, w ∈ gwl) ∧ Cond.fieldLink own ix (q.2.1 k).1 (q.2.1 k).2.1 (q.2.1 k).2.2.1 ∈ gwl ∧ (∀ j, j < q.2.2 → parseFieldDescriptor (q.2.1 j).2.2.1 = some (tyCl c j)) ∧ (∀ a, a < q.2.2 → ∀ b, b < q.2.2 → a ≠ b → (q.2.1 a).2.1 ≠ (q.2.1 b).2.1) ∧ ((q.2.1 k).2.2.2 = true → (q.2.1 k).1 = own)
theorem ev_S.obj {b base : Nat} {G : Geo} {h : Hp} {U : State} {H : Heap} (hS : ev_S b base G h U H) {a c : Nat} (ha : 0 < a) (hz : ev_sh G a = some (.inl c)) : ∃ (q : vw_C) (cC : ClassId) (iS : Nat → Nat), vwCl[c]? = some q ∧ u_Kn U q.1 q.2.1 q.2.2 cC iS ∧ t_OB (base + a) cC q.2.2 iS H (fun k => ev_sv b base (tyCl c k) G h a k) := hS.2.2.2 a _ ha hz
theorem ev_ad_pos {b base a : Nat} (ha : 0 < a) : ev_ad b base a = base + a := if_neg (Nat.ne_of_gt ha)
theorem ev_set_ne {h : Hp} {a k i j : Nat} {x : Int32} (hne : i ≠ a) : ev_set h a k x i j = h i j := if_neg (fun q => hne q.1)
theorem ev_gr_rset_ne {G : Geo} {a k i j : Nat} {r : Option Nat} (hne : i ≠ a) : ev_gr (ev_rset G a k r) i j = ev_gr G i j := by
  unfold ev_gr ev_rset
  rw [List.getElem?_modify]
  simp only [if_neg (Ne.symm hne)]
  cases G[i]? <;> rfl
theorem ev_sh_rset {G : Geo} {a k i : Nat} {r : Option Nat} : ev_sh (ev_rset G a k r) i = ev_sh G i := by
  unfold ev_sh ev_rset
  rw [List.getElem?_modify]
  by_cases e : a = i
  · simp only [if_pos e]; cases G[i]? <;> rfl
  · simp only [if_neg e]; cases G[i]? <;> rfl
theorem ev_rset_len {G : Geo} {a k : Nat} {r : Option Nat} : (ev_rset G a k r).length = G.length := by
  unfold ev_rset; rw [List.length_modify]
/-- one cell (a > 0) changes -/
theorem ev_S.upd {b base : Nat} {G G' : Geo} {h h' : Hp} {U : State} {H H' : Heap} (hS : ev_S b base G h U H) {a : Nat} {z : Shp} (ha : 0 < a) (hz : ev_sh G a = some z) (hl : G'.length = G.length) (hsh : ∀ i, ev_sh G' i = ev_sh G i) (hg : ∀ i j, i ≠ a → ev_gr G' i j = ev_gr G i j) (hh : ∀ i j, i ≠ a → h' i j = h i j)
    (hsz : H'.size = H.size) (ho : ∀ q, q ≠ base + a → H'[q]? = H[q]?) (hc : ev_cell b base G' h' U H' a z) : ev_S b base G' h' U H' := by
  obtain ⟨h1, h2, ⟨L, h3, h4⟩, h5⟩ := hS
  refine ⟨h1, by rw [hsz, h2, hl], ⟨L, by rw [hsh]; exact h3, ?_⟩, fun i y hi hy => ?_⟩
  · have e : h' 0 = h 0 := funext fun j => hh 0 j (Nat.ne_of_lt ha)
    rw [e]
    exact h4.kept (ho b (by omega))
  · by_cases e : i = a
    · subst e
      rw [hsh, hz] at hy
      cases hy
      exact hc
    · rw [hsh] at hy
      have hold := h5 i y hi hy
      have hkeep : H'[base + i]? = H[base + i]? := ho _ (by omega)
      have hsv : ∀ (ty : FieldType) (k : Nat), ev_sv b base ty G h i k = ev_sv b base ty G' h' i k := fun ty k => by
        unfold ev_sv; rw [hg i k e, hh i k e]
      cases y with
      | inl c =>
        obtain ⟨q, cC, iS, g1, g2, g3⟩ := hold
        exact ⟨q, cC, iS, g1, g2, (g3.kept hkeep).to (fun k _ => hsv _ k)⟩
      | inr t =>
        obtain ⟨ty, n⟩ := t
        obtain ⟨cA, g1, g2⟩ := hold
        refine ⟨cA, g1, ?_⟩
        rw [hkeep, g2]
        exact congrArg (fun f => some (arrV cA n f)) (funext fun j => hsv ty j)
section EVH
variable {mi : MI} {pc nx tg : Nat} {lo : List (Option Value)} {st : List Value} {G : Geo} {h : Hp} {kc ks : Nat} {Q : Pst}
theorem ev_get {ix a c k : Nat} {v : Value} (hd : ev_at mi pc = some (.getfield ix, nx, tg)) (hn : nx = pc + 3) (hf : ev_fl mi.1.cls ix c k) (ha : 0 < a) (hz : ev_sh G a = some (.inl c)) (hv : ∀ b base, ev_rv b base v = ev_sv b base (tyCl c k) G h a k) (kk : EvQ mi nx lo (v :: st) G h kc ks Q) : EvQ mi pc lo (.ref a :: st) G h kc ks Q := by
  subst hn
  refine ev_up (fun p l e R s m args below meth c0 b base ls H locs cells slots Qf C hL hS w => ?_) kk
  obtain ⟨q, e1, e2, e3, e4, -, -, -⟩ := hf
  obtain ⟨q', cC, iS, g1, ⟨gS, gfc, kC, gkC, gkind⟩, cell, q1, q2, q3, q4⟩ := hS.obj ha hz
  rw [e1] at g1
  cases g1
  obtain ⟨cf, kf, fi, f, hi, hsl⟩ := gS k e2
  show W p l e R s m args below meth c0 H locs cells slots Qf (F0 m pc ls (.ref (ev_ad b base a) :: st.map (ev_rv b base)))
  refine W.getf C.1 C.2.1 C.2.2.2.2.1 (C.2.2.2.2.2.1 _ e4) hi (u_facts (args := args) gfc gkC (u_lays C.2.2.2.2.2.1 e3 e2) hi).1 (by rw [ev_ad_pos ha]; exact q1) (by rw [q3]; exact fun z => by cases z) (v := ev_rv b base v) ?_ rfl rfl (ev_dec C hd rfl) w
  rw [hsl, q4 k e2, hv]
theorem ev_getI {ix a c k : Nat} (hd : ev_at mi pc = some (.getfield ix, nx, tg)) (hn : nx = pc + 3) (hf : ev_fl mi.1.cls ix c k) (ha : Nat.blt 0 a = true) (hz : ev_sh G a = some (.inl c)) (ht : (tyCl c k).isReference = false) (kk : EvQ mi nx lo (.int (h a k) :: st) G h kc ks Q) : EvQ mi pc lo (.ref a :: st) G h kc ks Q :=
  ev_get hd hn hf (Nat.le_of_ble_eq_true ha) hz (fun b base => by unfold ev_sv; rw [ht]; rfl) kk
theorem ev_getR {ix a c k y : Nat} (hd : ev_at mi pc = some (.getfield ix, nx, tg)) (hn : nx = pc + 3) (hf : ev_fl mi.1.cls ix c k) (ha : Nat.blt 0 a = true) (hz : ev_sh G a = some (.inl c)) (ht : (tyCl c k).isReference = true) (hy : ev_gr G a k = some y) (kk : EvQ mi nx lo (.ref y :: st) G h kc ks Q) : EvQ mi pc lo (.ref a :: st) G h kc ks Q :=
  ev_get hd hn hf (Nat.le_of_ble_eq_true ha) hz (fun b base => by unfold ev_sv; rw [ht, hy]; rfl) kk
theorem ev_getN {ix a c k : Nat} (hd : ev_at mi pc = some (.getfield ix, nx, tg)) (hn : nx = pc + 3) (hf : ev_fl mi.1.cls ix c k) (ha : Nat.blt 0 a = true) (hz : ev_sh G a = some (.inl c)) (ht : (tyCl c k).isReference = true) (hy : ev_gr G a k = none) (kk : EvQ mi nx lo (.null :: st) G h kc ks Q) : EvQ mi pc lo (.ref a :: st) G h kc ks Q :=
  ev_get hd hn hf (Nat.le_of_ble_eq_true ha) hz (fun b base => by unfold ev_sv; rw [ht, hy]; rfl) kk
/-- putfield: the machine's part -/
theorem ev_put {ix a c k : Nat} {v : Value} {G' : Geo} {h' : Hp} (hd : ev_at mi pc = some (.putfield ix, nx, tg)) (hn : nx = pc + 3) (hf : ev_fl mi.1.cls ix c k) (hfin : (∃ q : vw_C, vwCl[c]? = some q ∧ (q.2.1 k).2.2.2 = false) ∨ mi.1.name = "<init>") (ha : 0 < a) (hz : ev_sh G a = some (.inl c))
    (hfit : ∀ b base, narrow (tyCl c k) (ev_rv b base v) = ev_rv b base v ∧ fits (tyCl c k) (ev_rv b base v) = true) (hl : G'.length = G.length) (hsh : ∀ i, ev_sh G' i = ev_sh G i) (hg : ∀ i j, i ≠ a → ev_gr G' i j = ev_gr G i j) (hh : ∀ i j, i ≠ a → h' i j = h i j)
    (hv : ∀ b base, ev_sv b base (tyCl c k) G' h' a k = ev_rv b base v) (hvn : ∀ b base j, j ≠ k → ev_sv b base (tyCl c j) G' h' a j = ev_sv b base (tyCl c j) G h a j) (kk : EvQ mi nx lo st G' h' kc ks Q) : EvQ mi pc lo (v :: .ref a :: st) G h kc ks Q := by
  subst hn
  intro p l e R s m args below meth c0 b base ls H locs cells slots Qf C hL hS hB hcc hss hret
  obtain ⟨q, e1, e2, e3, e4, e5, e6, e7⟩ := hf
  obtain ⟨q', cC, iS, g1, gK, cell, q1, q2, q3, q4⟩ := hS.obj ha hz
  rw [e1] at g1
  cases g1
  obtain ⟨gS, gfc, kC, gkC, gkind⟩ := id gK
  obtain ⟨cf, kf, fi, f, hi, hsl⟩ := gS k e2
  have hts := C.2.2.2.2.2.1
  have hst := (u_facts (args := args) gfc gkC (u_lays hts e3 e2) hi).1
  have hap : ∀ x y, x < q.2.2 → y < q.2.2 → x ≠ y → iS x ≠ iS y := by
    intro x y hx hy hne
    obtain ⟨_, _, _, fa, hia, ea⟩ := gS x hx
    obtain ⟨_, _, _, fb, hib, eb⟩ := gS y hy
    rw [← ea, ← eb]
    refine u_apart (u_lays hts e3 hx) (u_lays hts e3 hy) hia hib ?_
    rw [(State.fieldFound?_type hia (e5 x hx)).1, (State.fieldFound?_type hib (e5 y hy)).1]
    exact e6 x hx y hy hne
  have hlay := hts _ (e3 _ (u_in_lay e2))
  have fin : ∀ H' : Heap, H'[base + a]? = some (cell.setSlot f.slot (ev_rv b base v)) → H'.size = H.size → (∀ x, x ≠ base + a → H'[x]? = H[x]?) → W p l e R s m args below meth c0 H' (locs ++ [⟨base + a, f.slot⟩]) cells slots Qf (F0 m (pc + 3) ls (st.map (ev_rv b base))) := by
    intro H' o1 o2 o3
    refine kk p l e R s m args below meth c0 b base ls H' _ cells slots Qf C hL (hS.upd ha hz hl hsh hg hh o2 o3 ⟨q, cC, iS, e1, gK, ?_⟩) (hB.put (by omega)) hcc hss hret
    rw [hsl] at o1
    refine t_OB.to (V := updV (fun j => ev_sv b base (tyCl c j) G h a j) k (ev_rv b base v)) ⟨_, o1, q2, q3, t_set q4 hap e2 (ev_rv b base v)⟩ (fun j _ => ?_)
    by_cases hj : j = k
    · subst hj; rw [hv]; simp [updV]
    · rw [hvn b base j hj]; simp [updV, hj]
  have hcell : H[base + a]? = some cell := q1
  show W p l e R s m args below meth c0 H locs cells slots Qf (F0 m pc ls (ev_rv b base v :: .ref (ev_ad b base a) :: st.map (ev_rv b base)))
  rw [ev_ad_pos ha]
  unfold u_lay at hlay
  cases hb : (q.2.1 k).2.2.2 with
  | false =>
    rw [if_neg (by rw [hb]; decide)] at hlay
    have h6 := u_store (v := ev_rv b base v) gfc gkC gkind hlay hi (e5 k e2) (hfit b base).1 (hfit b base).2
    exact W.putK C.1 C.2.1 (f := f) ⟨C.2.2.2.2.1, hts _ e4, ⟨_, _, _, hi⟩, hst⟩ (by rw [q2]; exact h6) hcell q3 (by rw [hsl]; exact k2_hasslot (q4 k e2)) rfl rfl (ev_dec C hd rfl) fin
  | true =>
    rw [if_pos hb] at hlay
    have hin : meth.name = "<init>" := by
      rcases hfin with ⟨q'', z1, z2⟩ | z
      · rw [e1] at z1; cases z1; rw [hb] at z2; cases z2
      · rw [C.2.2.2.2.2.2.2.1]; exact z
    have hcf : m.cls = cf := by
      obtain ⟨_, _, c', _, _, _, -, -, hf', -, -, -, hown2, -⟩ := Cond.laysFinal_spec hlay
      have z1 : c' = cf := by have := hi.symm.trans hf'; simp at this; exact this.1.symm
      rw [e7 hb] at hown2
      rw [← z1]; exact Option.some.inj (C.2.2.2.2.1.symm.trans hown2)
    have h6 := u_fits (v := ev_rv b base v) gfc gkC gkind (Or.inr hlay) hi (e5 k e2) (hfit b base).1 (hfit b base).2
    exact W.putFinK C.1 C.2.1 C.2.2.2.2.1 (hts _ e4) hi hst hcf hin (by rw [q2]; exact h6) hcell q3 (by rw [hsl]; exact k2_hasslot (q4 k e2)) rfl rfl (ev_dec C hd rfl) fin
theorem ev_putX {ix a c k : Nat} {x : Int32} (hd : ev_at mi pc = some (.putfield ix, nx, tg)) (hn : nx = pc + 3) (hf : ev_fl mi.1.cls ix c k) (hfin : (∃ q : vw_C, vwCl[c]? = some q ∧ (q.2.1 k).2.2.2 = false) ∨ mi.1.name = "<init>") (ha : 0 < a) (hz : ev_sh G a = some (.inl c)) (ht : (tyCl c k).isReference = false)
    (hfit : narrow (tyCl c k) (.int x) = .int x ∧ fits (tyCl c k) (.int x) = true) (kk : EvQ mi nx lo st G (ev_set h a k x) kc ks Q) : EvQ mi pc lo (.int x :: .ref a :: st) G h kc ks Q := by
  refine ev_put (v := .int x) hd hn hf hfin ha hz (fun _ _ => hfit) rfl (fun _ => rfl) (fun _ _ _ => rfl) (fun i j hi => ev_set_ne hi) (fun b base => ?_) (fun b base j hj => ?_) kk
  · unfold ev_sv; rw [ht]
    show Value.int (ev_set h a k x a k) = .int x
    unfold ev_set; rw [if_pos ⟨rfl, rfl⟩]
  · have e : ev_set h a k x a j = h a j := if_neg (fun q => hj q.2)
    unfold ev_sv
    dsimp only
    rw [e]
theorem ev_putI {ix a c k : Nat} {x : Int32} {q : vw_C} (hd : ev_at mi pc = some (.putfield ix, nx, tg)) (hn : nx = pc + 3) (hf : ev_fl mi.1.cls ix c k) (hq : vwCl[c]? = some q) (hfin : (q.2.1 k).2.2.2 = false) (ha : Nat.blt 0 a = true) (hz : ev_sh G a = some (.inl c)) (ht : tyCl c k = .int)
    (kk : EvQ mi nx lo st G (ev_set h a k x) kc ks Q) : EvQ mi pc lo (.int x :: .ref a :: st) G h kc ks Q :=
  ev_putX hd hn hf (Or.inl ⟨q, hq, hfin⟩) (Nat.le_of_ble_eq_true ha) hz (by rw [ht]; rfl) (by rw [ht]; exact ⟨rfl, rfl⟩) kk
theorem ev_z01 {x : Int32} (hx : x = 0 ∨ x = 1) : narrow .boolean (.int x) = .int x ∧ fits .boolean (.int x) = true := by
  rcases hx with rfl | rfl <;> decide
theorem ev_putZ {ix a c k : Nat} {x : Int32} {q : vw_C} (hd : ev_at mi pc = some (.putfield ix, nx, tg)) (hn : nx = pc + 3) (hf : ev_fl mi.1.cls ix c k) (hq : vwCl[c]? = some q) (hfin : (q.2.1 k).2.2.2 = false) (ha : Nat.blt 0 a = true) (hz : ev_sh G a = some (.inl c)) (ht : tyCl c k = .boolean) (hx : x = 0 ∨ x = 1)
    (kk : EvQ mi nx lo st G (ev_set h a k x) kc ks Q) : EvQ mi pc lo (.int x :: .ref a :: st) G h kc ks Q :=
  ev_putX hd hn hf (Or.inl ⟨q, hq, hfin⟩) (Nat.le_of_ble_eq_true ha) hz (by rw [ht]; rfl) (by rw [ht]; exact ev_z01 hx) kk
theorem ev_gr_rset {G : Geo} {a k : Nat} {r : Option Nat} (hk : ∃ c, G[a]? = some c ∧ k < c.2.length) : ev_gr (ev_rset G a k r) a k = r := by
  obtain ⟨c, h1, h2⟩ := hk
  unfold ev_gr ev_rset
  rw [List.getElem?_modify_eq, h1]
  show (match (c.2.set k r)[k]? with | none => none | some r => r) = r
  rw [List.getElem?_set_self h2]
theorem ev_gr_rset_k {G : Geo} {a k j : Nat} {r : Option Nat} (hj : j ≠ k) : ev_gr (ev_rset G a k r) a j = ev_gr G a j := by
  unfold ev_gr ev_rset
  rw [List.getElem?_modify_eq]
  cases hc : G[a]? with
  | none => rfl
  | some c =>
    show (match (c.2.set k r)[j]? with | none => none | some r => r) = _
    rw [List.getElem?_set_ne (Ne.symm hj)]
    rfl
def ev_wide (G : Geo) (a k : Nat) : Bool := match G[a]? with
  | none => false
  | some c => Nat.blt k c.2.length
theorem ev_wide_of {G : Geo} {a k : Nat} (h : ev_wide G a k = true) : ∃ c, G[a]? = some c ∧ k < c.2.length := by
  unfold ev_wide at h
  cases hc : G[a]? with
  | none => rw [hc] at h; cases h
  | some c => rw [hc] at h; exact ⟨c, rfl, Nat.le_of_ble_eq_true h⟩
theorem ev_ref_fits {ty : FieldType} (ht : ty.isReference = true) (b base : Nat) (r : Option Nat) : narrow ty (ev_rv b base (ev_vf r)) = ev_rv b base (ev_vf r) ∧ fits ty (ev_rv b base (ev_vf r)) = true := by
  cases r <;> cases ty <;> first | (exact ⟨rfl, rfl⟩) | (cases ht)
theorem ev_putR0 {ix a c k : Nat} (r : Option Nat) (hd : ev_at mi pc = some (.putfield ix, nx, tg)) (hn : nx = pc + 3) (hf : ev_fl mi.1.cls ix c k) (hfin : (∃ q : vw_C, vwCl[c]? = some q ∧ (q.2.1 k).2.2.2 = false) ∨ mi.1.name = "<init>") (ha : Nat.blt 0 a = true) (hz : ev_sh G a = some (.inl c)) (ht : (tyCl c k).isReference = true) (hw : ev_wide G a k = true)
    (kk : EvQ mi nx lo st (ev_rset G a k r) h kc ks Q) : EvQ mi pc lo (ev_vf r :: .ref a :: st) G h kc ks Q := by
  refine ev_put (v := ev_vf r) (G' := ev_rset G a k r) (h' := h) hd hn hf hfin (Nat.le_of_ble_eq_true ha) hz (fun b base => ev_ref_fits ht b base r) ev_rset_len (fun i => ev_sh_rset) (fun i j hi => ev_gr_rset_ne hi) (fun _ _ _ => rfl) (fun b base => ?_) (fun b base j hj => ?_) kk
  · unfold ev_sv
    rw [if_pos ht, ev_gr_rset (ev_wide_of hw), ev_rv_vf]
  · unfold ev_sv
    rw [ev_gr_rset_k hj]
theorem ev_putR {ix a c k y : Nat} (hd : ev_at mi pc = some (.putfield ix, nx, tg)) (hn : nx = pc + 3) (hf : ev_fl mi.1.cls ix c k) (hfin : (∃ q : vw_C, vwCl[c]? = some q ∧ (q.2.1 k).2.2.2 = false) ∨ mi.1.name = "<init>") (ha : Nat.blt 0 a = true) (hz : ev_sh G a = some (.inl c)) (ht : (tyCl c k).isReference = true) (hw : ev_wide G a k = true)
    (kk : EvQ mi nx lo st (ev_rset G a k (some y)) h kc ks Q) : EvQ mi pc lo (.ref y :: .ref a :: st) G h kc ks Q := ev_putR0 (some y) hd hn hf hfin ha hz ht hw kk
theorem ev_putN {ix a c k : Nat} (hd : ev_at mi pc = some (.putfield ix, nx, tg)) (hn : nx = pc + 3) (hf : ev_fl mi.1.cls ix c k) (hfin : (∃ q : vw_C, vwCl[c]? = some q ∧ (q.2.1 k).2.2.2 = false) ∨ mi.1.name = "<init>") (ha : Nat.blt 0 a = true) (hz : ev_sh G a = some (.inl c)) (ht : (tyCl c k).isReference = true) (hw : ev_wide G a k = true)
    (kk : EvQ mi nx lo st (ev_rset G a k none) h kc ks Q) : EvQ mi pc lo (.null :: .ref a :: st) G h kc ks Q := ev_putR0 none hd hn hf hfin ha hz ht hw kk
/-! arrays -/
theorem ev_ivp {i : Int32} {n : Nat} {cell : Cell} (hin : vp_in i n) (hs : cell.slots.size = n) : ¬ (i < 0 ∨ cell.slots.size ≤ i.toNatClampNeg) := by rw [hs]; exact hin
theorem ev_lt_of_in {i : Int32} {n : Nat} (hin : vp_in i n) : i.toNatClampNeg < n := Nat.not_le.mp fun q => hin (Or.inr q)
theorem ev_iald {a n : Nat} {i : Int32} (hd : ev_at mi pc = some (.iaload, nx, tg)) (hn : nx = pc + 1) (hz : ev_sh G a = some (.inr (.int, n))) (hin : vp_in i n) (kk : EvQ mi nx lo (.int (h a i.toNatClampNeg) :: st) G h kc ks Q) : EvQ mi pc lo (.int i :: .ref a :: st) G h kc ks Q := by
  subst hn
  refine ev_up (fun p l e R s m args below meth c0 b base ls H locs cells slots Qf C hL hS w => ?_) kk
  obtain ⟨cell, q1, q2, q3, q4, q5⟩ := hS.arr hz
  exact W.iald C.1 C.2.1 q1 q2 q3 (ev_ivp hin q4) (q5 _ (ev_lt_of_in hin)) rfl rfl (ev_dec C hd rfl) w
theorem ev_zald {a n : Nat} {i : Int32} (hd : ev_at mi pc = some (.baload, nx, tg)) (hn : nx = pc + 1) (hz : ev_sh G a = some (.inr (.boolean, n))) (hin : vp_in i n) (kk : EvQ mi nx lo (.int (h a i.toNatClampNeg) :: st) G h kc ks Q) : EvQ mi pc lo (.int i :: .ref a :: st) G h kc ks Q := by
  subst hn
  refine ev_up (fun p l e R s m args below meth c0 b base ls H locs cells slots Qf C hL hS w => ?_) kk
  obtain ⟨cell, q1, q2, q3, q4, q5⟩ := hS.arr hz
  exact W.zald C.1 C.2.1 q1 q2 q3 (ev_ivp hin q4) (q5 _ (ev_lt_of_in hin)) rfl rfl (ev_dec C hd rfl) w
theorem ev_bald {a n : Nat} {i : Int32} (hd : ev_at mi pc = some (.baload, nx, tg)) (hn : nx = pc + 1) (hz : ev_sh G a = some (.inr (.byte, n))) (hin : vp_in i n) (kk : EvQ mi nx lo (.int (h a i.toNatClampNeg) :: st) G h kc ks Q) : EvQ mi pc lo (.int i :: .ref a :: st) G h kc ks Q := by
  subst hn
  refine ev_up (fun p l e R s m args below meth c0 b base ls H locs cells slots Qf C hL hS w => ?_) kk
  obtain ⟨cell, q1, q2, q3, q4, q5⟩ := hS.arr hz
  exact W.bald C.1 C.2.1 q1 q2 q3 (ev_ivp hin q4) (q5 _ (ev_lt_of_in hin)) rfl rfl (ev_dec C hd rfl) w
theorem ev_aald {a n y : Nat} {ty : FieldType} {i : Int32} (hd : ev_at mi pc = some (.aaload, nx, tg)) (hn : nx = pc + 1) (hz : ev_sh G a = some (.inr (ty, n))) (ht : ty.isReference = true) (hin : vp_in i n) (hy : ev_gr G a i.toNatClampNeg = some y) (kk : EvQ mi nx lo (.ref y :: st) G h kc ks Q) : EvQ mi pc lo (.int i :: .ref a :: st) G h kc ks Q := by
  subst hn
  refine ev_up (fun p l e R s m args below meth c0 b base ls H locs cells slots Qf C hL hS w => ?_) kk
  obtain ⟨cell, q1, q2, q3, q4, q5⟩ := hS.arr hz
  refine W.aald C.1 C.2.1 q1 q2 ht q3 (ev_ivp hin q4) (v := .ref (ev_ad b base y)) ?_ rfl rfl (ev_dec C hd rfl) w
  rw [q5 _ (ev_lt_of_in hin)]
  unfold ev_sv
  rw [if_pos ht, hy]
  rfl
theorem ev_alen {a n : Nat} {ty : FieldType} (hd : ev_at mi pc = some (.arraylength, nx, tg)) (hn : nx = pc + 1) (hz : ev_sh G a = some (.inr (ty, n))) (kk : EvQ mi nx lo (.int (nI n) :: st) G h kc ks Q) : EvQ mi pc lo (.ref a :: st) G h kc ks Q := by
  subst hn
  refine ev_up (fun p l e R s m args below meth c0 b base ls H locs cells slots Qf C hL hS w => ?_) kk
  obtain ⟨cell, q1, q2, q3, q4, q5⟩ := hS.arr hz
  exact W.alen C.1 C.2.1 q1 q2 (by rw [q4]; rfl) rfl rfl (ev_dec C hd rfl) w
/-- behind a store: the cell has the new value -/
theorem ev_S.stored {b base : Nat} {U : State} {H H' : Heap} (hS : ev_S b base G h U H) {a n k : Nat} {x : Int32} {ty : FieldType} {cA : ClassId} (ha : 0 < a) (hz : ev_sh G a = some (.inr (ty, n))) (ht : ty.isReference = false) (hA : ArrOfT U cA ty)
    (o1 : H'[base + a]? = some ((arrV cA n (fun j => ev_sv b base ty G h a j)).setSlot k (.int x))) (o2 : H'.size = H.size) (o3 : ∀ q, q ≠ base + a → H'[q]? = H[q]?) : ev_S b base G (ev_set h a k x) U H' := by
  refine hS.upd ha hz rfl (fun _ => rfl) (fun _ _ _ => rfl) (fun i j hi => ev_set_ne hi) o2 o3 ⟨cA, hA, ?_⟩
  rw [o1, arrV_store]
  refine congrArg (fun f => some (arrV cA n f)) (funext fun j => ?_)
  unfold ev_sv ev_set
  rw [ht]
  by_cases e : j = k
  · subst e; simp [updV]
  · simp [updV, e]
theorem ev_iast {a n : Nat} {i x : Int32} (hd : ev_at mi pc = some (.iastore, nx, tg)) (hn : nx = pc + 1) (ha : Nat.blt 0 a = true) (hz : ev_sh G a = some (.inr (.int, n))) (hin : vp_in i n) (kk : EvQ mi nx lo st G (ev_set h a i.toNatClampNeg x) kc ks Q) : EvQ mi pc lo (.int x :: .int i :: .ref a :: st) G h kc ks Q := by
  subst hn
  have ha : 0 < a := Nat.le_of_ble_eq_true ha
  intro p l e R s m args below meth c0 b base ls H locs cells slots Qf C hL hS hB hcc hss hret
  obtain ⟨cA, g1, g2⟩ := hS.2.2.2 a _ ha hz
  show W p l e R s m args below meth c0 H locs cells slots Qf (F0 m pc ls (.int x :: .int i :: .ref (ev_ad b base a) :: st.map (ev_rv b base)))
  rw [ev_ad_pos ha]
  exact W.iast C.1 C.2.1 g2 (g1 _ _) (fun q => by cases q) (ev_ivp hin (arrV_size _ _ _)) rfl rfl (ev_dec C hd rfl) (fun H' o1 o2 o3 => kk p l e R s m args below meth c0 b base ls H' _ cells slots Qf C hL (hS.stored ha hz rfl g1 o1 o2 o3) (hB.put (by omega)) hcc hss hret)
theorem ev_bast {a n : Nat} {i x : Int32} (hd : ev_at mi pc = some (.bastore, nx, tg)) (hn : nx = pc + 1) (ha : Nat.blt 0 a = true) (hz : ev_sh G a = some (.inr (.byte, n))) (hin : vp_in i n) (kk : EvQ mi nx lo st G (ev_set h a i.toNatClampNeg x.toInt8.toInt32) kc ks Q) : EvQ mi pc lo (.int x :: .int i :: .ref a :: st) G h kc ks Q := by
  subst hn
  have ha : 0 < a := Nat.le_of_ble_eq_true ha
  intro p l e R s m args below meth c0 b base ls H locs cells slots Qf C hL hS hB hcc hss hret
  obtain ⟨cA, g1, g2⟩ := hS.2.2.2 a _ ha hz
  show W p l e R s m args below meth c0 H locs cells slots Qf (F0 m pc ls (.int x :: .int i :: .ref (ev_ad b base a) :: st.map (ev_rv b base)))
  rw [ev_ad_pos ha]
  exact W.bast C.1 C.2.1 g2 (g1 _ _) (fun q => by cases q) (ev_ivp hin (arrV_size _ _ _)) rfl rfl (ev_dec C hd rfl) (fun H' o1 o2 o3 => kk p l e R s m args below meth c0 b base ls H' _ cells slots Qf C hL (hS.stored ha hz rfl g1 o1 o2 o3) (hB.put (by omega)) hcc hss hret)
theorem ev_zast {a n : Nat} {i x : Int32} (hd : ev_at mi pc = some (.bastore, nx, tg)) (hn : nx = pc + 1) (ha : Nat.blt 0 a = true) (hz : ev_sh G a = some (.inr (.boolean, n))) (hin : vp_in i n) (hx : x = 0 ∨ x = 1) (kk : EvQ mi nx lo st G (ev_set h a i.toNatClampNeg x) kc ks Q) : EvQ mi pc lo (.int x :: .int i :: .ref a :: st) G h kc ks Q := by
  subst hn
  have ha : 0 < a := Nat.le_of_ble_eq_true ha
  intro p l e R s m args below meth c0 b base ls H locs cells slots Qf C hL hS hB hcc hss hret
  obtain ⟨cA, g1, g2⟩ := hS.2.2.2 a _ ha hz
  show W p l e R s m args below meth c0 H locs cells slots Qf (F0 m pc ls (.int x :: .int i :: .ref (ev_ad b base a) :: st.map (ev_rv b base)))
  rw [ev_ad_pos ha]
  refine W.zast C.1 C.2.1 g2 (g1 _ _) (fun q => by cases q) (ev_ivp hin (arrV_size _ _ _)) rfl rfl (ev_dec C hd rfl) (fun H' o1 o2 o3 => ?_)
  rw [(ev_z01 hx).1] at o1
  exact kk p l e R s m args below meth c0 b base ls H' _ cells slots Qf C hL (hS.stored ha hz rfl g1 o1 o2 o3) (hB.put (by omega)) hcc hss hret
end EVH
end
section
/-! methods: EvM is a contract over the abstract heap; calls -/
def ev_ws (mi : MI) : List Cond := .code mi.1 (mi_C mi) (mi_L mi) (mi_R mi) :: gwl
def ev_rm (mi : MI) (kc ks : Nat) : Room := { frames := mi_F mi, cells := kc, slots := ks, locals := mi_S mi }
def ev_Pc (b base : Nat) (args : List Value) (G : Geo) (h : Hp) : Array Value → State → Prop := fun v U => v = (args.map (ev_rv b base)).toArray ∧ ev_S b base G h U U.heap ∧ ev_N U
def ev_Qc (b base : Nat) (ret : Option FieldType) (Q : Pst) : Array Value → State → Outcome → State → Prop := fun _ _ o t => ∃ (v : Option Value) (G' : Geo) (h' : Hp), o = .returned (v.map (ev_rv b base)) ∧ Q v G' h' ∧ ev_rt ret v ∧ ev_S b base G' h' t t.heap
def EvM (mi : MI) (args : List Value) (G : Geo) (h : Hp) (kc ks : Nat) (Q : Pst) : Prop := ∀ (l : Launch) (b base : Nat), Met l mi.1 (ev_ws mi) (ev_rm mi kc ks) (ev_Pc b base args G h) (ev_Qc b base (mi_R mi) Q) kc ks (fun q => base < q)
theorem ev_N.same {u U : State} (hvm : u.vm = U.vm) (h : ev_N u) : ev_N U := ⟨fun q hq => va_Nw.same rfl hvm (h.1 q hq), over_moved (by rw [hvm]; exact Vm.Alike.refl U.vm) h.2⟩
theorem ev_Pc_blind (b base : Nat) (args : List Value) (G : Geo) (h : Hp) : FrameBlind (ev_Pc b base args G h) := by
  intro a U g mk hP
  obtain ⟨q1, q2, q3⟩ := hP
  exact ⟨q1, ev_S.moved (U := U.calling g mk a) (Vm.Alike.refl U.vm) q2, ev_N.same (U := U.calling g mk a) rfl q3⟩
theorem ev_rt_none {ret : Option FieldType} (h : ev_rt ret none) : ret = none := by
  cases ret with
  | none => rfl
  | some ty => cases h
theorem ev_rt_some {ret : Option FieldType} {w : Value} (h : ev_rt ret (some w)) : ∃ (ty : FieldType) (x : Int32), ret = some ty ∧ w = .int x ∧ narrow ty (.int x) = .int x := by
  cases ret with
  | none => cases h
  | some ty =>
    cases w with
    | int x => exact ⟨ty, x, rfl, rfl, h⟩
    | _ => cases h
theorem EvM.of {mi : MI} {args : List Value} {G : Geo} {h : Hp} {kc ks : Nat} {Q : Pst} (hp : plainName mi.1.cls = true) (hok : ev_ok mi) (hlen : Nat.ble (ev_al args).length (mi_L mi) = true) (k : EvQ mi 0 (ev_lo (mi_L mi) args) [] G h kc ks Q) : EvM mi args G h kc ks Q := by
  intro l b base
  refine Met.ofW (cc := mi_C mi) (maxL := mi_L mi) (ret := mi_R mi) hp rfl ?_
  intro p e s m av below meth c s₁ B hml hv
  obtain ⟨rfl, hS, hN⟩ := hv
  have hts0 := atoms_spec (ws := ev_ws mi) B.pre
  have C : ev_C mi p (headSpec (ev_ws mi) (ev_rm mi kc ks)).room s m (args.map (ev_rv b base)).toArray meth c := ⟨B.exec, B.bytes, hml, B.returns, findClass_of_methodNamed B.named, fun w hw => hts0 w (List.mem_cons_of_mem _ hw), B.notSynchronized, (name_of_methodNamed B.named B.method).1, Nat.le_refl _, Nat.le_refl _, hN, hok⟩
  have hl := lv_entry (args.map (ev_rv b base)) (n := mi_L mi) (by rw [ev_al_len]; exact Nat.le_of_ble_eq_true hlen)
  have hr := B.returns
  have hlocks : meth.locks = false := B.notSynchronized
  rw [lg_entry_eq]
  generalize ((lg_sl (args.map (ev_rv b base)) ++ List.replicate (mi_L mi - (lg_sl (args.map (ev_rv b base))).length) Slot.unset).toArray) = ls at hl ⊢
  refine k p l e _ s m _ below meth c b base ls s.heap [] 0 0 _ C ⟨_, hl, fun i v hv => ev_lo_in b base (mi_L mi) args i v hv⟩ hS (fun q hq => by cases hq) (by show 0 + kc ≤ kc; omega) (by show 0 + ks ≤ ks; omega) ?_
  intro v G' h' pc' nx tg ls' H' locs' hq hrt hS' hB' hd hn
  have hdd := ev_dec C hd hn
  refine W.cs (Nat.zero_add kc) (Nat.zero_add ks) ?_
  have hQ : ∀ t : State, t.heap = H' → s.WarmedH t.vm → ev_Qc b base (mi_R mi) Q (args.map (ev_rv b base)).toArray s (.returned (v.map (ev_rv b base))) t := fun t ht hW => ⟨v, G', h', rfl, hq, hrt, by rw [ht]; exact hS'.moved hW.alike⟩
  cases v with
  | none => exact W.vret B.exec B.bytes (by rw [hr]; exact ev_rt_none hrt) hQ hB' hdd hlocks
  | some w =>
    obtain ⟨ty, x, z1, rfl, z2⟩ := ev_rt_some hrt
    exact W.zret (ty := ty) B.exec B.bytes (by rw [hr, z1]) z2 hQ hB' hdd hlocks
theorem EvM.mono {mi : MI} {args : List Value} {G : Geo} {h : Hp} {kc ks : Nat} {Q Q' : Pst} (k : EvM mi args G h kc ks Q) (hq : ∀ v G' h', Q v G' h' → Q' v G' h') : EvM mi args G h kc ks Q' := by
  intro l b base p e ha hc hk s m av below hf hap hP hK
  obtain ⟨n, o, h1, h2, h3, ⟨⟨v, G', h', g1, g2, g3, g4⟩, h5⟩⟩ := k l b base p e ha hc hk s m av below hf hap hP hK
  exact ⟨n, o, h1, h2, h3, ⟨⟨v, G', h', g1, hq _ _ _ g2, g3, g4⟩, h5⟩⟩
/-- behind a call -/
theorem ev_run {p : Program} {l : Launch} {e : Env} {R : Room} {s : State} {m : MethodId} {args : Array Value} {below : List Frame} {meth : Method} {c : Code} {H : Heap} {locs : List Loc} {cells slots kc1 ks1 : Nat} {Qf : State → Prop} {pc : Nat} {ls : Array Slot} {st0 rest : List Value} {aa : Array Value} {b base : Nat} {ret : Option FieldType} {Q1 : Pst}
    (hr : va_Run p l e R s m args below meth c H locs cells slots kc1 ks1 (F0 m pc ls st0) rest (ev_Qc b base ret Q1 aa) (fun q => base < q)) (hB : ev_B base locs)
    (kk : ∀ (v : Option Value) (G' : Geo) (h' : Hp) (H1 : Heap) (locs1 : List Loc), Q1 v G' h' → ev_rt ret v → ev_S b base G' h' s H1 → ev_B base locs1 → W p l e R s m args below meth c H1 locs1 (cells + kc1) (slots + ks1) Qf (F0 m (pc + 3) ls ((v.map (ev_rv b base)).toList ++ rest))) : W p l e R s m args below meth c H locs cells slots Qf (F0 m pc ls st0) := by
  intro T hT X
  obtain ⟨v, st₀, t, T', L, h0, X', hL, e1, e2, ⟨v', G', h', hv, hq, hrt, hS'⟩, st⟩ := hr T hT X
  cases hv
  have hal : t.vm.Alike s.vm := by rw [← e2]; exact X'.warmed.alike.symm
  obtain ⟨t2, a1, b1⟩ := kk v' G' h' T'.heap (locs ++ L) hq hrt (by rw [e1]; exact hS'.moved hal) (hB.app hL) T' rfl X'
  exact ⟨t2, st t2 a1, b1⟩
def ev_lk (own : String) (ix : Nat) (ce : MI) (n : Nat) : Prop := Cond.methodLink own ix ce.1 ∈ gwl ∧ Cond.code ce.1 (mi_C ce) (mi_L ce) (mi_R ce) ∈ gwl ∧ Cond.initialized ce.1.cls ∈ gwl ∧ ce.1.cls ≠ "java/lang/invoke/MethodHandle" ∧ ce.1.cls ≠ "java/lang/invoke/VarHandle" ∧ (parseMethodDescriptor ce.1.desc).map (fun d => d.parameters.length) = some n
def ev_ln (own : String) (ix : Nat) (ce : MI) (n : Nat) : Prop := (∃ host : String, (own, ix, ce.1, host) ∈ nest_w) ∧ Cond.code ce.1 (mi_C ce) (mi_L ce) (mi_R ce) ∈ gwl ∧ Cond.initialized ce.1.cls ∈ gwl ∧ ce.1.cls ≠ "java/lang/invoke/MethodHandle" ∧ ce.1.cls ≠ "java/lang/invoke/VarHandle" ∧ (parseMethodDescriptor ce.1.desc).map (fun d => d.parameters.length) = some n
abbrev ev_room (mi ce : MI) : Prop := (Nat.ble (mi_F ce + 1) (mi_F mi) && Nat.ble (8 + (mi_L ce + 11) + mi_S ce) (mi_S mi)) = true
theorem ev_room_of {mi ce : MI} (h : ev_room mi ce) {R : Room} (h1 : mi_F mi ≤ R.frames) (h2 : mi_S mi ≤ R.locals) : mi_F ce + 1 ≤ R.frames ∧ 8 + (mi_L ce + 11) + mi_S ce ≤ R.locals := by
  unfold ev_room at h
  rw [Bool.and_eq_true] at h
  have z1 := Nat.le_of_ble_eq_true h.1
  have z2 := Nat.le_of_ble_eq_true h.2
  exact ⟨by omega, by omega⟩
theorem ev_ws_good {mi : MI} (h : Cond.code mi.1 (mi_C mi) (mi_L mi) (mi_R mi) ∈ gwl) : GoodIn gwl (ev_ws mi) := by
  intro w hw
  rcases List.mem_cons.mp hw with rfl | hw
  · exact gwl_good _ h
  · exact gwl_good _ hw
theorem ev_sum (b base : Nat) : ∀ st : List Value, ((st.map (ev_rv b base)).map fun v => v.category).sum = (st.map fun v => v.category).sum
  | [] => rfl
  | v :: st => by rw [List.map_cons, List.map_cons, List.map_cons, List.sum_cons, List.sum_cons, ev_rv_cat, ev_sum b base st]
theorem ev_Pc_at {b base : Nat} {G : Geo} {h : Hp} {s : State} {H : Heap} (hS : ev_S b base G h s H) (hN : ev_N s) (args : List Value) : ∀ U : State, U.heap = H → s.WarmedH U.vm → ev_Pc b base args G h (args.map (ev_rv b base)).toArray U := fun U hU hW => ⟨rfl, by rw [hU]; exact hS.moved hW.alike, hN.moved hW⟩
section EVC
variable {mi ce : MI} {pc nx tg ix n : Nat} {lo : List (Option Value)} {st : List Value} {G : Geo} {h : Hp} {kc ks kc1 ks1 : Nat} {Q Q1 : Pst}
/-- the call is run, whatever kind it is of -/
theorem ev_call {As : List Value} {recv : List Value} (hn : nx = pc + 3)
    (hr : ∀ (p : Program) (l : Launch) (e : Env) (R : Room) (s : State) (m : MethodId) (args : Array Value) (below : List Frame) (meth : Method) (c : Code) (b base : Nat) (ls : Array Slot) (H : Heap) (locs : List Loc) (cells slots : Nat), ev_C mi p R s m args meth c → ls.size = mi_L mi → ev_S b base G h s H → cells + kc1 ≤ R.cells → slots + ks1 ≤ R.slots → ∃ aa : Array Value,
      va_Run p l e R s m args below meth c H locs cells slots kc1 ks1 (F0 m pc ls ((As.reverse ++ recv ++ st).map (ev_rv b base))) (st.map (ev_rv b base)) (ev_Qc b base (mi_R ce) Q1 aa) (fun q => base < q))
    (kk : ∀ v G' h', Q1 v G' h' → ev_rt (mi_R ce) v → EvQ mi nx lo (v.toList ++ st) G' h' kc ks Q) : EvQ mi pc lo (As.reverse ++ recv ++ st) G h (kc1 + kc) (ks1 + ks) Q := by
  subst hn
  intro p l e R s m args below meth c b base ls H locs cells slots Qf C hL hS hB hcc hss hret
  obtain ⟨aa, hrun⟩ := hr p l e R s m args below meth c b base ls H locs cells slots C (by obtain ⟨l0, hl, -⟩ := hL; exact hl.1) hS (by omega) (by omega)
  refine ev_run hrun hB (fun v G' h' H1 locs1 hq hrt hS1 hB1 => ?_)
  have key := kk v G' h' hq hrt p l e R s m args below meth c b base ls H1 locs1 (cells + kc1) (slots + ks1) Qf C hL hS1 hB1 (by omega) (by omega) (fun v2 G2 h2 pc2 nx2 tg2 ls2 H2 locs2 q1 q2 q3 q4 q5 q6 => by
    have := hret v2 G2 h2 pc2 nx2 tg2 ls2 H2 locs2 q1 q2 q3 q4 q5 q6
    rw [← Nat.add_assoc, ← Nat.add_assoc] at this
    exact this)
  rw [List.map_append] at key
  cases v with
  | none => exact key
  | some w => exact key
theorem ev_invS0 {As : List Value} (hd : ev_at mi pc = some (.invokestatic ix, nx, tg)) (hn : nx = pc + 3) (hk : ev_lk mi.1.cls ix ce n) (hst : Cond.static ce.1 ∈ gwl) (hlen : As.length = n) (hR : ev_room mi ce) (hw : (st.map fun v => v.category).sum ≤ 8) (hM : EvM ce As G h kc1 ks1 Q1)
    (kk : ∀ v G' h', Q1 v G' h' → ev_rt (mi_R ce) v → EvQ mi nx lo (v.toList ++ st) G' h' kc ks Q) : EvQ mi pc lo (As.reverse ++ [] ++ st) G h (kc1 + kc) (ks1 + ks) Q := by
  obtain ⟨k1, k2, k3, k4, k5, k6⟩ := hk
  refine ev_call (ce := ce) (Q1 := Q1) (recv := []) hn (fun p l e R s m args below meth c b base ls H locs cells slots C hls hS hcc hss => ⟨(As.map (ev_rv b base)).toArray, ?_⟩) kk
  have hts := C.2.2.2.2.2.1
  have cb : CallB R s args mi.1.cls ix ce.1 (mi_C ce) (mi_L ce) (mi_R ce) (ev_ws ce) (ev_rm ce kc1 ks1) kc1 ks1 n := callB_of n hts (ev_ws_good k2) rfl rfl rfl (hts _ k3) (hts _ k1) ⟨k4, k5, k6⟩ (ev_room_of hR C.2.2.2.2.2.2.2.2.1 C.2.2.2.2.2.2.2.2.2.1)
  refine va_runS (Ts := gwl) (own := mi.1.cls) ⟨C.1, C.2.1, C.2.2.1, C.2.2.2.2.1, hts⟩ (hM l b base) ⟨cb, hts _ hst⟩ ⟨ev_Pc_blind b base As G h, ev_Pc_at hS C.2.2.2.2.2.2.2.2.2.2.1 As⟩ rfl (by rw [List.length_map]; exact hlen) hls ?_ (lv_room (by rw [ev_sum]; exact hw)) (ev_dec C hd hn) ⟨hcc, hss⟩
  show (As.reverse ++ [] ++ st).map (ev_rv b base) = _
  rw [List.append_nil, List.map_append, List.map_reverse]
theorem ev_invSN0 {As : List Value} (hd : ev_at mi pc = some (.invokestatic ix, nx, tg)) (hn : nx = pc + 3) (hk : ev_ln mi.1.cls ix ce n) (hst : Cond.static ce.1 ∈ gwl) (hlen : As.length = n) (hR : ev_room mi ce) (hw : (st.map fun v => v.category).sum ≤ 8) (hM : EvM ce As G h kc1 ks1 Q1)
    (kk : ∀ v G' h', Q1 v G' h' → ev_rt (mi_R ce) v → EvQ mi nx lo (v.toList ++ st) G' h' kc ks Q) : EvQ mi pc lo (As.reverse ++ [] ++ st) G h (kc1 + kc) (ks1 + ks) Q := by
  obtain ⟨⟨host, k1⟩, k2, k3, k4, k5, k6⟩ := hk
  refine ev_call (ce := ce) (Q1 := Q1) (recv := []) hn (fun p l e R s m args below meth c b base ls H locs cells slots C hls hS hcc hss => ⟨(As.map (ev_rv b base)).toArray, ?_⟩) kk
  have hts := C.2.2.2.2.2.1
  have hN := C.2.2.2.2.2.2.2.2.2.2.1
  have cb : va_CN R s args mi.1.cls ix ce.1 host (mi_C ce) (mi_L ce) (mi_R ce) (ev_ws ce) (ev_rm ce kc1 ks1) kc1 ks1 n := va_cnB n hts (ev_ws_good k2) rfl rfl rfl (hN.1 _ k1) (hts _ k3) ⟨k4, k5, k6⟩ (ev_room_of hR C.2.2.2.2.2.2.2.2.1 C.2.2.2.2.2.2.2.2.2.1)
  refine va_runSN (Ts := gwl) (own := mi.1.cls) ⟨C.1, C.2.1, C.2.2.1, C.2.2.2.2.1, hts⟩ (hM l b base) ⟨cb, hts _ hst, trivial⟩ ⟨ev_Pc_blind b base As G h, ev_Pc_at hS hN As⟩ rfl (by rw [List.length_map]; exact hlen) hls ?_ (lv_room (by rw [ev_sum]; exact hw)) (ev_dec C hd hn) ⟨hcc, hss⟩
  show (As.reverse ++ [] ++ st).map (ev_rv b base) = _
  rw [List.append_nil, List.map_append, List.map_reverse]
/-- a receiver of ours -/
theorem ev_recv {b base a c : Nat} {s : State} {H : Heap} (hS : ev_S b base G h s H) (ha : 0 < a) (hz : ev_sh G a = some (.inl c)) {C : String} (hc : (vwCl[c]?).map (fun q => q.1) = some C) : ∃ cell : Cell, H[ev_ad b base a]? = some cell ∧ cell.vm.isStatics = false ∧ s.vm.findClass C = some cell.cls := by
  obtain ⟨q, cC, iS, g1, ⟨-, gfc, -⟩, cell, q1, q2, q3, -⟩ := hS.obj ha hz
  rw [g1] at hc
  have hc : q.1 = C := Option.some.inj hc
  rw [ev_ad_pos ha]
  exact ⟨cell, q1, by rw [q3]; rfl, by rw [← hc, q2]; exact gfc⟩
theorem ev_invV0 {As : List Value} {a c : Nat} (hd : ev_at mi pc = some (.invokevirtual ix, nx, tg)) (hn : nx = pc + 3) (hk : ev_lk mi.1.cls ix ce n) (hst : Cond.instanceMethod ce.1 ∈ gwl ∧ Cond.selects ce.1.cls ce.1 ce.1 ∈ gwl) (ha : Nat.blt 0 a = true) (hz : ev_sh G a = some (.inl c)) (hc : (vwCl[c]?).map (fun q => q.1) = some ce.1.cls) (hlen : As.length = n) (hR : ev_room mi ce) (hw : (st.map fun v => v.category).sum ≤ 8) (hM : EvM ce (.ref a :: As) G h kc1 ks1 Q1)
    (kk : ∀ v G' h', Q1 v G' h' → ev_rt (mi_R ce) v → EvQ mi nx lo (v.toList ++ st) G' h' kc ks Q) : EvQ mi pc lo (As.reverse ++ [.ref a] ++ st) G h (kc1 + kc) (ks1 + ks) Q := by
  obtain ⟨k1, k2, k3, k4, k5, k6⟩ := hk
  refine ev_call (ce := ce) (Q1 := Q1) (recv := [.ref a]) hn (fun p l e R s m args below meth c0 b base ls H locs cells slots C hls hS hcc hss => ⟨((.ref a :: As).map (ev_rv b base)).toArray, ?_⟩) kk
  have hts := C.2.2.2.2.2.1
  have cb : CallB R s args mi.1.cls ix ce.1 (mi_C ce) (mi_L ce) (mi_R ce) (ev_ws ce) (ev_rm ce kc1 ks1) kc1 ks1 n := callB_of n hts (ev_ws_good k2) rfl rfl rfl (hts _ k3) (hts _ k1) ⟨k4, k5, k6⟩ (ev_room_of hR C.2.2.2.2.2.2.2.2.1 C.2.2.2.2.2.2.2.2.2.1)
  refine va_runV (Ts := gwl) (own := mi.1.cls) (C := ce.1.cls) (b := ev_ad b base a) (As := As.map (ev_rv b base)) ⟨C.1, C.2.1, C.2.2.1, C.2.2.2.2.1, hts⟩ (hM l b base) ⟨cb, hts _ hst.1, hts _ hst.2⟩ ⟨ev_Pc_blind b base _ G h, ev_recv hS (Nat.le_of_ble_eq_true ha) hz hc, ev_Pc_at hS C.2.2.2.2.2.2.2.2.2.2.1 (.ref a :: As)⟩ rfl (by rw [List.length_map]; exact hlen) hls ?_ (lv_room (by rw [ev_sum]; exact hw)) (ev_dec C hd hn) ⟨hcc, hss⟩
  show (As.reverse ++ [Value.ref a] ++ st).map (ev_rv b base) = _
  rw [List.map_append, List.map_append, List.map_reverse, List.append_assoc]
  rfl
theorem ev_invI0 {As : List Value} {a : Nat} (hd : ev_at mi pc = some (.invokespecial ix, nx, tg)) (hn : nx = pc + 3) (hk : ev_lk mi.1.cls ix ce n) (hst : Cond.instanceMethod ce.1 ∈ gwl ∧ ce.1.name = "<init>" ∧ mi_R ce = none) (hlen : As.length = n) (hR : ev_room mi ce) (hw : (st.map fun v => v.category).sum ≤ 8) (hM : EvM ce (.ref a :: As) G h kc1 ks1 Q1)
    (kk : ∀ v G' h', Q1 v G' h' → ev_rt (mi_R ce) v → EvQ mi nx lo (v.toList ++ st) G' h' kc ks Q) : EvQ mi pc lo (As.reverse ++ [.ref a] ++ st) G h (kc1 + kc) (ks1 + ks) Q := by
  obtain ⟨k1, k2, k3, k4, k5, k6⟩ := hk
  refine ev_call (ce := ce) (Q1 := Q1) (recv := [.ref a]) hn (fun p l e R s m args below meth c0 b base ls H locs cells slots C hls hS hcc hss => ⟨((.ref a :: As).map (ev_rv b base)).toArray, ?_⟩) kk
  have hts := C.2.2.2.2.2.1
  have cb : CallB R s args mi.1.cls ix ce.1 (mi_C ce) (mi_L ce) (mi_R ce) (ev_ws ce) (ev_rm ce kc1 ks1) kc1 ks1 n := callB_of n hts (ev_ws_good k2) rfl rfl rfl (hts _ k3) (hts _ k1) ⟨k4, k5, k6⟩ (ev_room_of hR C.2.2.2.2.2.2.2.2.1 C.2.2.2.2.2.2.2.2.2.1)
  rw [hst.2.2] at cb
  refine va_runI (Ts := gwl) (own := mi.1.cls) (b := ev_ad b base a) (As := As.map (ev_rv b base)) ⟨C.1, C.2.1, C.2.2.1, C.2.2.2.2.1, hts⟩ (hM l b base) ⟨cb, hst.2.1, hts _ hst.1⟩ ⟨ev_Pc_blind b base _ G h, ev_Pc_at hS C.2.2.2.2.2.2.2.2.2.2.1 (.ref a :: As)⟩ rfl (by rw [List.length_map]; exact hlen) hls ?_ (lv_room (by rw [ev_sum]; exact hw)) (ev_dec C hd hn) ⟨hcc, hss⟩
  show (As.reverse ++ [Value.ref a] ++ st).map (ev_rv b base) = _
  rw [List.map_append, List.map_append, List.map_reverse, List.append_assoc]
  rfl
theorem ev_invIN0 {As : List Value} {a : Nat} (hd : ev_at mi pc = some (.invokespecial ix, nx, tg)) (hn : nx = pc + 3) (hk : ev_ln mi.1.cls ix ce n) (hst : Cond.instanceMethod ce.1 ∈ gwl ∧ ce.1.name = "<init>" ∧ mi_R ce = none) (hlen : As.length = n) (hR : ev_room mi ce) (hw : (st.map fun v => v.category).sum ≤ 8) (hM : EvM ce (.ref a :: As) G h kc1 ks1 Q1)
    (kk : ∀ v G' h', Q1 v G' h' → ev_rt (mi_R ce) v → EvQ mi nx lo (v.toList ++ st) G' h' kc ks Q) : EvQ mi pc lo (As.reverse ++ [.ref a] ++ st) G h (kc1 + kc) (ks1 + ks) Q := by
  obtain ⟨⟨host, k1⟩, k2, k3, k4, k5, k6⟩ := hk
  refine ev_call (ce := ce) (Q1 := Q1) (recv := [.ref a]) hn (fun p l e R s m args below meth c0 b base ls H locs cells slots C hls hS hcc hss => ⟨((.ref a :: As).map (ev_rv b base)).toArray, ?_⟩) kk
  have hts := C.2.2.2.2.2.1
  have hN := C.2.2.2.2.2.2.2.2.2.2.1
  have cb : va_CN R s args mi.1.cls ix ce.1 host (mi_C ce) (mi_L ce) (mi_R ce) (ev_ws ce) (ev_rm ce kc1 ks1) kc1 ks1 n := va_cnB n hts (ev_ws_good k2) rfl rfl rfl (hN.1 _ k1) (hts _ k3) ⟨k4, k5, k6⟩ (ev_room_of hR C.2.2.2.2.2.2.2.2.1 C.2.2.2.2.2.2.2.2.2.1)
  rw [hst.2.2] at cb
  refine va_runIN (Ts := gwl) (own := mi.1.cls) (b := ev_ad b base a) (As := As.map (ev_rv b base)) ⟨C.1, C.2.1, C.2.2.1, C.2.2.2.2.1, hts⟩ (hM l b base) ⟨cb, hst.2.1, hts _ hst.1⟩ ⟨ev_Pc_blind b base _ G h, ev_Pc_at hS hN (.ref a :: As)⟩ rfl (by rw [List.length_map]; exact hlen) hls ?_ (lv_room (by rw [ev_sum]; exact hw)) (ev_dec C hd hn) ⟨hcc, hss⟩
  show (As.reverse ++ [Value.ref a] ++ st).map (ev_rv b base) = _
  rw [List.map_append, List.map_append, List.map_reverse, List.append_assoc]
  rfl
end EVC
end
section
/-! making cells -/
theorem ev_sh_app {G : Geo} {x : List (Shp × List (Option Nat))} {i : Nat} (h : i < G.length) : ev_sh (G ++ x) i = ev_sh G i := by
  unfold ev_sh; rw [List.getElem?_append_left h]
theorem ev_gr_app {G : Geo} {x : List (Shp × List (Option Nat))} {i j : Nat} (h : i < G.length) : ev_gr (G ++ x) i j = ev_gr G i j := by
  unfold ev_gr; rw [List.getElem?_append_left h]
theorem ev_sh_out {G : Geo} {i : Nat} (h : G.length ≤ i) : ev_sh G i = none := by
  unfold ev_sh; rw [List.getElem?_eq_none h]; rfl
theorem ev_S.len {b base : Nat} {G : Geo} {h : Hp} {U : State} {H : Heap} (hS : ev_S b base G h U H) : 0 < G.length := by
  obtain ⟨-, -, ⟨L, h3, -⟩, -⟩ := hS
  exact ev_sh_lt h3
/-- cells come behind all others -/
theorem ev_S.grow {b base : Nat} {G : Geo} {x : List (Shp × List (Option Nat))} {h : Hp} {U : State} {H H' : Heap} (hS : ev_S b base G h U H) (hsz : H'.size = H.size + x.length) (ho : ∀ q, q < H.size → H'[q]? = H[q]?)
    (hc : ∀ (i : Nat) (z : Shp), i < x.length → ev_sh (G ++ x) (G.length + i) = some z → ev_cell b base (G ++ x) h U H' (G.length + i) z) : ev_S b base (G ++ x) h U H' := by
  have hlen := hS.len
  obtain ⟨h1, h2, ⟨L, h3, h4⟩, h5⟩ := hS
  refine ⟨h1, by rw [hsz, h2, List.length_append]; omega, ⟨L, by rw [ev_sh_app hlen]; exact h3, h4.kept (ho b (by omega))⟩, fun a z ha hz => ?_⟩
  by_cases hl : a < G.length
  · rw [ev_sh_app hl] at hz
    have hold := h5 a z ha hz
    have hkeep : H'[base + a]? = H[base + a]? := ho _ (by omega)
    have hsv : ∀ (ty : FieldType) (k : Nat), ev_sv b base ty G h a k = ev_sv b base ty (G ++ x) h a k := fun ty k => by
      unfold ev_sv; rw [ev_gr_app hl]
    cases z with
    | inl c =>
      obtain ⟨q, cC, iS, g1, g2, g3⟩ := hold
      exact ⟨q, cC, iS, g1, g2, (g3.kept hkeep).to (fun k _ => hsv _ k)⟩
    | inr t =>
      obtain ⟨ty, n⟩ := t
      obtain ⟨cA, g1, g2⟩ := hold
      refine ⟨cA, g1, ?_⟩
      rw [hkeep, g2]
      exact congrArg (fun f => some (arrV cA n f)) (funext fun j => hsv ty j)
  · have hl2 : a < G.length + x.length := by
      have := ev_sh_lt hz
      rwa [List.length_append] at this
    have e : a = G.length + (a - G.length) := by omega
    rw [e] at hz ⊢
    exact hc _ z (by omega) hz
theorem ev_def_ref {ty : FieldType} (h : ty.isReference = true) : defaultValue ty = .null := by cases ty <;> first | rfl | cases h
def ev_cl (own : String) (ix c : Nat) : Prop := ∃ q : vw_C, vwCl[c]? = some q ∧ Cond.classLink own ix q.1 ∈ gwl ∧ Cond.instantiable q.1 q.2.2 ∈ gwl ∧ Cond.initialized q.1 ∈ gwl ∧ (∀ w ∈ u_ws q.1 q.2.1 q.2.2, w ∈ gwl) ∧ (∀ j, j < q.2.2 → parseFieldDescriptor (q.2.1 j).2.2.1 = some (tyCl c j)) ∧ (∀ j, j < q.2.2 → (tyCl c j).isReference = true ∨ defaultValue (tyCl c j) = .int 0)
section EVN
variable {mi : MI} {pc nx tg ix : Nat} {lo : List (Option Value)} {st : List Value} {G : Geo} {h : Hp} {kc ks : Nat} {Q : Pst}
theorem ev_gr_none {G : Geo} {z : Shp} {rl : List (Option Nat)} (hr : ∀ r ∈ rl, r = none) (k : Nat) : ev_gr (G ++ [(z, rl)]) G.length k = none := by
  unfold ev_gr
  rw [List.getElem?_append_right (Nat.le_refl _), Nat.sub_self]
  show (match rl[k]? with | none => none | some r => r) = none
  cases hk : rl[k]? with
  | none => rfl
  | some r => exact hr r (List.mem_of_getElem? hk)
theorem ev_sh_last {G : Geo} {z : Shp} {rl : List (Option Nat)} : ev_sh (G ++ [(z, rl)]) G.length = some z := by
  unfold ev_sh
  rw [List.getElem?_append_right (Nat.le_refl _), Nat.sub_self]
  rfl
theorem ev_new {c N a : Nat} (hd : ev_at mi pc = some (.new ix, nx, tg)) (hn : nx = pc + 3) (hk : ev_cl mi.1.cls ix c) (hN : (vwCl[c]?).map (fun q => q.2.2) = some N) (ha : G.length = a) (h0 : ∀ j, h a j = 0)
    (kk : EvQ mi nx lo (.ref a :: st) (G ++ [(.inl c, List.replicate N none)]) h kc ks Q) : EvQ mi pc lo st G h (1 + kc) (N + ks) Q := by
  subst hn
  subst ha
  obtain ⟨q, e1, e2, e3, e4, e5, e6, e7⟩ := hk
  rw [e1] at hN
  have hN : q.2.2 = N := Option.some.inj hN
  subst hN
  intro p l e R s m args below meth c0 b base ls H locs cells slots Qf C hL hS hB hcc hss hret
  have hts := C.2.2.2.2.2.1
  obtain ⟨cC, iS, gK⟩ := u_known hts e5 (hts _ e3)
  have hsz := hS.2.1
  have hlen := hS.len
  refine W.newcK C.1 C.2.1 C.2.2.2.2.1 (hts _ e2) (hts _ e3) (hts _ e4) rfl (ev_dec C hd rfl) (by omega) (by omega) gK.2.1 rfl (fun H1 kC hkC o1 z1 o2 => ?_)
  have hS1 : ev_S b base (G ++ [(.inl c, List.replicate q.2.2 none)]) h s H1 := by
    refine hS.grow z1 o2 (fun i z hi hz => ?_)
    have hi0 : i = 0 := by simp at hi; omega
    subst hi0
    rw [Nat.add_zero, ev_sh_last] at hz
    cases hz
    rw [Nat.add_zero]
    refine ⟨q, cC, iS, e1, gK, ?_⟩
    rw [← hsz]
    refine (u_born (tyCl c) hts e5 gK hkC o1 e6).to (fun k hk => ?_)
    unfold ev_sv
    rw [ev_gr_none (fun r hr => List.eq_of_mem_replicate hr), h0]
    by_cases ht : (tyCl c k).isReference = true
    · rw [if_pos ht, ev_def_ref ht]; rfl
    · rw [if_neg ht]
      exact (e7 k hk).resolve_left ht
  have key := kk p l e R s m args below meth c0 b base ls H1 locs (cells + 1) (slots + q.2.2) Qf C hL hS1 hB (by omega) (by omega) (fun v2 G2 h2 pc2 nx2 tg2 ls2 H2 locs2 q1 q2 q3 q4 q5 q6 => by
    have := hret v2 G2 h2 pc2 nx2 tg2 ls2 H2 locs2 q1 q2 q3 q4 q5 q6
    rw [← Nat.add_assoc, ← Nat.add_assoc] at this
    exact this)
  have ead : ev_ad b base G.length = H.size := by rw [ev_ad_pos hlen, hsz]
  have e9 : (Value.ref G.length :: st).map (ev_rv b base) = .ref H.size :: st.map (ev_rv b base) := by
    rw [List.map_cons]
    show Value.ref (ev_ad b base G.length) :: _ = _
    rw [ead]
  rw [e9] at key
  exact key
theorem ev_newa {aty : ArrayType} {ty : FieldType} {n : Int32} {N a : Nat} (hd : ev_at mi pc = some (.newarray aty, nx, tg)) (hn : nx = pc + 2) (hty : newarray.typeOf aty = ty) (hw : Cond.arrayClass ty ∈ gwl) (hdv : defaultValue ty = .int 0 ∧ ty.isReference = false) (hn0 : ¬ n < 0) (hN : n.toNatClampNeg = N) (hb : N * componentBytes ty ≤ 536870912) (ha : G.length = a) (h0 : ∀ j, h a j = 0)
    (kk : EvQ mi nx lo (.ref a :: st) (G ++ [(.inr (ty, N), [])]) h kc ks Q) : EvQ mi pc lo (.int n :: st) G h (1 + kc) (N + ks) Q := by
  subst hn
  subst ha
  subst hty
  intro p l e R s m args below meth c0 b base ls H locs cells slots Qf C hL hS hB hcc hss hret
  have hts := C.2.2.2.2.2.1
  have hsz := hS.2.1
  have hlen := hS.len
  refine W.newaK C.1 C.2.1 (hts _ hw) rfl (ev_dec C hd rfl) rfl hn0 hN hb (by omega) (by omega) rfl (fun H1 cA o1 z1 o2 hA => ?_)
  have hS1 : ev_S b base (G ++ [(.inr (newarray.typeOf aty, N), [])]) h s H1 := by
    refine hS.grow z1 o2 (fun i z hi hz => ?_)
    have hi0 : i = 0 := by simp at hi; omega
    subst hi0
    rw [Nat.add_zero, ev_sh_last] at hz
    cases hz
    rw [Nat.add_zero]
    refine ⟨cA, hA, ?_⟩
    rw [← hsz, o1]
    refine congrArg (fun f => some (arrV cA N f)) (funext fun j => ?_)
    unfold ev_sv
    rw [hdv.2, hdv.1, h0]
    rfl
  have key := kk p l e R s m args below meth c0 b base ls H1 locs (cells + 1) (slots + N) Qf C hL hS1 hB (by omega) (by omega) (fun v2 G2 h2 pc2 nx2 tg2 ls2 H2 locs2 q1 q2 q3 q4 q5 q6 => by
    have := hret v2 G2 h2 pc2 nx2 tg2 ls2 H2 locs2 q1 q2 q3 q4 q5 q6
    rw [← Nat.add_assoc, ← Nat.add_assoc] at this
    exact this)
  have ead : ev_ad b base G.length = H.size := by rw [ev_ad_pos hlen, hsz]
  have e9 : (Value.ref G.length :: st).map (ev_rv b base) = .ref H.size :: st.map (ev_rv b base) := by
    rw [List.map_cons]
    show Value.ref (ev_ad b base G.length) :: _ = _
    rw [ead]
  rw [e9] at key
  exact key
/-- Object's constructor -/
theorem ev_obj {a : Nat} (hd : ev_at mi pc = some (.invokespecial ix, nx, tg)) (hn : nx = pc + 3) (h1 : Cond.methodLink mi.1.cls ix objectInit ∈ gwl) (h2 : Cond.instanceMethod objectInit ∈ gwl) (h3 : Cond.code objectInit ⟨#[0xb1]⟩ 1 none ∈ gwl) (hF : Nat.ble 1 (mi_F mi) = true) (hSz : Nat.ble 12 (mi_S mi) = true) (kk : EvQ mi nx lo [] G h kc ks Q) : EvQ mi pc lo [.ref a] G h kc ks Q := by
  subst hn
  intro p l e R s m args below meth c0 b base ls H locs cells slots Qf C hL hS hB hcc hss hret
  have hts := C.2.2.2.2.2.1
  have z1 := Nat.le_of_ble_eq_true hF
  have z2 := Nat.le_of_ble_eq_true hSz
  have z3 := C.2.2.2.2.2.2.2.2.1
  have z4 := C.2.2.2.2.2.2.2.2.2.1
  exact W.objInit (g := F0 m pc ls [.ref (ev_ad b base a)]) C.1 C.2.1 C.2.2.2.2.1 (hts _ h1) (hts _ h2) (hts _ h3) rfl (by obtain ⟨l0, hl, -⟩ := hL; rw [C.2.2.1]; exact hl.1) (rest := []) rfl (ev_dec C hd rfl) (by omega) (by show 2 * 0 + 0 + 12 ≤ _; omega) (kk p l e R s m args below meth c0 b base ls H locs cells slots Qf C hL hS hB hcc hss hret)
theorem ev_outer (c : ClassId) (N h0 : Nat) : ∀ i : Nat, Jvm.Free.Multi.outerC c N h0 i = arrV c N (fun j => if j < i then .ref (h0 + 1 + j) else .null)
  | 0 => by
    show ({ cls := c, slots := Array.replicate N .null, vm := .none } : Cell) = _
    rw [arrV_new]
    exact congrArg (arrV c N) (funext fun j => by simp)
  | i + 1 => by
    show (Jvm.Free.Multi.outerC c N h0 i).setSlot i (.ref (h0 + 1 + i)) = _
    rw [ev_outer c N h0 i, arrV_store]
    refine congrArg (arrV c N) (funext fun j => ?_)
    by_cases e : j = i
    · subst e; simp [updV]
    · by_cases h : j < i
      · simp [updV, e, h, Nat.lt_succ_of_lt h]
      · simp [updV, e, h, show ¬ j < i + 1 by omega]
/-- new int[N][K] -/
theorem ev_mna {n k : Int32} {N K a : Nat} (hd : ev_at mi pc = some (.multianewarray ix 2, nx, tg)) (hn : nx = pc + 4) (hw : Cond.classLink mi.1.cls ix "[[I" ∈ gwl) (hw2 : Cond.arrayClass .int ∈ gwl) (hn0 : ¬ n < 0) (hk0 : ¬ k < 0) (hN : n.toNatClampNeg = N) (hK : k.toNatClampNeg = K) (hb1 : N * 4 ≤ 536870912) (hb2 : K * 4 ≤ 536870912) (ha : G.length = a) (h0 : ∀ i j, a ≤ i → h i j = 0)
    (kk : EvQ mi nx lo (.ref a :: st) (G ++ ((.inr (.array .int, N), (List.range N).map (fun i => some (a + 1 + i))) :: List.replicate N (.inr (.int, K), []))) h kc ks Q) : EvQ mi pc lo (.int k :: .int n :: st) G h (1 + N + kc) (N + N * K + ks) Q := by
  subst hn
  subst ha
  subst hN
  subst hK
  intro p l e R s m args below meth c0 b base ls H locs cells slots Qf C hL hS hB hcc hss hret T hT X
  have hts := C.2.2.2.2.2.1
  have hsz := hS.2.1
  have hlen := hS.len
  obtain ⟨vm₁, cA, comp, -, fA, fC, hO, hI, X', step⟩ := X.multianewarray2F C.1 (ty := .int) C.2.2.2.2.1 (hts _ hw) C.2.2.2.2.2.2.2.2.2.2.1.2 (hts _ hw2) (g := F0 m pc ls (.int k :: .int n :: st.map (ev_rv b base))) rfl (by rw [C.2.1]; exact ev_dec C hd rfl) rfl hn0 hk0 hb1 hb2 (by omega) rfl rfl (by omega) (by omega)
  generalize hF : Jvm.Free.Multi.fill (T.setVm vm₁) cA comp n.toNatClampNeg k.toNatClampNeg (defaultValue .int) n.toNatClampNeg = F at X' step
  have hTh : (T.setVm vm₁).heap = H := hT
  obtain ⟨f1, f2, -, -⟩ := Jvm.Free.Multi.fill_facts (T.setVm vm₁) cA comp n.toNatClampNeg k.toNatClampNeg (defaultValue .int) n.toNatClampNeg
  rw [hF, hTh] at f1 f2
  have hold : ∀ x : Nat, x < H.size → F.heap[x]? = H[x]? := fun x hx => by
    have := Jvm.Free.Multi.fill_old (T.setVm vm₁) cA comp n.toNatClampNeg k.toNatClampNeg (defaultValue .int) (a := x) (by rw [hTh]; exact hx) n.toNatClampNeg
    rw [hF, hTh] at this
    exact this
  have hrow : ∀ j : Nat, j < n.toNatClampNeg → F.heap[H.size + 1 + j]? = some (Jvm.Free.Multi.innerC comp k.toNatClampNeg (defaultValue .int)) := fun j hj => by
    have := Jvm.Free.Multi.fill_inner (T.setVm vm₁) cA comp n.toNatClampNeg k.toNatClampNeg (defaultValue .int) n.toNatClampNeg j hj
    rw [hF, hTh] at this
    exact this
  have hAo : ArrOfT s cA (.array .int) := fun N9 z9 => by
    obtain ⟨-, k9, hk9, cm9, hkk9⟩ := (hO 0 0 0).1
    exact ⟨(fun q hq => by cases hq), k9, hk9, cm9, hkk9⟩
  have hAi : ArrOfT s comp .int := fun N9 z9 => by
    obtain ⟨-, k9, hk9, cm9, hkk9⟩ := (hI 0 .null).1
    exact ⟨(fun q hq => by cases hq), k9, hk9, cm9, hkk9⟩
  have hS1 : ev_S b base (G ++ ((.inr (.array .int, n.toNatClampNeg), (List.range n.toNatClampNeg).map (fun i => some (G.length + 1 + i))) :: List.replicate n.toNatClampNeg (.inr (.int, k.toNatClampNeg), []))) h s F.heap := by
    refine hS.grow (by rw [f1, List.length_cons, List.length_replicate]; omega) hold (fun i z hi hz => ?_)
    cases i with
    | zero =>
      rw [show G.length + 0 = G.length from rfl] at hz ⊢
      have hz0 : ev_sh (G ++ ((.inr (.array .int, n.toNatClampNeg), (List.range n.toNatClampNeg).map (fun i => some (G.length + 1 + i))) :: List.replicate n.toNatClampNeg (.inr (.int, k.toNatClampNeg), []))) G.length = some (.inr (.array .int, n.toNatClampNeg)) := by
        unfold ev_sh; rw [List.getElem?_append_right (Nat.le_refl _), Nat.sub_self]; rfl
      rw [hz0] at hz
      cases hz
      refine ⟨cA, hAo, ?_⟩
      rw [← hsz, f2]
      rw [ev_outer]
      have hcong : ∀ f g : Nat → Value, (∀ j, j < n.toNatClampNeg → f j = g j) → arrV cA n.toNatClampNeg f = arrV cA n.toNatClampNeg g := fun f g hfg => by
        unfold arrV
        congr 1
        apply Array.ext_getElem?
        intro j
        by_cases hj : j < n.toNatClampNeg
        · simp only [Array.getElem?_ofFn, hj]; rw [hfg j hj]
        · rw [Array.getElem?_eq_none (by simp; omega), Array.getElem?_eq_none (by simp; omega)]
      refine congrArg some (hcong _ _ (fun j hj => ?_))
      have hg : ev_gr (G ++ ((.inr (.array .int, n.toNatClampNeg), (List.range n.toNatClampNeg).map (fun i => some (G.length + 1 + i))) :: List.replicate n.toNatClampNeg (.inr (.int, k.toNatClampNeg), []))) G.length j = some (G.length + 1 + j) := by
        unfold ev_gr
        rw [List.getElem?_append_right (Nat.le_refl _), Nat.sub_self]
        show (match ((List.range n.toNatClampNeg).map (fun i => some (G.length + 1 + i)))[j]? with | none => none | some r => r) = _
        rw [List.getElem?_map, List.getElem?_range hj]
        rfl
      have ht : (FieldType.array FieldType.int).isReference = true := rfl
      unfold ev_sv
      rw [if_pos ht, hg, if_pos hj]
      show Value.ref (H.size + 1 + j) = Value.ref (ev_ad b base (G.length + 1 + j))
      rw [ev_ad_pos (show 0 < G.length + 1 + j from Nat.lt_of_lt_of_le (Nat.succ_pos G.length) (Nat.le_add_right _ _)), hsz, Nat.add_assoc base, Nat.add_assoc base]
    | succ i =>
      have hi' : i < n.toNatClampNeg := by simp at hi; omega
      have hz0 : (G ++ ((.inr (.array .int, n.toNatClampNeg), (List.range n.toNatClampNeg).map (fun i => some (G.length + 1 + i))) :: List.replicate n.toNatClampNeg ((.inr (.int, k.toNatClampNeg), []) : Shp × List (Option Nat))))[G.length + (i + 1)]? = some (.inr (.int, k.toNatClampNeg), []) := by
        rw [List.getElem?_append_right (by omega), show G.length + (i + 1) - G.length = i + 1 by omega, List.getElem?_cons_succ, List.getElem?_replicate, if_pos hi']
      have hz1 : ev_sh (G ++ ((.inr (.array .int, n.toNatClampNeg), (List.range n.toNatClampNeg).map (fun i => some (G.length + 1 + i))) :: List.replicate n.toNatClampNeg (.inr (.int, k.toNatClampNeg), []))) (G.length + (i + 1)) = some (.inr (.int, k.toNatClampNeg)) := by
        unfold ev_sh; rw [hz0]; rfl
      rw [hz1] at hz
      cases hz
      refine ⟨comp, hAi, ?_⟩
      have := hrow i hi'
      rw [show base + (G.length + (i + 1)) = H.size + 1 + i by omega, this]
      unfold Jvm.Free.Multi.innerC
      rw [arrV_new]
      refine congrArg (fun f => some (arrV comp k.toNatClampNeg f)) (funext fun j => ?_)
      show Value.int 0 = Value.int (h (G.length + (i + 1)) j)
      rw [h0 _ _ (by omega)]
  have key := kk p l e R s m args below meth c0 b base ls F.heap locs (cells + 1 + n.toNatClampNeg) (slots + n.toNatClampNeg + n.toNatClampNeg * k.toNatClampNeg) Qf C hL hS1 hB (by omega) (by omega) (fun v2 G2 h2 pc2 nx2 tg2 ls2 H2 locs2 q1 q2 q3 q4 q5 q6 => by
    have := hret v2 G2 h2 pc2 nx2 tg2 ls2 H2 locs2 q1 q2 q3 q4 q5 q6
    rw [show cells + 1 + n.toNatClampNeg + kc = cells + (1 + n.toNatClampNeg + kc) by omega, show slots + n.toNatClampNeg + n.toNatClampNeg * k.toNatClampNeg + ks = slots + (n.toNatClampNeg + n.toNatClampNeg * k.toNatClampNeg + ks) by omega]
    exact this)
  have ead : ev_ad b base G.length = T.heap.size := by rw [ev_ad_pos hlen, hT, hsz]
  have e9 : (Value.ref G.length :: st).map (ev_rv b base) = .ref T.heap.size :: st.map (ev_rv b base) := by
    rw [List.map_cons]
    show Value.ref (ev_ad b base G.length) :: _ = _
    rw [ead]
  rw [e9] at key
  obtain ⟨t, a1, b1⟩ := key F rfl X'
  exact ⟨t, step t a1, b1⟩
/-- System.arraycopy between int arrays of ours, from one to another cell -/
def ev_cpy (h : Hp) (x y sp dp n : Nat) : Hp := fun i j => if i = y then va_cpy (h x) (h y) sp dp n j else h i j
theorem ev_copy {x y n0 n1 : Nat} {sp dp n : Int32} (hd : ev_at mi pc = some (.invokestatic ix, nx, tg)) (hn : nx = pc + 3) (w1 : Cond.methodLink mi.1.cls ix arraycopyName ∈ gwl) (w2 : Cond.native arraycopyName ∈ gwl) (w3 : Cond.static arraycopyName ∈ gwl) (w4 : Cond.initialized "java/lang/System" ∈ gwl) (hx : Nat.blt 0 x = true) (hy : Nat.blt 0 y = true) (zx : ev_sh G x = some (.inr (.int, n0))) (zy : ev_sh G y = some (.inr (.int, n1)))
    (h1 : ¬ sp < 0) (h2 : ¬ dp < 0) (h3 : ¬ n < 0) (h4 : sp.toNatClampNeg + n.toNatClampNeg ≤ n0) (h5 : dp.toNatClampNeg + n.toNatClampNeg ≤ n1) (hF : Nat.ble 1 (mi_F mi) = true) (hSz : Nat.ble 26 (mi_S mi) = true) (hw : (st.map fun v => v.category).sum ≤ 8)
    (kk : EvQ mi nx lo st G (ev_cpy h x y sp.toNatClampNeg dp.toNatClampNeg n.toNatClampNeg) kc ks Q) : EvQ mi pc lo (.int n :: .int dp :: .ref y :: .int sp :: .ref x :: st) G h kc ks Q := by
  subst hn
  intro p l e R s m args below meth c0 b base ls H locs cells slots Qf C hL hS hB hcc hss hret T hT X
  have hts := C.2.2.2.2.2.1
  have hx : 0 < x := Nat.le_of_ble_eq_true hx
  have hy : 0 < y := Nat.le_of_ble_eq_true hy
  have z1 := Nat.le_of_ble_eq_true hF
  have z2 := Nat.le_of_ble_eq_true hSz
  have z3 := C.2.2.2.2.2.2.2.2.1
  have z4 := C.2.2.2.2.2.2.2.2.2.1
  obtain ⟨c1, A1, g1⟩ := hS.2.2.2 x _ hx zx
  obtain ⟨c2, A2, g2⟩ := hS.2.2.2 y _ hy zy
  have g1 : H[base + x]? = some (arrV c1 n0 (fun j => .int (h x j))) := g1
  have g2 : H[base + y]? = some (arrV c2 n1 (fun j => .int (h y j))) := g2
  have nn : ∀ z : Int32, ¬ z < 0 → z.toInt = (z.toNatClampNeg : Int) := by
    intro z hz
    have hz0 : (0 : Int) ≤ z.toInt := by
      have := Int32.not_lt.mp hz
      simpa using Int32.le_iff_toInt_le.mp this
    show z.toInt = ((z.toInt.toNat : Nat) : Int)
    omega
  obtain ⟨-, k0, hk0, cm0, hkk0⟩ := A1 n0 (fun j => .int (h x j))
  obtain ⟨-, k1, hk1, cm1, hkk1⟩ := A2 n1 (fun j => .int (h y j))
  obtain ⟨vm', X', step⟩ := X.arraycopy C.1 C.2.2.2.2.1 (hts _ w1) (hts _ w2) (hts _ w3) (hts _ w4) (src := base + x) (dst := base + y) (cs := arrV c1 n0 (fun j => .int (h x j))) (cd := arrV c2 n1 (fun j => .int (h y j))) (srcPos := sp) (destPos := dp) (n := n) (by rw [hT]; exact g1) (by rw [hT]; exact g2)
    (fun _ h => by cases h) (fun _ h => by cases h) (fun h => by cases h) (fun h => by cases h) hk0 hk1 hkk0 hkk1 rfl h1 h2 h3
    (by rw [nn sp h1, nn n h3, arrV_size]; omega) (by rw [nn dp h2, nn n h3, arrV_size]; omega)
    (fun vm₁ _ i hi => by
      have e : (arrV c1 n0 (fun j => .int (h x j))).slots.getD (sp.toNatClampNeg + i) .null = .int (h x (sp.toNatClampNeg + i)) := by
        rw [Array.getD_eq_getD_getElem?, arrV_read _ _ (by omega)]
        rfl
      exact ⟨by rw [e]; rfl, by rw [e]; exact trivial⟩)
    (g := F0 m pc ls (.int n :: .int dp :: .ref (base + y) :: .int sp :: .ref (base + x) :: st.map (ev_rv b base))) rfl (by obtain ⟨l0, hl, -⟩ := hL; rw [C.2.2.1]; exact hl.1) (rest := st.map (ev_rv b base)) rfl (by rw [C.2.1]; exact ev_dec C hd rfl) (by omega) (by
      rw [ev_sum]
      show 2 * 0 + _ + (5 + 2 + 11) ≤ _
      omega)
  have ec : copied (arrV c1 n0 (fun j => .int (h x j))) (arrV c2 n1 (fun j => .int (h y j))) sp dp n = arrV c2 n1 (fun j => .int (va_cpy (h x) (h y) sp.toNatClampNeg dp.toNatClampNeg n.toNatClampNeg j)) := va_copied (fun z => .int z) c1 c2 (h x) (h y) h4
  rw [ec] at X' step
  have hl : base + y < H.size := (Array.getElem?_eq_some_iff.mp g2).1
  have hheap : ((T.setVm vm').setCell (base + y) (arrV c2 n1 (fun j => .int (va_cpy (h x) (h y) sp.toNatClampNeg dp.toNatClampNeg n.toNatClampNeg j)))).heap = H.setIfInBounds (base + y) (arrV c2 n1 (fun j => .int (va_cpy (h x) (h y) sp.toNatClampNeg dp.toNatClampNeg n.toNatClampNeg j))) := by rw [← hT]; rfl
  have hS1 : ev_S b base G (ev_cpy h x y sp.toNatClampNeg dp.toNatClampNeg n.toNatClampNeg) s (H.setIfInBounds (base + y) (arrV c2 n1 (fun j => .int (va_cpy (h x) (h y) sp.toNatClampNeg dp.toNatClampNeg n.toNatClampNeg j)))) := by
    refine hS.upd hy zy rfl (fun _ => rfl) (fun _ _ _ => rfl) (fun i j hi => if_neg hi) (by simp) (fun q hq => by simp [Array.getElem?_setIfInBounds, Ne.symm hq]) ⟨c2, A2, ?_⟩
    rw [show (H.setIfInBounds (base + y) (arrV c2 n1 (fun j => .int (va_cpy (h x) (h y) sp.toNatClampNeg dp.toNatClampNeg n.toNatClampNeg j))))[base + y]? = some (arrV c2 n1 (fun j => .int (va_cpy (h x) (h y) sp.toNatClampNeg dp.toNatClampNeg n.toNatClampNeg j))) by simp [Array.getElem?_setIfInBounds, hl]]
    refine congrArg (fun f => some (arrV c2 n1 f)) (funext fun j => ?_)
    unfold ev_sv ev_cpy
    rw [if_pos rfl]
    rfl
  obtain ⟨t, a1, b1⟩ := kk p l e R s m args below meth c0 b base ls _ _ cells slots Qf C hL hS1 (hB.app (fun q hq => by
      obtain ⟨z, -, hz⟩ := List.mem_map.mp hq
      rw [← hz]
      show base < base + y
      omega)) hcc hss hret _ hheap X'
  refine ⟨t, ?_, b1⟩
  have := step t a1
  have e9 : (Value.int n :: .int dp :: .ref y :: .int sp :: .ref x :: st).map (ev_rv b base) = .int n :: .int dp :: .ref (base + y) :: .int sp :: .ref (base + x) :: st.map (ev_rv b base) := by
    show Value.int n :: .int dp :: .ref (ev_ad b base y) :: .int sp :: .ref (ev_ad b base x) :: _ = _
    rw [ev_ad_pos hx, ev_ad_pos hy]
  rw [e9]
  exact this
end EVN
/-- the heap is only looked at where it is: another picture that agrees there does as well -/
def ev_wd (c : Nat) : Nat := match vwCl[c]? with
  | none => 0
  | some q => q.2.2
theorem ev_S.congr {b base : Nat} {G : Geo} {h h' : Hp} {U : State} {H : Heap} (hS : ev_S b base G h U H) (he : ∀ (a j : Nat) (z : Shp), ev_sh G a = some z → (match z with | .inl c => j < ev_wd c | .inr t => j < t.2) → h a j = h' a j) : ev_S b base G h' U H := by
  obtain ⟨h1, h2, ⟨L, h3, scr, x1, x2, x3, x4, x5⟩, h5⟩ := hS
  refine ⟨h1, h2, ⟨L, h3, scr, x1, x2, x3, x4, fun j hj => by rw [x5 j hj, he 0 j _ h3 hj]⟩, fun a z ha hz => ?_⟩
  have hold := h5 a z ha hz
  cases z with
  | inl c =>
    obtain ⟨q, cC, iS, g1, g2, g3⟩ := hold
    refine ⟨q, cC, iS, g1, g2, g3.to (fun k hk => ?_)⟩
    unfold ev_sv
    rw [he a k _ hz (by show k < ev_wd c; unfold ev_wd; rw [g1]; exact hk)]
  | inr t =>
    obtain ⟨ty, n⟩ := t
    obtain ⟨cA, g1, g2⟩ := hold
    refine ⟨cA, g1, ?_⟩
    rw [g2]
    refine congrArg some ?_
    unfold arrV
    congr 1
    apply Array.ext_getElem?
    intro j
    by_cases hj : j < n
    · simp only [Array.getElem?_ofFn, hj]
      unfold ev_sv
      rw [he a j _ hz hj]
    · rw [Array.getElem?_eq_none (by simp; omega), Array.getElem?_eq_none (by simp; omega)]
theorem EvQ.congr {mi : MI} {pc : Nat} {lo : List (Option Value)} {st : List Value} {G : Geo} {h h' : Hp} {kc ks : Nat} {Q : Pst} (k : EvQ mi pc lo st G h' kc ks Q) (he : ∀ (a j : Nat) (z : Shp), ev_sh G a = some z → (match z with | .inl c => j < ev_wd c | .inr t => j < t.2) → h a j = h' a j) : EvQ mi pc lo st G h kc ks Q := by
  intro p l e R s m args below meth c b base ls H locs cells slots Qf C hL hS hB hcc hss hret
  exact k p l e R s m args below meth c b base ls H locs cells slots Qf C hL (hS.congr he) hB hcc hss hret
end
