section
-- ===== PART A: goes FIRST, ahead of the names: the tables' words, and 'selects' of the private methods out of them =====
/-- a private method of a class that the tables say can be made, by its rows of tables_1 -/
def lw_okq (q : MethodName × Nat) : Prop := (q.1.cls ≠ "java/lang/invoke/MethodHandle" ∧ q.1.cls ≠ "java/lang/invoke/VarHandle") ∧ Cond.instantiable q.1.cls q.2 ∈ tables_1 ∧ Cond.privateMethod q.1 ∈ tables_1 ∧ Cond.instanceMethod q.1 ∈ tables_1
theorem lw_p0 : lw_okq (⟨"SteamTunes$Reader", "readToken", "()V"⟩, 14) := ⟨⟨by decide +kernel, by decide +kernel⟩, List.mem_of_getElem? (i := 131) (by decide +kernel), List.mem_of_getElem? (i := 546) (by decide +kernel), List.mem_of_getElem? (i := 547) (by decide +kernel)⟩
theorem lw_p1 : lw_okq (⟨"SteamTunes$Reader", "isLetter", "(I)Z"⟩, 14) := ⟨⟨by decide +kernel, by decide +kernel⟩, List.mem_of_getElem? (i := 131) (by decide +kernel), List.mem_of_getElem? (i := 550) (by decide +kernel), List.mem_of_getElem? (i := 551) (by decide +kernel)⟩
theorem lw_p2 : lw_okq (⟨"SteamTunes$Reader", "readChord", "()V"⟩, 14) := ⟨⟨by decide +kernel, by decide +kernel⟩, List.mem_of_getElem? (i := 131) (by decide +kernel), List.mem_of_getElem? (i := 554) (by decide +kernel), List.mem_of_getElem? (i := 555) (by decide +kernel)⟩
theorem lw_p3 : lw_okq (⟨"SteamTunes$Reader", "fail", "(II)V"⟩, 14) := ⟨⟨by decide +kernel, by decide +kernel⟩, List.mem_of_getElem? (i := 131) (by decide +kernel), List.mem_of_getElem? (i := 558) (by decide +kernel), List.mem_of_getElem? (i := 559) (by decide +kernel)⟩
theorem lw_p4 : lw_okq (⟨"SteamTunes$Reader", "isFigure", "(I)Z"⟩, 14) := ⟨⟨by decide +kernel, by decide +kernel⟩, List.mem_of_getElem? (i := 131) (by decide +kernel), List.mem_of_getElem? (i := 562) (by decide +kernel), List.mem_of_getElem? (i := 563) (by decide +kernel)⟩
theorem lw_p5 : lw_okq (⟨"SteamTunes$Reader", "readNumber", "()V"⟩, 14) := ⟨⟨by decide +kernel, by decide +kernel⟩, List.mem_of_getElem? (i := 131) (by decide +kernel), List.mem_of_getElem? (i := 566) (by decide +kernel), List.mem_of_getElem? (i := 567) (by decide +kernel)⟩
theorem lw_p6 : lw_okq (⟨"SteamTunes$Reader", "readSign", "()V"⟩, 14) := ⟨⟨by decide +kernel, by decide +kernel⟩, List.mem_of_getElem? (i := 131) (by decide +kernel), List.mem_of_getElem? (i := 570) (by decide +kernel), List.mem_of_getElem? (i := 571) (by decide +kernel)⟩
theorem lw_p7 : lw_okq (⟨"SteamTunes$Reader", "take", "(I)I"⟩, 14) := ⟨⟨by decide +kernel, by decide +kernel⟩, List.mem_of_getElem? (i := 131) (by decide +kernel), List.mem_of_getElem? (i := 574) (by decide +kernel), List.mem_of_getElem? (i := 575) (by decide +kernel)⟩
theorem lw_p8 : lw_okq (⟨"SteamTunes$Reader", "takeOpen", "()I"⟩, 14) := ⟨⟨by decide +kernel, by decide +kernel⟩, List.mem_of_getElem? (i := 131) (by decide +kernel), List.mem_of_getElem? (i := 578) (by decide +kernel), List.mem_of_getElem? (i := 579) (by decide +kernel)⟩
theorem lw_p9 : lw_okq (⟨"SteamTunes$Reader", "misplaced", "()I"⟩, 14) := ⟨⟨by decide +kernel, by decide +kernel⟩, List.mem_of_getElem? (i := 131) (by decide +kernel), List.mem_of_getElem? (i := 582) (by decide +kernel), List.mem_of_getElem? (i := 583) (by decide +kernel)⟩
theorem lw_p10 : lw_okq (⟨"SteamTunes$Reader", "takeChord", "()I"⟩, 14) := ⟨⟨by decide +kernel, by decide +kernel⟩, List.mem_of_getElem? (i := 131) (by decide +kernel), List.mem_of_getElem? (i := 586) (by decide +kernel), List.mem_of_getElem? (i := 587) (by decide +kernel)⟩
theorem lw_p11 : lw_okq (⟨"SteamTunes$Reader", "addBeat", "(I)I"⟩, 14) := ⟨⟨by decide +kernel, by decide +kernel⟩, List.mem_of_getElem? (i := 131) (by decide +kernel), List.mem_of_getElem? (i := 590) (by decide +kernel), List.mem_of_getElem? (i := 591) (by decide +kernel)⟩
theorem lw_p12 : lw_okq (⟨"SteamTunes$Reader", "takeNumber", "()I"⟩, 14) := ⟨⟨by decide +kernel, by decide +kernel⟩, List.mem_of_getElem? (i := 131) (by decide +kernel), List.mem_of_getElem? (i := 595) (by decide +kernel), List.mem_of_getElem? (i := 596) (by decide +kernel)⟩
theorem lw_p13 : lw_okq (⟨"SteamTunes$Reader", "takeClose", "()I"⟩, 14) := ⟨⟨by decide +kernel, by decide +kernel⟩, List.mem_of_getElem? (i := 131) (by decide +kernel), List.mem_of_getElem? (i := 600) (by decide +kernel), List.mem_of_getElem? (i := 601) (by decide +kernel)⟩
theorem lw_p14 : lw_okq (⟨"SteamTunes$Reader", "takeEnd", "()I"⟩, 14) := ⟨⟨by decide +kernel, by decide +kernel⟩, List.mem_of_getElem? (i := 131) (by decide +kernel), List.mem_of_getElem? (i := 604) (by decide +kernel), List.mem_of_getElem? (i := 605) (by decide +kernel)⟩
theorem lw_p15 : lw_okq (⟨"SteamTunes", "isBeat", "(III)Z"⟩, 10) := ⟨⟨by decide +kernel, by decide +kernel⟩, List.mem_of_getElem? (i := 17) (by decide +kernel), List.mem_of_getElem? (i := 646) (by decide +kernel), List.mem_of_getElem? (i := 647) (by decide +kernel)⟩
def lw_privs_1 : List (MethodName × Nat) := [(⟨"SteamTunes$Reader", "readToken", "()V"⟩, 14), (⟨"SteamTunes$Reader", "isLetter", "(I)Z"⟩, 14), (⟨"SteamTunes$Reader", "readChord", "()V"⟩, 14), (⟨"SteamTunes$Reader", "fail", "(II)V"⟩, 14), (⟨"SteamTunes$Reader", "isFigure", "(I)Z"⟩, 14), (⟨"SteamTunes$Reader", "readNumber", "()V"⟩, 14), (⟨"SteamTunes$Reader", "readSign", "()V"⟩, 14), (⟨"SteamTunes$Reader", "take", "(I)I"⟩, 14), (⟨"SteamTunes$Reader", "takeOpen", "()I"⟩, 14), (⟨"SteamTunes$Reader", "misplaced", "()I"⟩, 14), (⟨"SteamTunes$Reader", "takeChord", "()I"⟩, 14), (⟨"SteamTunes$Reader", "addBeat", "(I)I"⟩, 14), (⟨"SteamTunes$Reader", "takeNumber", "()I"⟩, 14), (⟨"SteamTunes$Reader", "takeClose", "()I"⟩, 14), (⟨"SteamTunes$Reader", "takeEnd", "()I"⟩, 14), (⟨"SteamTunes", "isBeat", "(III)Z"⟩, 10)]
theorem lw_r1 : ∀ q ∈ lw_privs_1, lw_okq q := List.forall_mem_cons.mpr ⟨lw_p0, List.forall_mem_cons.mpr ⟨lw_p1, List.forall_mem_cons.mpr ⟨lw_p2, List.forall_mem_cons.mpr ⟨lw_p3, List.forall_mem_cons.mpr ⟨lw_p4, List.forall_mem_cons.mpr ⟨lw_p5, List.forall_mem_cons.mpr ⟨lw_p6, List.forall_mem_cons.mpr ⟨lw_p7, List.forall_mem_cons.mpr ⟨lw_p8, List.forall_mem_cons.mpr ⟨lw_p9, List.forall_mem_cons.mpr ⟨lw_p10, List.forall_mem_cons.mpr ⟨lw_p11, List.forall_mem_cons.mpr ⟨lw_p12, List.forall_mem_cons.mpr ⟨lw_p13, List.forall_mem_cons.mpr ⟨lw_p14, List.forall_mem_cons.mpr ⟨lw_p15, fun _ h => absurd h List.not_mem_nil⟩⟩⟩⟩⟩⟩⟩⟩⟩⟩⟩⟩⟩⟩⟩⟩
theorem lw_p16 : lw_okq (⟨"SteamTunes", "tryOut", "(II)I"⟩, 10) := ⟨⟨by decide +kernel, by decide +kernel⟩, List.mem_of_getElem? (i := 17) (by decide +kernel), List.mem_of_getElem? (i := 654) (by decide +kernel), List.mem_of_getElem? (i := 655) (by decide +kernel)⟩
theorem lw_p17 : lw_okq (⟨"SteamTunes$Setting", "markNear", "(LSteamTunes$Whistles;I)V"⟩, 16) := ⟨⟨by decide +kernel, by decide +kernel⟩, List.mem_of_getElem? (i := 207) (by decide +kernel), List.mem_of_getElem? (i := 705) (by decide +kernel), List.mem_of_getElem? (i := 706) (by decide +kernel)⟩
theorem lw_p18 : lw_okq (⟨"SteamTunes$Setting", "listOptions", "(LSteamTunes$Whistles;I)V"⟩, 16) := ⟨⟨by decide +kernel, by decide +kernel⟩, List.mem_of_getElem? (i := 207) (by decide +kernel), List.mem_of_getElem? (i := 719) (by decide +kernel), List.mem_of_getElem? (i := 720) (by decide +kernel)⟩
theorem lw_p19 : lw_okq (⟨"SteamTunes$Setting", "fillSounding", "(LSteamTunes$Boiler;I)V"⟩, 16) := ⟨⟨by decide +kernel, by decide +kernel⟩, List.mem_of_getElem? (i := 207) (by decide +kernel), List.mem_of_getElem? (i := 723) (by decide +kernel), List.mem_of_getElem? (i := 724) (by decide +kernel)⟩
theorem lw_p20 : lw_okq (⟨"SteamTunes$Setting", "isOpen", "(II)Z"⟩, 16) := ⟨⟨by decide +kernel, by decide +kernel⟩, List.mem_of_getElem? (i := 207) (by decide +kernel), List.mem_of_getElem? (i := 727) (by decide +kernel), List.mem_of_getElem? (i := 728) (by decide +kernel)⟩
theorem lw_p21 : lw_okq (⟨"SteamTunes$Setting", "raise", "(III)V"⟩, 16) := ⟨⟨by decide +kernel, by decide +kernel⟩, List.mem_of_getElem? (i := 207) (by decide +kernel), List.mem_of_getElem? (i := 737) (by decide +kernel), List.mem_of_getElem? (i := 738) (by decide +kernel)⟩
theorem lw_p22 : lw_okq (⟨"SteamTunes$Setting", "fillResting", "(LSteamTunes$Boiler;I)V"⟩, 16) := ⟨⟨by decide +kernel, by decide +kernel⟩, List.mem_of_getElem? (i := 207) (by decide +kernel), List.mem_of_getElem? (i := 741) (by decide +kernel), List.mem_of_getElem? (i := 742) (by decide +kernel)⟩
theorem lw_p23 : lw_okq (⟨"SteamTunes$Setting", "follow", "(LSteamTunes$Boiler;LSteamTunes$Whistles;I)V"⟩, 16) := ⟨⟨by decide +kernel, by decide +kernel⟩, List.mem_of_getElem? (i := 207) (by decide +kernel), List.mem_of_getElem? (i := 746) (by decide +kernel), List.mem_of_getElem? (i := 747) (by decide +kernel)⟩
theorem lw_p24 : lw_okq (⟨"SteamTunes$Setting", "bestOption", "(LSteamTunes$Boiler;III)I"⟩, 16) := ⟨⟨by decide +kernel, by decide +kernel⟩, List.mem_of_getElem? (i := 207) (by decide +kernel), List.mem_of_getElem? (i := 750) (by decide +kernel), List.mem_of_getElem? (i := 751) (by decide +kernel)⟩
theorem lw_p25 : lw_okq (⟨"SteamTunes$Setting", "worthOf", "(LSteamTunes$Boiler;IIII)I"⟩, 16) := ⟨⟨by decide +kernel, by decide +kernel⟩, List.mem_of_getElem? (i := 207) (by decide +kernel), List.mem_of_getElem? (i := 754) (by decide +kernel), List.mem_of_getElem? (i := 755) (by decide +kernel)⟩
theorem lw_p26 : lw_okq (⟨"SteamTunes", "takeHeard", "(IIII)I"⟩, 10) := ⟨⟨by decide +kernel, by decide +kernel⟩, List.mem_of_getElem? (i := 17) (by decide +kernel), List.mem_of_getElem? (i := 786) (by decide +kernel), List.mem_of_getElem? (i := 787) (by decide +kernel)⟩
theorem lw_p27 : lw_okq (⟨"SteamTunes$Suspects", "explains", "(LSteamTunes$Boiler;LSteamTunes$Whistles;II)Z"⟩, 8) := ⟨⟨by decide +kernel, by decide +kernel⟩, List.mem_of_getElem? (i := 262) (by decide +kernel), List.mem_of_getElem? (i := 806) (by decide +kernel), List.mem_of_getElem? (i := 807) (by decide +kernel)⟩
theorem lw_p28 : lw_okq (⟨"SteamTunes$Suspects", "agrees", "(LSteamTunes$Whistles;III)Z"⟩, 8) := ⟨⟨by decide +kernel, by decide +kernel⟩, List.mem_of_getElem? (i := 262) (by decide +kernel), List.mem_of_getElem? (i := 814) (by decide +kernel), List.mem_of_getElem? (i := 815) (by decide +kernel)⟩
theorem lw_p29 : lw_okq (⟨"SteamTunes$Suspects", "triedCracks", "()I"⟩, 8) := ⟨⟨by decide +kernel, by decide +kernel⟩, List.mem_of_getElem? (i := 262) (by decide +kernel), List.mem_of_getElem? (i := 822) (by decide +kernel), List.mem_of_getElem? (i := 823) (by decide +kernel)⟩
theorem lw_p30 : lw_okq (⟨"SteamTunes$Suspects", "crackedBits", "()I"⟩, 8) := ⟨⟨by decide +kernel, by decide +kernel⟩, List.mem_of_getElem? (i := 262) (by decide +kernel), List.mem_of_getElem? (i := 831) (by decide +kernel), List.mem_of_getElem? (i := 832) (by decide +kernel)⟩
theorem lw_p31 : lw_okq (⟨"SteamTunes", "scanOne", "(II)I"⟩, 10) := ⟨⟨by decide +kernel, by decide +kernel⟩, List.mem_of_getElem? (i := 17) (by decide +kernel), List.mem_of_getElem? (i := 924) (by decide +kernel), List.mem_of_getElem? (i := 925) (by decide +kernel)⟩
def lw_privs_2 : List (MethodName × Nat) := [(⟨"SteamTunes", "tryOut", "(II)I"⟩, 10), (⟨"SteamTunes$Setting", "markNear", "(LSteamTunes$Whistles;I)V"⟩, 16), (⟨"SteamTunes$Setting", "listOptions", "(LSteamTunes$Whistles;I)V"⟩, 16), (⟨"SteamTunes$Setting", "fillSounding", "(LSteamTunes$Boiler;I)V"⟩, 16), (⟨"SteamTunes$Setting", "isOpen", "(II)Z"⟩, 16), (⟨"SteamTunes$Setting", "raise", "(III)V"⟩, 16), (⟨"SteamTunes$Setting", "fillResting", "(LSteamTunes$Boiler;I)V"⟩, 16), (⟨"SteamTunes$Setting", "follow", "(LSteamTunes$Boiler;LSteamTunes$Whistles;I)V"⟩, 16), (⟨"SteamTunes$Setting", "bestOption", "(LSteamTunes$Boiler;III)I"⟩, 16), (⟨"SteamTunes$Setting", "worthOf", "(LSteamTunes$Boiler;IIII)I"⟩, 16), (⟨"SteamTunes", "takeHeard", "(IIII)I"⟩, 10), (⟨"SteamTunes$Suspects", "explains", "(LSteamTunes$Boiler;LSteamTunes$Whistles;II)Z"⟩, 8), (⟨"SteamTunes$Suspects", "agrees", "(LSteamTunes$Whistles;III)Z"⟩, 8), (⟨"SteamTunes$Suspects", "triedCracks", "()I"⟩, 8), (⟨"SteamTunes$Suspects", "crackedBits", "()I"⟩, 8), (⟨"SteamTunes", "scanOne", "(II)I"⟩, 10)]
theorem lw_r2 : ∀ q ∈ lw_privs_2, lw_okq q := List.forall_mem_cons.mpr ⟨lw_p16, List.forall_mem_cons.mpr ⟨lw_p17, List.forall_mem_cons.mpr ⟨lw_p18, List.forall_mem_cons.mpr ⟨lw_p19, List.forall_mem_cons.mpr ⟨lw_p20, List.forall_mem_cons.mpr ⟨lw_p21, List.forall_mem_cons.mpr ⟨lw_p22, List.forall_mem_cons.mpr ⟨lw_p23, List.forall_mem_cons.mpr ⟨lw_p24, List.forall_mem_cons.mpr ⟨lw_p25, List.forall_mem_cons.mpr ⟨lw_p26, List.forall_mem_cons.mpr ⟨lw_p27, List.forall_mem_cons.mpr ⟨lw_p28, List.forall_mem_cons.mpr ⟨lw_p29, List.forall_mem_cons.mpr ⟨lw_p30, List.forall_mem_cons.mpr ⟨lw_p31, fun _ h => absurd h List.not_mem_nil⟩⟩⟩⟩⟩⟩⟩⟩⟩⟩⟩⟩⟩⟩⟩⟩
theorem lw_p32 : lw_okq (⟨"SteamTunesModel", "keeps", "()V"⟩, 55) := ⟨⟨by decide +kernel, by decide +kernel⟩, List.mem_of_getElem? (i := 936) (by decide +kernel), List.mem_of_getElem? (i := 1121) (by decide +kernel), List.mem_of_getElem? (i := 1122) (by decide +kernel)⟩
theorem lw_p33 : lw_okq (⟨"SteamTunesModel", "drawn", "(I)I"⟩, 55) := ⟨⟨by decide +kernel, by decide +kernel⟩, List.mem_of_getElem? (i := 936) (by decide +kernel), List.mem_of_getElem? (i := 1144) (by decide +kernel), List.mem_of_getElem? (i := 1145) (by decide +kernel)⟩
theorem lw_p34 : lw_okq (⟨"SteamTunesModel", "goes", "(I)I"⟩, 55) := ⟨⟨by decide +kernel, by decide +kernel⟩, List.mem_of_getElem? (i := 936) (by decide +kernel), List.mem_of_getElem? (i := 1152) (by decide +kernel), List.mem_of_getElem? (i := 1153) (by decide +kernel)⟩
theorem lw_p35 : lw_okq (⟨"SteamTunesModel", "strayOf", "(II)I"⟩, 55) := ⟨⟨by decide +kernel, by decide +kernel⟩, List.mem_of_getElem? (i := 936) (by decide +kernel), List.mem_of_getElem? (i := 1156) (by decide +kernel), List.mem_of_getElem? (i := 1157) (by decide +kernel)⟩
theorem lw_p36 : lw_okq (⟨"SteamTunesModel", "off", "(II)I"⟩, 55) := ⟨⟨by decide +kernel, by decide +kernel⟩, List.mem_of_getElem? (i := 936) (by decide +kernel), List.mem_of_getElem? (i := 1160) (by decide +kernel), List.mem_of_getElem? (i := 1161) (by decide +kernel)⟩
theorem lw_p37 : lw_okq (⟨"SteamTunesModel", "isWhistle", "(I)Z"⟩, 55) := ⟨⟨by decide +kernel, by decide +kernel⟩, List.mem_of_getElem? (i := 936) (by decide +kernel), List.mem_of_getElem? (i := 1180) (by decide +kernel), List.mem_of_getElem? (i := 1181) (by decide +kernel)⟩
theorem lw_p38 : lw_okq (⟨"SteamTunesModel", "next", "()V"⟩, 55) := ⟨⟨by decide +kernel, by decide +kernel⟩, List.mem_of_getElem? (i := 936) (by decide +kernel), List.mem_of_getElem? (i := 1232) (by decide +kernel), List.mem_of_getElem? (i := 1233) (by decide +kernel)⟩
theorem lw_p39 : lw_okq (⟨"SteamTunesModel", "look", "(I)I"⟩, 55) := ⟨⟨by decide +kernel, by decide +kernel⟩, List.mem_of_getElem? (i := 936) (by decide +kernel), List.mem_of_getElem? (i := 1236) (by decide +kernel), List.mem_of_getElem? (i := 1237) (by decide +kernel)⟩
theorem lw_p40 : lw_okq (⟨"SteamTunesModel", "readChord", "()V"⟩, 55) := ⟨⟨by decide +kernel, by decide +kernel⟩, List.mem_of_getElem? (i := 936) (by decide +kernel), List.mem_of_getElem? (i := 1242) (by decide +kernel), List.mem_of_getElem? (i := 1243) (by decide +kernel)⟩
theorem lw_p41 : lw_okq (⟨"SteamTunesModel", "fails", "(II)V"⟩, 55) := ⟨⟨by decide +kernel, by decide +kernel⟩, List.mem_of_getElem? (i := 936) (by decide +kernel), List.mem_of_getElem? (i := 1246) (by decide +kernel), List.mem_of_getElem? (i := 1247) (by decide +kernel)⟩
theorem lw_p42 : lw_okq (⟨"SteamTunesModel", "wants", "(ZI)V"⟩, 55) := ⟨⟨by decide +kernel, by decide +kernel⟩, List.mem_of_getElem? (i := 936) (by decide +kernel), List.mem_of_getElem? (i := 1255) (by decide +kernel), List.mem_of_getElem? (i := 1256) (by decide +kernel)⟩
theorem lw_p43 : lw_okq (⟨"SteamTunesModel", "readTune", "()V"⟩, 55) := ⟨⟨by decide +kernel, by decide +kernel⟩, List.mem_of_getElem? (i := 936) (by decide +kernel), List.mem_of_getElem? (i := 1259) (by decide +kernel), List.mem_of_getElem? (i := 1260) (by decide +kernel)⟩
theorem lw_p44 : lw_okq (⟨"SteamTunesModel", "isSign", "(I)Z"⟩, 55) := ⟨⟨by decide +kernel, by decide +kernel⟩, List.mem_of_getElem? (i := 936) (by decide +kernel), List.mem_of_getElem? (i := 1263) (by decide +kernel), List.mem_of_getElem? (i := 1264) (by decide +kernel)⟩
theorem lw_p45 : lw_okq (⟨"SteamTunesModel", "beatRead", "(I)V"⟩, 55) := ⟨⟨by decide +kernel, by decide +kernel⟩, List.mem_of_getElem? (i := 936) (by decide +kernel), List.mem_of_getElem? (i := 1267) (by decide +kernel), List.mem_of_getElem? (i := 1268) (by decide +kernel)⟩
theorem lw_p46 : lw_okq (⟨"SteamTunesModel", "closes", "()V"⟩, 55) := ⟨⟨by decide +kernel, by decide +kernel⟩, List.mem_of_getElem? (i := 936) (by decide +kernel), List.mem_of_getElem? (i := 1271) (by decide +kernel), List.mem_of_getElem? (i := 1272) (by decide +kernel)⟩
theorem lw_p47 : lw_okq (⟨"SteamTunesModel", "isTune", "(I)Z"⟩, 55) := ⟨⟨by decide +kernel, by decide +kernel⟩, List.mem_of_getElem? (i := 936) (by decide +kernel), List.mem_of_getElem? (i := 1283) (by decide +kernel), List.mem_of_getElem? (i := 1284) (by decide +kernel)⟩
def lw_privs_3 : List (MethodName × Nat) := [(⟨"SteamTunesModel", "keeps", "()V"⟩, 55), (⟨"SteamTunesModel", "drawn", "(I)I"⟩, 55), (⟨"SteamTunesModel", "goes", "(I)I"⟩, 55), (⟨"SteamTunesModel", "strayOf", "(II)I"⟩, 55), (⟨"SteamTunesModel", "off", "(II)I"⟩, 55), (⟨"SteamTunesModel", "isWhistle", "(I)Z"⟩, 55), (⟨"SteamTunesModel", "next", "()V"⟩, 55), (⟨"SteamTunesModel", "look", "(I)I"⟩, 55), (⟨"SteamTunesModel", "readChord", "()V"⟩, 55), (⟨"SteamTunesModel", "fails", "(II)V"⟩, 55), (⟨"SteamTunesModel", "wants", "(ZI)V"⟩, 55), (⟨"SteamTunesModel", "readTune", "()V"⟩, 55), (⟨"SteamTunesModel", "isSign", "(I)Z"⟩, 55), (⟨"SteamTunesModel", "beatRead", "(I)V"⟩, 55), (⟨"SteamTunesModel", "closes", "()V"⟩, 55), (⟨"SteamTunesModel", "isTune", "(I)Z"⟩, 55)]
theorem lw_r3 : ∀ q ∈ lw_privs_3, lw_okq q := List.forall_mem_cons.mpr ⟨lw_p32, List.forall_mem_cons.mpr ⟨lw_p33, List.forall_mem_cons.mpr ⟨lw_p34, List.forall_mem_cons.mpr ⟨lw_p35, List.forall_mem_cons.mpr ⟨lw_p36, List.forall_mem_cons.mpr ⟨lw_p37, List.forall_mem_cons.mpr ⟨lw_p38, List.forall_mem_cons.mpr ⟨lw_p39, List.forall_mem_cons.mpr ⟨lw_p40, List.forall_mem_cons.mpr ⟨lw_p41, List.forall_mem_cons.mpr ⟨lw_p42, List.forall_mem_cons.mpr ⟨lw_p43, List.forall_mem_cons.mpr ⟨lw_p44, List.forall_mem_cons.mpr ⟨lw_p45, List.forall_mem_cons.mpr ⟨lw_p46, List.forall_mem_cons.mpr ⟨lw_p47, fun _ h => absurd h List.not_mem_nil⟩⟩⟩⟩⟩⟩⟩⟩⟩⟩⟩⟩⟩⟩⟩⟩
theorem lw_p48 : lw_okq (⟨"SteamTunesModel", "chordAt", "(II)I"⟩, 55) := ⟨⟨by decide +kernel, by decide +kernel⟩, List.mem_of_getElem? (i := 936) (by decide +kernel), List.mem_of_getElem? (i := 1289) (by decide +kernel), List.mem_of_getElem? (i := 1290) (by decide +kernel)⟩
theorem lw_p49 : lw_okq (⟨"SteamTunesModel", "allOf", "(I)I"⟩, 55) := ⟨⟨by decide +kernel, by decide +kernel⟩, List.mem_of_getElem? (i := 936) (by decide +kernel), List.mem_of_getElem? (i := 1293) (by decide +kernel), List.mem_of_getElem? (i := 1294) (by decide +kernel)⟩
theorem lw_p50 : lw_okq (⟨"SteamTunesModel", "isIn", "(II)Z"⟩, 55) := ⟨⟨by decide +kernel, by decide +kernel⟩, List.mem_of_getElem? (i := 936) (by decide +kernel), List.mem_of_getElem? (i := 1303) (by decide +kernel), List.mem_of_getElem? (i := 1304) (by decide +kernel)⟩
theorem lw_p51 : lw_okq (⟨"SteamTunesModel", "tried", "(II)I"⟩, 55) := ⟨⟨by decide +kernel, by decide +kernel⟩, List.mem_of_getElem? (i := 936) (by decide +kernel), List.mem_of_getElem? (i := 1307) (by decide +kernel), List.mem_of_getElem? (i := 1308) (by decide +kernel)⟩
theorem lw_p52 : lw_okq (⟨"SteamTunesModel", "goesAll", "(II)I"⟩, 55) := ⟨⟨by decide +kernel, by decide +kernel⟩, List.mem_of_getElem? (i := 936) (by decide +kernel), List.mem_of_getElem? (i := 1311) (by decide +kernel), List.mem_of_getElem? (i := 1312) (by decide +kernel)⟩
theorem lw_p53 : lw_okq (⟨"SteamTunesModel", "moved", "(II)I"⟩, 55) := ⟨⟨by decide +kernel, by decide +kernel⟩, List.mem_of_getElem? (i := 936) (by decide +kernel), List.mem_of_getElem? (i := 1315) (by decide +kernel), List.mem_of_getElem? (i := 1316) (by decide +kernel)⟩
theorem lw_p54 : lw_okq (⟨"SteamTunesModel", "fills", "(IIII)V"⟩, 55) := ⟨⟨by decide +kernel, by decide +kernel⟩, List.mem_of_getElem? (i := 936) (by decide +kernel), List.mem_of_getElem? (i := 1333) (by decide +kernel), List.mem_of_getElem? (i := 1334) (by decide +kernel)⟩
theorem lw_p55 : lw_okq (⟨"SteamTunesModel", "prepares", "(I)V"⟩, 55) := ⟨⟨by decide +kernel, by decide +kernel⟩, List.mem_of_getElem? (i := 936) (by decide +kernel), List.mem_of_getElem? (i := 1337) (by decide +kernel), List.mem_of_getElem? (i := 1338) (by decide +kernel)⟩
theorem lw_p56 : lw_okq (⟨"SteamTunesModel", "meets", "(III)V"⟩, 55) := ⟨⟨by decide +kernel, by decide +kernel⟩, List.mem_of_getElem? (i := 936) (by decide +kernel), List.mem_of_getElem? (i := 1341) (by decide +kernel), List.mem_of_getElem? (i := 1342) (by decide +kernel)⟩
theorem lw_p57 : lw_okq (⟨"SteamTunesModel", "spot", "(III)I"⟩, 55) := ⟨⟨by decide +kernel, by decide +kernel⟩, List.mem_of_getElem? (i := 936) (by decide +kernel), List.mem_of_getElem? (i := 1345) (by decide +kernel), List.mem_of_getElem? (i := 1346) (by decide +kernel)⟩
theorem lw_p58 : lw_okq (⟨"SteamTunesModel", "then", "(II)I"⟩, 55) := ⟨⟨by decide +kernel, by decide +kernel⟩, List.mem_of_getElem? (i := 936) (by decide +kernel), List.mem_of_getElem? (i := 1349) (by decide +kernel), List.mem_of_getElem? (i := 1350) (by decide +kernel)⟩
theorem lw_p59 : lw_okq (⟨"SteamTunesModel", "bestSound", "(IIII)I"⟩, 55) := ⟨⟨by decide +kernel, by decide +kernel⟩, List.mem_of_getElem? (i := 936) (by decide +kernel), List.mem_of_getElem? (i := 1353) (by decide +kernel), List.mem_of_getElem? (i := 1354) (by decide +kernel)⟩
theorem lw_p60 : lw_okq (⟨"SteamTunesModel", "explains", "(IIIIII)I"⟩, 55) := ⟨⟨by decide +kernel, by decide +kernel⟩, List.mem_of_getElem? (i := 936) (by decide +kernel), List.mem_of_getElem? (i := 1365) (by decide +kernel), List.mem_of_getElem? (i := 1366) (by decide +kernel)⟩
theorem lw_p61 : lw_okq (⟨"SteamTunesModel", "drawnWith", "(II)I"⟩, 55) := ⟨⟨by decide +kernel, by decide +kernel⟩, List.mem_of_getElem? (i := 936) (by decide +kernel), List.mem_of_getElem? (i := 1372) (by decide +kernel), List.mem_of_getElem? (i := 1373) (by decide +kernel)⟩
theorem lw_p62 : lw_okq (⟨"SteamTunesModel", "farOf", "(II)I"⟩, 55) := ⟨⟨by decide +kernel, by decide +kernel⟩, List.mem_of_getElem? (i := 936) (by decide +kernel), List.mem_of_getElem? (i := 1394) (by decide +kernel), List.mem_of_getElem? (i := 1395) (by decide +kernel)⟩
theorem lw_p63 : lw_okq (⟨"SteamTunesModel", "heardAt", "(II)I"⟩, 55) := ⟨⟨by decide +kernel, by decide +kernel⟩, List.mem_of_getElem? (i := 936) (by decide +kernel), List.mem_of_getElem? (i := 1402) (by decide +kernel), List.mem_of_getElem? (i := 1403) (by decide +kernel)⟩
def lw_privs_4 : List (MethodName × Nat) := [(⟨"SteamTunesModel", "chordAt", "(II)I"⟩, 55), (⟨"SteamTunesModel", "allOf", "(I)I"⟩, 55), (⟨"SteamTunesModel", "isIn", "(II)Z"⟩, 55), (⟨"SteamTunesModel", "tried", "(II)I"⟩, 55), (⟨"SteamTunesModel", "goesAll", "(II)I"⟩, 55), (⟨"SteamTunesModel", "moved", "(II)I"⟩, 55), (⟨"SteamTunesModel", "fills", "(IIII)V"⟩, 55), (⟨"SteamTunesModel", "prepares", "(I)V"⟩, 55), (⟨"SteamTunesModel", "meets", "(III)V"⟩, 55), (⟨"SteamTunesModel", "spot", "(III)I"⟩, 55), (⟨"SteamTunesModel", "then", "(II)I"⟩, 55), (⟨"SteamTunesModel", "bestSound", "(IIII)I"⟩, 55), (⟨"SteamTunesModel", "explains", "(IIIIII)I"⟩, 55), (⟨"SteamTunesModel", "drawnWith", "(II)I"⟩, 55), (⟨"SteamTunesModel", "farOf", "(II)I"⟩, 55), (⟨"SteamTunesModel", "heardAt", "(II)I"⟩, 55)]
theorem lw_r4 : ∀ q ∈ lw_privs_4, lw_okq q := List.forall_mem_cons.mpr ⟨lw_p48, List.forall_mem_cons.mpr ⟨lw_p49, List.forall_mem_cons.mpr ⟨lw_p50, List.forall_mem_cons.mpr ⟨lw_p51, List.forall_mem_cons.mpr ⟨lw_p52, List.forall_mem_cons.mpr ⟨lw_p53, List.forall_mem_cons.mpr ⟨lw_p54, List.forall_mem_cons.mpr ⟨lw_p55, List.forall_mem_cons.mpr ⟨lw_p56, List.forall_mem_cons.mpr ⟨lw_p57, List.forall_mem_cons.mpr ⟨lw_p58, List.forall_mem_cons.mpr ⟨lw_p59, List.forall_mem_cons.mpr ⟨lw_p60, List.forall_mem_cons.mpr ⟨lw_p61, List.forall_mem_cons.mpr ⟨lw_p62, List.forall_mem_cons.mpr ⟨lw_p63, fun _ h => absurd h List.not_mem_nil⟩⟩⟩⟩⟩⟩⟩⟩⟩⟩⟩⟩⟩⟩⟩⟩
def lw_privs : List (MethodName × Nat) := lw_privs_1 ++ (lw_privs_2 ++ (lw_privs_3 ++ (lw_privs_4)))
def lw_tbl : List Cond := k2_sels lw_privs ++ tables_1
theorem lw_privs_ok : ∀ q ∈ lw_privs, lw_okq q := by
  show ∀ q ∈ lw_privs_1 ++ (lw_privs_2 ++ (lw_privs_3 ++ (lw_privs_4))), lw_okq q
  exact List.forall_mem_append.mpr ⟨lw_r1, List.forall_mem_append.mpr ⟨lw_r2, List.forall_mem_append.mpr ⟨lw_r3, lw_r4⟩⟩⟩
-- ===== end of PART A; then your names; then what follows =====
def RX0 : String := "SteamTunes$Acts"
def TX0 : u_T := fun k => match k with
  | 0 => ("SteamTunes$Acts", "rows", "[[I", true)
  | 1 => ("SteamTunes$Acts", "next", "I", false)
  | 2 => ("SteamTunes$Acts", "held", "I", false)
  | _ => ("SteamTunes$Acts", "changes", "I", false)
def tyX0 : Nat → FieldType := fun k => match k with
  | 0 => .array (.array .int)
  | 1 => .int
  | 2 => .int
  | _ => .int
abbrev wsX00 : List Cond := u_ws RX0 TX0 4
theorem nmX0 : ∀ a, a < 4 → ∀ b, b < 4 → a ≠ b → (TX0 a).2.1 ≠ (TX0 b).2.1 := by decide +kernel
theorem tyX0_ok : ∀ k, k < 4 → parseFieldDescriptor (TX0 k).2.2.1 = some (tyX0 k) := by decide +kernel
abbrev cX0_init : ByteArray := prog_2_method_1_code
def yX0_init : MethodName := ⟨RX0, "<init>", "()V"⟩
abbrev cX0_keep : ByteArray := prog_2_method_2_code
def yX0_keep : MethodName := ⟨RX0, "keep", "(LSteamTunes$Boiler;LSteamTunes$Whistles;)V"⟩
abbrev cX0_restore : ByteArray := prog_2_method_3_code
def yX0_restore : MethodName := ⟨RX0, "restore", "(LSteamTunes$Boiler;LSteamTunes$Whistles;)Z"⟩
def RX1 : String := "SteamTunes$Boiler"
def TX1 : u_T := fun k => match k with
  | 0 => ("SteamTunes$Boiler", "pressure", "I", false)
  | 1 => ("SteamTunes$Boiler", "water", "I", false)
  | 2 => ("SteamTunes$Boiler", "fire", "I", false)
  | 3 => ("SteamTunes$Boiler", "valve", "I", false)
  | _ => ("SteamTunes$Boiler", "blows", "I", false)
def tyX1 : Nat → FieldType := fun k => match k with
  | 0 => .int
  | 1 => .int
  | 2 => .int
  | 3 => .int
  | _ => .int
abbrev wsX10 : List Cond := u_ws RX1 TX1 5
theorem nmX1 : ∀ a, a < 5 → ∀ b, b < 5 → a ≠ b → (TX1 a).2.1 ≠ (TX1 b).2.1 := by decide +kernel
theorem tyX1_ok : ∀ k, k < 5 → parseFieldDescriptor (TX1 k).2.2.1 = some (tyX1 k) := by decide +kernel
abbrev cX1_init : ByteArray := prog_3_method_1_code
def yX1_init : MethodName := ⟨RX1, "<init>", "()V"⟩
abbrev cX1_copyFrom : ByteArray := prog_3_method_2_code
def yX1_copyFrom : MethodName := ⟨RX1, "copyFrom", "(LSteamTunes$Boiler;)V"⟩
abbrev cX1_pass : ByteArray := prog_3_method_3_code
def yX1_pass : MethodName := ⟨RX1, "pass", "(I)V"⟩
abbrev cX1_after : ByteArray := prog_3_method_4_code
def yX1_after : MethodName := ⟨RX1, "after", "(II)I"⟩
def RX2 : String := "SteamTunes$Reader"
def TX2 : u_T := fun k => match k with
  | 0 => ("SteamTunes$Reader", "tape", "[B", true)
  | 1 => ("SteamTunes$Reader", "length", "I", false)
  | 2 => ("SteamTunes$Reader", "at", "I", false)
  | 3 => ("SteamTunes$Reader", "kind", "I", false)
  | 4 => ("SteamTunes$Reader", "place", "I", false)
  | 5 => ("SteamTunes$Reader", "value", "I", false)
  | 6 => ("SteamTunes$Reader", "spoiledAt", "I", false)
  | 7 => ("SteamTunes$Reader", "fault", "I", false)
  | 8 => ("SteamTunes$Reader", "faultPlace", "I", false)
  | 9 => ("SteamTunes$Reader", "row", "[I", true)
  | 10 => ("SteamTunes$Reader", "beats", "I", false)
  | 11 => ("SteamTunes$Reader", "begins", "[I", true)
  | 12 => ("SteamTunes$Reader", "rounds", "[I", true)
  | _ => ("SteamTunes$Reader", "depth", "I", false)
def tyX2 : Nat → FieldType := fun k => match k with
  | 0 => .array .byte
  | 1 => .int
  | 2 => .int
  | 3 => .int
  | 4 => .int
  | 5 => .int
  | 6 => .int
  | 7 => .int
  | 8 => .int
  | 9 => .array .int
  | 10 => .int
  | 11 => .array .int
  | 12 => .array .int
  | _ => .int
abbrev wsX20 : List Cond := u_ws RX2 TX2 14
theorem nmX2 : ∀ a, a < 14 → ∀ b, b < 14 → a ≠ b → (TX2 a).2.1 ≠ (TX2 b).2.1 := by decide +kernel
theorem tyX2_ok : ∀ k, k < 14 → parseFieldDescriptor (TX2 k).2.2.1 = some (tyX2 k) := by decide +kernel
abbrev cX2_init : ByteArray := prog_4_method_1_code
def yX2_init : MethodName := ⟨RX2, "<init>", "()V"⟩
abbrev cX2_append : ByteArray := prog_4_method_2_code
def yX2_append : MethodName := ⟨RX2, "append", "(J)Z"⟩
abbrev cX2_readAll : ByteArray := prog_4_method_3_code
def yX2_readAll : MethodName := ⟨RX2, "readAll", "()V"⟩
abbrev cX2_readToken : ByteArray := prog_4_method_4_code
def yX2_readToken : MethodName := ⟨RX2, "readToken", "()V"⟩
abbrev cX2_isLetter : ByteArray := prog_4_method_5_code
def yX2_isLetter : MethodName := ⟨RX2, "isLetter", "(I)Z"⟩
abbrev cX2_isFigure : ByteArray := prog_4_method_6_code
def yX2_isFigure : MethodName := ⟨RX2, "isFigure", "(I)Z"⟩
abbrev cX2_readChord : ByteArray := prog_4_method_7_code
def yX2_readChord : MethodName := ⟨RX2, "readChord", "()V"⟩
abbrev cX2_readNumber : ByteArray := prog_4_method_8_code
def yX2_readNumber : MethodName := ⟨RX2, "readNumber", "()V"⟩
abbrev cX2_readSign : ByteArray := prog_4_method_9_code
def yX2_readSign : MethodName := ⟨RX2, "readSign", "()V"⟩
abbrev cX2_take : ByteArray := prog_4_method_10_code
def yX2_take : MethodName := ⟨RX2, "take", "(I)I"⟩
abbrev cX2_takeChord : ByteArray := prog_4_method_11_code
def yX2_takeChord : MethodName := ⟨RX2, "takeChord", "()I"⟩
abbrev cX2_addBeat : ByteArray := prog_4_method_12_code
def yX2_addBeat : MethodName := ⟨RX2, "addBeat", "(I)I"⟩
abbrev cX2_takeNumber : ByteArray := prog_4_method_13_code
def yX2_takeNumber : MethodName := ⟨RX2, "takeNumber", "()I"⟩
abbrev cX2_takeOpen : ByteArray := prog_4_method_14_code
def yX2_takeOpen : MethodName := ⟨RX2, "takeOpen", "()I"⟩
abbrev cX2_takeClose : ByteArray := prog_4_method_15_code
def yX2_takeClose : MethodName := ⟨RX2, "takeClose", "()I"⟩
abbrev cX2_takeEnd : ByteArray := prog_4_method_16_code
def yX2_takeEnd : MethodName := ⟨RX2, "takeEnd", "()I"⟩
abbrev cX2_misplaced : ByteArray := prog_4_method_17_code
def yX2_misplaced : MethodName := ⟨RX2, "misplaced", "()I"⟩
abbrev cX2_fail : ByteArray := prog_4_method_18_code
def yX2_fail : MethodName := ⟨RX2, "fail", "(II)V"⟩
def RX3 : String := "SteamTunes$River"
def TX3 : u_T := fun k => match k with
  | 0 => ("SteamTunes$River", "boatPlace", "[I", true)
  | 1 => ("SteamTunes$River", "boatLag", "[I", true)
  | 2 => ("SteamTunes$River", "boats", "I", false)
  | 3 => ("SteamTunes$River", "bendPlace", "[I", true)
  | 4 => ("SteamTunes$River", "bendLength", "[I", true)
  | 5 => ("SteamTunes$River", "bends", "I", false)
  | 6 => ("SteamTunes$River", "speed", "I", false)
  | 7 => ("SteamTunes$River", "inStep", "I", false)
  | 8 => ("SteamTunes$River", "firstPlace", "I", false)
  | 9 => ("SteamTunes$River", "lastPlace", "I", false)
  | _ => ("SteamTunes$River", "longest", "I", false)
def tyX3 : Nat → FieldType := fun k => match k with
  | 0 => .array .int
  | 1 => .array .int
  | 2 => .int
  | 3 => .array .int
  | 4 => .array .int
  | 5 => .int
  | 6 => .int
  | 7 => .int
  | 8 => .int
  | 9 => .int
  | _ => .int
abbrev wsX30 : List Cond := u_ws RX3 TX3 11
theorem nmX3 : ∀ a, a < 11 → ∀ b, b < 11 → a ≠ b → (TX3 a).2.1 ≠ (TX3 b).2.1 := by decide +kernel
theorem tyX3_ok : ∀ k, k < 11 → parseFieldDescriptor (TX3 k).2.2.1 = some (tyX3 k) := by decide +kernel
abbrev cX3_init : ByteArray := prog_5_method_1_code
def yX3_init : MethodName := ⟨RX3, "<init>", "()V"⟩
abbrev cX3_hasBoat : ByteArray := prog_5_method_2_code
def yX3_hasBoat : MethodName := ⟨RX3, "hasBoat", "(I)Z"⟩
abbrev cX3_addBoat : ByteArray := prog_5_method_3_code
def yX3_addBoat : MethodName := ⟨RX3, "addBoat", "(II)I"⟩
abbrev cX3_bendsAt : ByteArray := prog_5_method_4_code
def yX3_bendsAt : MethodName := ⟨RX3, "bendsAt", "(I)Z"⟩
abbrev cX3_addBend : ByteArray := prog_5_method_5_code
def yX3_addBend : MethodName := ⟨RX3, "addBend", "(II)I"⟩
abbrev cX3_way : ByteArray := prog_5_method_6_code
def yX3_way : MethodName := ⟨RX3, "way", "(II)I"⟩
abbrev cX3_firstHeard : ByteArray := prog_5_method_7_code
def yX3_firstHeard : MethodName := ⟨RX3, "firstHeard", "(II)I"⟩
abbrev cX3_walk : ByteArray := prog_5_method_8_code
def yX3_walk : MethodName := ⟨RX3, "walk", "(II)V"⟩
def RX4 : String := "SteamTunes$Setting"
def TX4 : u_T := fun k => match k with
  | 0 => ("SteamTunes$Setting", "table", "[I", false)
  | 1 => ("SteamTunes$Setting", "near", "[I", true)
  | 2 => ("SteamTunes$Setting", "row", "[I", true)
  | 3 => ("SteamTunes$Setting", "beats", "I", false)
  | 4 => ("SteamTunes$Setting", "levels", "I", false)
  | 5 => ("SteamTunes$Setting", "option", "[I", true)
  | 6 => ("SteamTunes$Setting", "drawn", "[I", true)
  | 7 => ("SteamTunes$Setting", "options", "I", false)
  | 8 => ("SteamTunes$Setting", "idle", "I", false)
  | 9 => ("SteamTunes$Setting", "sounds", "[I", true)
  | 10 => ("SteamTunes$Setting", "ahead", "[I", true)
  | 11 => ("SteamTunes$Setting", "total", "I", false)
  | 12 => ("SteamTunes$Setting", "rested", "I", false)
  | 13 => ("SteamTunes$Setting", "behind", "I", false)
  | 14 => ("SteamTunes$Setting", "asked", "[I", true)
  | _ => ("SteamTunes$Setting", "isSolved", "Z", false)
def tyX4 : Nat → FieldType := fun k => match k with
  | 0 => .array .int
  | 1 => .array .int
  | 2 => .array .int
  | 3 => .int
  | 4 => .int
  | 5 => .array .int
  | 6 => .array .int
  | 7 => .int
  | 8 => .int
  | 9 => .array .int
  | 10 => .array .int
  | 11 => .int
  | 12 => .int
  | 13 => .int
  | 14 => .array .int
  | _ => .boolean
abbrev wsX40 : List Cond := u_ws RX4 TX4 16
theorem nmX4 : ∀ a, a < 16 → ∀ b, b < 16 → a ≠ b → (TX4 a).2.1 ≠ (TX4 b).2.1 := by decide +kernel
theorem tyX4_ok : ∀ k, k < 16 → parseFieldDescriptor (TX4 k).2.2.1 = some (tyX4 k) := by decide +kernel
abbrev cX4_init : ByteArray := prog_6_method_1_code
def yX4_init : MethodName := ⟨RX4, "<init>", "()V"⟩
abbrev cX4_isFor : ByteArray := prog_6_method_2_code
def yX4_isFor : MethodName := ⟨RX4, "isFor", "(IIIII)Z"⟩
abbrev cX4_remember : ByteArray := prog_6_method_3_code
def yX4_remember : MethodName := ⟨RX4, "remember", "(IIIII)V"⟩
abbrev cX4_takeTune : ByteArray := prog_6_method_4_code
def yX4_takeTune : MethodName := ⟨RX4, "takeTune", "(LSteamTunes$Tunes;II)V"⟩
abbrev cX4_answer : ByteArray := prog_6_method_5_code
def yX4_answer : MethodName := ⟨RX4, "answer", "(I)I"⟩
abbrev cX4_solve : ByteArray := prog_6_method_6_code
def yX4_solve : MethodName := ⟨RX4, "solve", "(LSteamTunes$Boiler;LSteamTunes$Whistles;II)V"⟩
abbrev cX4_cell : ByteArray := prog_6_method_7_code
def yX4_cell : MethodName := ⟨RX4, "cell", "(II)I"⟩
abbrev cX4_markNear : ByteArray := prog_6_method_8_code
def yX4_markNear : MethodName := ⟨RX4, "markNear", "(LSteamTunes$Whistles;I)V"⟩
abbrev cX4_listOptions : ByteArray := prog_6_method_9_code
def yX4_listOptions : MethodName := ⟨RX4, "listOptions", "(LSteamTunes$Whistles;I)V"⟩
abbrev cX4_isOpen : ByteArray := prog_6_method_10_code
def yX4_isOpen : MethodName := ⟨RX4, "isOpen", "(II)Z"⟩
abbrev cX4_fillSounding : ByteArray := prog_6_method_11_code
def yX4_fillSounding : MethodName := ⟨RX4, "fillSounding", "(LSteamTunes$Boiler;I)V"⟩
abbrev cX4_raise : ByteArray := prog_6_method_12_code
def yX4_raise : MethodName := ⟨RX4, "raise", "(III)V"⟩
abbrev cX4_fillResting : ByteArray := prog_6_method_13_code
def yX4_fillResting : MethodName := ⟨RX4, "fillResting", "(LSteamTunes$Boiler;I)V"⟩
abbrev cX4_follow : ByteArray := prog_6_method_14_code
def yX4_follow : MethodName := ⟨RX4, "follow", "(LSteamTunes$Boiler;LSteamTunes$Whistles;I)V"⟩
abbrev cX4_bestOption : ByteArray := prog_6_method_15_code
def yX4_bestOption : MethodName := ⟨RX4, "bestOption", "(LSteamTunes$Boiler;III)I"⟩
abbrev cX4_worthOf : ByteArray := prog_6_method_16_code
def yX4_worthOf : MethodName := ⟨RX4, "worthOf", "(LSteamTunes$Boiler;IIII)I"⟩
def RX5 : String := "SteamTunes$Sheets"
def TX5 : u_T := fun k => match k with
  | 0 => ("SteamTunes$Sheets", "cells", "[[I", true)
  | 1 => ("SteamTunes$Sheets", "laneOf", "[I", true)
  | _ => ("SteamTunes$Sheets", "size", "[I", true)
def tyX5 : Nat → FieldType := fun k => match k with
  | 0 => .array (.array .int)
  | 1 => .array .int
  | _ => .array .int
abbrev wsX50 : List Cond := u_ws RX5 TX5 3
theorem nmX5 : ∀ a, a < 3 → ∀ b, b < 3 → a ≠ b → (TX5 a).2.1 ≠ (TX5 b).2.1 := by decide +kernel
theorem tyX5_ok : ∀ k, k < 3 → parseFieldDescriptor (TX5 k).2.2.1 = some (tyX5 k) := by decide +kernel
abbrev cX5_init : ByteArray := prog_7_method_1_code
def yX5_init : MethodName := ⟨RX5, "<init>", "()V"⟩
abbrev cX5_has : ByteArray := prog_7_method_2_code
def yX5_has : MethodName := ⟨RX5, "has", "(I)Z"⟩
abbrev cX5_isLane : ByteArray := prog_7_method_3_code
def yX5_isLane : MethodName := ⟨RX5, "isLane", "(I)Z"⟩
abbrev cX5_isNothing : ByteArray := prog_7_method_4_code
def yX5_isNothing : MethodName := ⟨RX5, "isNothing", "(I)Z"⟩
abbrev cX5_hasCell : ByteArray := prog_7_method_5_code
def yX5_hasCell : MethodName := ⟨RX5, "hasCell", "(II)Z"⟩
abbrev cX5_faultAs : ByteArray := prog_7_method_6_code
def yX5_faultAs : MethodName := ⟨RX5, "faultAs", "(II)I"⟩
abbrev cX5_renew : ByteArray := prog_7_method_7_code
def yX5_renew : MethodName := ⟨RX5, "renew", "(III)V"⟩
abbrev cX5_put : ByteArray := prog_7_method_8_code
def yX5_put : MethodName := ⟨RX5, "put", "(III)V"⟩
def RX6 : String := "SteamTunes$Suspects"
def TX6 : u_T := fun k => match k with
  | 0 => ("SteamTunes$Suspects", "row", "[I", true)
  | 1 => ("SteamTunes$Suspects", "cells", "[I", true)
  | 2 => ("SteamTunes$Suspects", "beats", "I", false)
  | 3 => ("SteamTunes$Suspects", "tried", "[I", true)
  | 4 => ("SteamTunes$Suspects", "known", "I", false)
  | 5 => ("SteamTunes$Suspects", "cracks", "[I", true)
  | 6 => ("SteamTunes$Suspects", "many", "I", false)
  | _ => ("SteamTunes$Suspects", "leaking", "I", false)
def tyX6 : Nat → FieldType := fun k => match k with
  | 0 => .array .int
  | 1 => .array .int
  | 2 => .int
  | 3 => .array .int
  | 4 => .int
  | 5 => .array .int
  | 6 => .int
  | _ => .int
abbrev wsX60 : List Cond := u_ws RX6 TX6 8
theorem nmX6 : ∀ a, a < 8 → ∀ b, b < 8 → a ≠ b → (TX6 a).2.1 ≠ (TX6 b).2.1 := by decide +kernel
theorem tyX6_ok : ∀ k, k < 8 → parseFieldDescriptor (TX6 k).2.2.1 = some (tyX6 k) := by decide +kernel
abbrev cX6_init : ByteArray := prog_8_method_1_code
def yX6_init : MethodName := ⟨RX6, "<init>", "()V"⟩
abbrev cX6_forget : ByteArray := prog_8_method_2_code
def yX6_forget : MethodName := ⟨RX6, "forget", "()V"⟩
abbrev cX6_addBeat : ByteArray := prog_8_method_3_code
def yX6_addBeat : MethodName := ⟨RX6, "addBeat", "(II)V"⟩
abbrev cX6_find : ByteArray := prog_8_method_4_code
def yX6_find : MethodName := ⟨RX6, "find", "(LSteamTunes$Boiler;LSteamTunes$Whistles;I)Z"⟩
abbrev cX6_explains : ByteArray := prog_8_method_5_code
def yX6_explains : MethodName := ⟨RX6, "explains", "(LSteamTunes$Boiler;LSteamTunes$Whistles;II)Z"⟩
abbrev cX6_agrees : ByteArray := prog_8_method_6_code
def yX6_agrees : MethodName := ⟨RX6, "agrees", "(LSteamTunes$Whistles;III)Z"⟩
abbrev cX6_triedCracks : ByteArray := prog_8_method_7_code
def yX6_triedCracks : MethodName := ⟨RX6, "triedCracks", "()I"⟩
abbrev cX6_answer : ByteArray := prog_8_method_8_code
def yX6_answer : MethodName := ⟨RX6, "answer", "(I)I"⟩
abbrev cX6_crackedBits : ByteArray := prog_8_method_9_code
def yX6_crackedBits : MethodName := ⟨RX6, "crackedBits", "()I"⟩
def RX7 : String := "SteamTunes$Tunes"
def TX7 : u_T := fun k => match k with
  | 0 => ("SteamTunes$Tunes", "rows", "[[I", true)
  | 1 => ("SteamTunes$Tunes", "beats", "[I", true)
  | _ => ("SteamTunes$Tunes", "number", "I", false)
def tyX7 : Nat → FieldType := fun k => match k with
  | 0 => .array (.array .int)
  | 1 => .array .int
  | _ => .int
abbrev wsX70 : List Cond := u_ws RX7 TX7 3
theorem nmX7 : ∀ a, a < 3 → ∀ b, b < 3 → a ≠ b → (TX7 a).2.1 ≠ (TX7 b).2.1 := by decide +kernel
theorem tyX7_ok : ∀ k, k < 3 → parseFieldDescriptor (TX7 k).2.2.1 = some (tyX7 k) := by decide +kernel
abbrev cX7_init : ByteArray := prog_9_method_1_code
def yX7_init : MethodName := ⟨RX7, "<init>", "()V"⟩
abbrev cX7_add : ByteArray := prog_9_method_2_code
def yX7_add : MethodName := ⟨RX7, "add", "([II)I"⟩
abbrev cX7_has : ByteArray := prog_9_method_3_code
def yX7_has : MethodName := ⟨RX7, "has", "(I)Z"⟩
abbrev cX7_sounding : ByteArray := prog_9_method_4_code
def yX7_sounding : MethodName := ⟨RX7, "sounding", "(I)I"⟩
abbrev cX7_whistlesOf : ByteArray := prog_9_method_5_code
def yX7_whistlesOf : MethodName := ⟨RX7, "whistlesOf", "(I)I"⟩
abbrev cX7_goes : ByteArray := prog_9_method_6_code
def yX7_goes : MethodName := ⟨RX7, "goes", "(III)Z"⟩
abbrev cX7_chordIn : ByteArray := prog_9_method_7_code
def yX7_chordIn : MethodName := ⟨RX7, "chordIn", "(III)I"⟩
def RX8 : String := "SteamTunes$Whistles"
def TX8 : u_T := fun k => match k with
  | 0 => ("SteamTunes$Whistles", "note", "[I", true)
  | 1 => ("SteamTunes$Whistles", "draw", "[I", true)
  | 2 => ("SteamTunes$Whistles", "slope", "[I", true)
  | 3 => ("SteamTunes$Whistles", "stuck", "[Z", true)
  | 4 => ("SteamTunes$Whistles", "stem", "[I", true)
  | 5 => ("SteamTunes$Whistles", "crack", "[I", true)
  | 6 => ("SteamTunes$Whistles", "leaks", "I", false)
  | _ => ("SteamTunes$Whistles", "number", "I", false)
def tyX8 : Nat → FieldType := fun k => match k with
  | 0 => .array .int
  | 1 => .array .int
  | 2 => .array .int
  | 3 => .array .boolean
  | 4 => .array .int
  | 5 => .array .int
  | 6 => .int
  | _ => .int
abbrev wsX80 : List Cond := u_ws RX8 TX8 8
theorem nmX8 : ∀ a, a < 8 → ∀ b, b < 8 → a ≠ b → (TX8 a).2.1 ≠ (TX8 b).2.1 := by decide +kernel
theorem tyX8_ok : ∀ k, k < 8 → parseFieldDescriptor (TX8 k).2.2.1 = some (tyX8 k) := by decide +kernel
abbrev cX8_init : ByteArray := prog_10_method_1_code
def yX8_init : MethodName := ⟨RX8, "<init>", "()V"⟩
abbrev cX8_add : ByteArray := prog_10_method_2_code
def yX8_add : MethodName := ⟨RX8, "add", "(IIIZ)I"⟩
abbrev cX8_has : ByteArray := prog_10_method_3_code
def yX8_has : MethodName := ⟨RX8, "has", "(I)Z"⟩
abbrev cX8_all : ByteArray := prog_10_method_4_code
def yX8_all : MethodName := ⟨RX8, "all", "()I"⟩
abbrev cX8_hasAll : ByteArray := prog_10_method_5_code
def yX8_hasAll : MethodName := ⟨RX8, "hasAll", "(I)Z"⟩
abbrev cX8_bentAt : ByteArray := prog_10_method_6_code
def yX8_bentAt : MethodName := ⟨RX8, "bentAt", "(II)I"⟩
abbrev cX8_offAt : ByteArray := prog_10_method_7_code
def yX8_offAt : MethodName := ⟨RX8, "offAt", "(II)I"⟩
abbrev cX8_isNear : ByteArray := prog_10_method_8_code
def yX8_isNear : MethodName := ⟨RX8, "isNear", "(III)Z"⟩
abbrev cX8_strayOf : ByteArray := prog_10_method_9_code
def yX8_strayOf : MethodName := ⟨RX8, "strayOf", "(II)I"⟩
abbrev cX8_drawnBy : ByteArray := prog_10_method_10_code
def yX8_drawnBy : MethodName := ⟨RX8, "drawnBy", "(II)I"⟩
abbrev cX8_bringNear : ByteArray := prog_10_method_11_code
def yX8_bringNear : MethodName := ⟨RX8, "bringNear", "(I)V"⟩
abbrev cX8_exactAt : ByteArray := prog_10_method_12_code
def yX8_exactAt : MethodName := ⟨RX8, "exactAt", "(I)I"⟩
abbrev cX8_cracked : ByteArray := prog_10_method_13_code
def yX8_cracked : MethodName := ⟨RX8, "cracked", "()I"⟩
def RX9 : String := "SteamTunes"
def TX9 : u_T := fun k => match k with
  | 0 => ("SteamTunes", "boiler", "LSteamTunes$Boiler;", true)
  | 1 => ("SteamTunes", "trial", "LSteamTunes$Boiler;", true)
  | 2 => ("SteamTunes", "whistles", "LSteamTunes$Whistles;", true)
  | 3 => ("SteamTunes", "acts", "LSteamTunes$Acts;", true)
  | 4 => ("SteamTunes", "reader", "LSteamTunes$Reader;", true)
  | 5 => ("SteamTunes", "tunes", "LSteamTunes$Tunes;", true)
  | 6 => ("SteamTunes", "setting", "LSteamTunes$Setting;", true)
  | 7 => ("SteamTunes", "suspects", "LSteamTunes$Suspects;", true)
  | 8 => ("SteamTunes", "river", "LSteamTunes$River;", true)
  | _ => ("SteamTunes", "sheets", "LSteamTunes$Sheets;", true)
def tyX9 : Nat → FieldType := fun k => match k with
  | 0 => .object "SteamTunes$Boiler"
  | 1 => .object "SteamTunes$Boiler"
  | 2 => .object "SteamTunes$Whistles"
  | 3 => .object "SteamTunes$Acts"
  | 4 => .object "SteamTunes$Reader"
  | 5 => .object "SteamTunes$Tunes"
  | 6 => .object "SteamTunes$Setting"
  | 7 => .object "SteamTunes$Suspects"
  | 8 => .object "SteamTunes$River"
  | _ => .object "SteamTunes$Sheets"
abbrev wsX90 : List Cond := u_ws RX9 TX9 10
theorem nmX9 : ∀ a, a < 10 → ∀ b, b < 10 → a ≠ b → (TX9 a).2.1 ≠ (TX9 b).2.1 := by decide +kernel
theorem tyX9_ok : ∀ k, k < 10 → parseFieldDescriptor (TX9 k).2.2.1 = some (tyX9 k) := by decide +kernel
abbrev cX9_init : ByteArray := prog_1_method_1_code
def yX9_init : MethodName := ⟨RX9, "<init>", "()V"⟩
abbrev cX9_fire : ByteArray := prog_1_method_2_code
def yX9_fire : MethodName := ⟨RX9, "fire", "(I)I"⟩
abbrev cX9_water : ByteArray := prog_1_method_3_code
def yX9_water : MethodName := ⟨RX9, "water", "(I)I"⟩
abbrev cX9_valve : ByteArray := prog_1_method_4_code
def yX9_valve : MethodName := ⟨RX9, "valve", "(I)I"⟩
abbrev cX9_pressure : ByteArray := prog_1_method_5_code
def yX9_pressure : MethodName := ⟨RX9, "pressure", "(I)I"⟩
abbrev cX9_boiler : ByteArray := prog_1_method_6_code
def yX9_boiler : MethodName := ⟨RX9, "boiler", "(I)I"⟩
abbrev cX9_beat : ByteArray := prog_1_method_7_code
def yX9_beat : MethodName := ⟨RX9, "beat", "(I)I"⟩
abbrev cX9_whistle : ByteArray := prog_1_method_8_code
def yX9_whistle : MethodName := ⟨RX9, "whistle", "(IIIZ)I"⟩
abbrev cX9_told : ByteArray := prog_1_method_9_code
def yX9_told : MethodName := ⟨RX9, "told", "(II)I"⟩
abbrev cX9_stem : ByteArray := prog_1_method_10_code
def yX9_stem : MethodName := ⟨RX9, "stem", "(II)I"⟩
abbrev cX9_crack : ByteArray := prog_1_method_11_code
def yX9_crack : MethodName := ⟨RX9, "crack", "(II)I"⟩
abbrev cX9_leak : ByteArray := prog_1_method_12_code
def yX9_leak : MethodName := ⟨RX9, "leak", "(IZ)I"⟩
abbrev cX9_pitch : ByteArray := prog_1_method_13_code
def yX9_pitch : MethodName := ⟨RX9, "pitch", "(II)I"⟩
abbrev cX9_holds : ByteArray := prog_1_method_14_code
def yX9_holds : MethodName := ⟨RX9, "holds", "(II)I"⟩
abbrev cX9_tuneAll : ByteArray := prog_1_method_15_code
def yX9_tuneAll : MethodName := ⟨RX9, "tuneAll", "(I)I"⟩
abbrev cX9_agree : ByteArray := prog_1_method_16_code
def yX9_agree : MethodName := ⟨RX9, "agree", "(I)I"⟩
abbrev cX9_feed : ByteArray := prog_1_method_17_code
def yX9_feed : MethodName := ⟨RX9, "feed", "(J)I"⟩
abbrev cX9_end : ByteArray := prog_1_method_18_code
def yX9_end : MethodName := ⟨RX9, "end", "(I)I"⟩
abbrev cX9_tune : ByteArray := prog_1_method_19_code
def yX9_tune : MethodName := ⟨RX9, "tune", "()I"⟩
abbrev cX9_fault : ByteArray := prog_1_method_20_code
def yX9_fault : MethodName := ⟨RX9, "fault", "()I"⟩
abbrev cX9_tuneOf : ByteArray := prog_1_method_21_code
def yX9_tuneOf : MethodName := ⟨RX9, "tuneOf", "(II)I"⟩
abbrev cX9_play : ByteArray := prog_1_method_22_code
def yX9_play : MethodName := ⟨RX9, "play", "(II)I"⟩
abbrev cX9_would : ByteArray := prog_1_method_23_code
def yX9_would : MethodName := ⟨RX9, "would", "(II)I"⟩
abbrev cX9_key : ByteArray := prog_1_method_24_code
def yX9_key : MethodName := ⟨RX9, "key", "(II)I"⟩
abbrev cX9_set : ByteArray := prog_1_method_25_code
def yX9_set : MethodName := ⟨RX9, "set", "(IIIII)I"⟩
abbrev cX9_blame : ByteArray := prog_1_method_26_code
def yX9_blame : MethodName := ⟨RX9, "blame", "(IIIIIII)I"⟩
abbrev cX9_boat : ByteArray := prog_1_method_27_code
def yX9_boat : MethodName := ⟨RX9, "boat", "(II)I"⟩
abbrev cX9_bend : ByteArray := prog_1_method_28_code
def yX9_bend : MethodName := ⟨RX9, "bend", "(II)I"⟩
abbrev cX9_speed : ByteArray := prog_1_method_29_code
def yX9_speed : MethodName := ⟨RX9, "speed", "(I)I"⟩
abbrev cX9_far : ByteArray := prog_1_method_30_code
def yX9_far : MethodName := ⟨RX9, "far", "(II)I"⟩
abbrev cX9_heard : ByteArray := prog_1_method_31_code
def yX9_heard : MethodName := ⟨RX9, "heard", "(III)I"⟩
abbrev cX9_step : ByteArray := prog_1_method_32_code
def yX9_step : MethodName := ⟨RX9, "step", "(III)I"⟩
abbrev cX9_undo : ByteArray := prog_1_method_33_code
def yX9_undo : MethodName := ⟨RX9, "undo", "()I"⟩
abbrev cX9_sheet : ByteArray := prog_1_method_34_code
def yX9_sheet : MethodName := ⟨RX9, "sheet", "(III)I"⟩
abbrev cX9_lay : ByteArray := prog_1_method_35_code
def yX9_lay : MethodName := ⟨RX9, "lay", "(III)I"⟩
abbrev cX9_scan : ByteArray := prog_1_method_36_code
def yX9_scan : MethodName := ⟨RX9, "scan", "(IIII)I"⟩
abbrev cX9_count : ByteArray := prog_1_method_37_code
def yX9_count : MethodName := ⟨RX9, "count", "(I)I"⟩
abbrev cX9_tryOut : ByteArray := prog_1_method_38_code
def yX9_tryOut : MethodName := ⟨RX9, "tryOut", "(II)I"⟩
abbrev cX9_takeHeard : ByteArray := prog_1_method_39_code
def yX9_takeHeard : MethodName := ⟨RX9, "takeHeard", "(IIII)I"⟩
abbrev cX9_scanOne : ByteArray := prog_1_method_40_code
def yX9_scanOne : MethodName := ⟨RX9, "scanOne", "(II)I"⟩
abbrev cX9_isBeat : ByteArray := prog_1_method_41_code
def yX9_isBeat : MethodName := ⟨RX9, "isBeat", "(III)Z"⟩
abbrev cX9_isKey : ByteArray := prog_1_method_42_code
def yX9_isKey : MethodName := ⟨RX9, "isKey", "(I)Z"⟩
abbrev cX9_isPlace : ByteArray := prog_1_method_43_code
def yX9_isPlace : MethodName := ⟨RX9, "isPlace", "(I)Z"⟩
abbrev cX9_isWithin : ByteArray := prog_1_method_44_code
def yX9_isWithin : MethodName := ⟨RX9, "isWithin", "(III)Z"⟩
abbrev cX9_leastOf : ByteArray := prog_1_method_45_code
def yX9_leastOf : MethodName := ⟨RX9, "leastOf", "(I)I"⟩
abbrev cX9_greatestOf : ByteArray := prog_1_method_46_code
def yX9_greatestOf : MethodName := ⟨RX9, "greatestOf", "(I)I"⟩
def RX10 : String := "SteamTunesModel"
def TX10 : u_T := fun k => match k with
  | 0 => ("SteamTunesModel", "steam", "I", false)
  | 1 => ("SteamTunesModel", "water", "I", false)
  | 2 => ("SteamTunesModel", "fire", "I", false)
  | 3 => ("SteamTunesModel", "valve", "I", false)
  | 4 => ("SteamTunesModel", "blows", "I", false)
  | 5 => ("SteamTunesModel", "whistles", "I", false)
  | 6 => ("SteamTunesModel", "notes", "[I", true)
  | 7 => ("SteamTunesModel", "draws", "[I", true)
  | 8 => ("SteamTunesModel", "slopes", "[I", true)
  | 9 => ("SteamTunesModel", "isStuck", "[Z", true)
  | 10 => ("SteamTunesModel", "stems", "[I", true)
  | 11 => ("SteamTunesModel", "cracks", "[I", true)
  | 12 => ("SteamTunesModel", "leaks", "[Z", true)
  | 13 => ("SteamTunesModel", "acts", "I", false)
  | 14 => ("SteamTunesModel", "kept", "[I", true)
  | 15 => ("SteamTunesModel", "tape", "[I", true)
  | 16 => ("SteamTunesModel", "taped", "I", false)
  | 17 => ("SteamTunesModel", "pos", "I", false)
  | 18 => ("SteamTunesModel", "from", "I", false)
  | 19 => ("SteamTunesModel", "sort", "I", false)
  | 20 => ("SteamTunesModel", "value", "I", false)
  | 21 => ("SteamTunesModel", "fault", "I", false)
  | 22 => ("SteamTunesModel", "wrongAt", "I", false)
  | 23 => ("SteamTunesModel", "tunes", "I", false)
  | 24 => ("SteamTunesModel", "tMany", "[I", true)
  | 25 => ("SteamTunesModel", "tChords", "[I", true)
  | 26 => ("SteamTunesModel", "read", "[I", true)
  | 27 => ("SteamTunesModel", "readMany", "I", false)
  | 28 => ("SteamTunesModel", "isTooLong", "Z", false)
  | 29 => ("SteamTunesModel", "openAt", "[I", true)
  | 30 => ("SteamTunesModel", "openTimes", "[I", true)
  | 31 => ("SteamTunesModel", "open", "I", false)
  | 32 => ("SteamTunesModel", "table", "[I", true)
  | 33 => ("SteamTunesModel", "setChord", "[I", true)
  | 34 => ("SteamTunesModel", "setRests", "[I", true)
  | 35 => ("SteamTunesModel", "setSound", "I", false)
  | 36 => ("SteamTunesModel", "setSum", "I", false)
  | 37 => ("SteamTunesModel", "setSteam", "I", false)
  | 38 => ("SteamTunesModel", "mayAt", "[I", true)
  | 39 => ("SteamTunesModel", "drawOf", "[I", true)
  | 40 => ("SteamTunesModel", "manyOf", "[I", true)
  | 41 => ("SteamTunesModel", "isMet", "[Z", true)
  | 42 => ("SteamTunesModel", "found", "[I", true)
  | 43 => ("SteamTunesModel", "isFound", "[Z", true)
  | 44 => ("SteamTunesModel", "bestFound", "[I", true)
  | 45 => ("SteamTunesModel", "boats", "I", false)
  | 46 => ("SteamTunesModel", "bPlace", "[I", true)
  | 47 => ("SteamTunesModel", "bLag", "[I", true)
  | 48 => ("SteamTunesModel", "bends", "I", false)
  | 49 => ("SteamTunesModel", "nPlace", "[I", true)
  | 50 => ("SteamTunesModel", "nLength", "[I", true)
  | 51 => ("SteamTunesModel", "speed", "I", false)
  | 52 => ("SteamTunesModel", "lanes", "[I", true)
  | 53 => ("SteamTunesModel", "sizes", "[I", true)
  | _ => ("SteamTunesModel", "cells", "[I", true)
def tyX10 : Nat → FieldType := fun k => match k with
  | 0 => .int
  | 1 => .int
  | 2 => .int
  | 3 => .int
  | 4 => .int
  | 5 => .int
  | 6 => .array .int
  | 7 => .array .int
  | 8 => .array .int
  | 9 => .array .boolean
  | 10 => .array .int
  | 11 => .array .int
  | 12 => .array .boolean
  | 13 => .int
  | 14 => .array .int
  | 15 => .array .int
  | 16 => .int
  | 17 => .int
  | 18 => .int
  | 19 => .int
  | 20 => .int
  | 21 => .int
  | 22 => .int
  | 23 => .int
  | 24 => .array .int
  | 25 => .array .int
  | 26 => .array .int
  | 27 => .int
  | 28 => .boolean
  | 29 => .array .int
  | 30 => .array .int
  | 31 => .int
  | 32 => .array .int
  | 33 => .array .int
  | 34 => .array .int
  | 35 => .int
  | 36 => .int
  | 37 => .int
  | 38 => .array .int
  | 39 => .array .int
  | 40 => .array .int
  | 41 => .array .boolean
  | 42 => .array .int
  | 43 => .array .boolean
  | 44 => .array .int
  | 45 => .int
  | 46 => .array .int
  | 47 => .array .int
  | 48 => .int
  | 49 => .array .int
  | 50 => .array .int
  | 51 => .int
  | 52 => .array .int
  | 53 => .array .int
  | _ => .array .int
abbrev wsX100 : List Cond := u_ws RX10 TX10 55
theorem nmX10 : ∀ a, a < 55 → ∀ b, b < 55 → a ≠ b → (TX10 a).2.1 ≠ (TX10 b).2.1 := by decide +kernel
theorem tyX10_ok : ∀ k, k < 55 → parseFieldDescriptor (TX10 k).2.2.1 = some (tyX10 k) := by decide +kernel
abbrev cX10_init : ByteArray := prog_12_method_1_code
def yX10_init : MethodName := ⟨RX10, "<init>", "()V"⟩
abbrev cX10_in : ByteArray := prog_12_method_3_code
def yX10_in : MethodName := ⟨RX10, "in", "(JJJ)Z"⟩
abbrev cX10_down : ByteArray := prog_12_method_4_code
def yX10_down : MethodName := ⟨RX10, "down", "(II)I"⟩
abbrev cX10_size : ByteArray := prog_12_method_5_code
def yX10_size : MethodName := ⟨RX10, "size", "(I)I"⟩
abbrev cX10_isWhistle : ByteArray := prog_12_method_6_code
def yX10_isWhistle : MethodName := ⟨RX10, "isWhistle", "(I)Z"⟩
abbrev cX10_keeps : ByteArray := prog_12_method_7_code
def yX10_keeps : MethodName := ⟨RX10, "keeps", "()V"⟩
abbrev cX10_undo : ByteArray := prog_12_method_8_code
def yX10_undo : MethodName := ⟨RX10, "undo", "()I"⟩
abbrev cX10_fire : ByteArray := prog_12_method_9_code
def yX10_fire : MethodName := ⟨RX10, "fire", "(I)I"⟩
abbrev cX10_water : ByteArray := prog_12_method_10_code
def yX10_water : MethodName := ⟨RX10, "water", "(I)I"⟩
abbrev cX10_valve : ByteArray := prog_12_method_11_code
def yX10_valve : MethodName := ⟨RX10, "valve", "(I)I"⟩
abbrev cX10_pressure : ByteArray := prog_12_method_12_code
def yX10_pressure : MethodName := ⟨RX10, "pressure", "(I)I"⟩
abbrev cX10_drawn : ByteArray := prog_12_method_13_code
def yX10_drawn : MethodName := ⟨RX10, "drawn", "(I)I"⟩
abbrev cX10_boiler : ByteArray := prog_12_method_14_code
def yX10_boiler : MethodName := ⟨RX10, "boiler", "(I)I"⟩
abbrev cX10_off : ByteArray := prog_12_method_15_code
def yX10_off : MethodName := ⟨RX10, "off", "(II)I"⟩
abbrev cX10_strayOf : ByteArray := prog_12_method_16_code
def yX10_strayOf : MethodName := ⟨RX10, "strayOf", "(II)I"⟩
abbrev cX10_goes : ByteArray := prog_12_method_17_code
def yX10_goes : MethodName := ⟨RX10, "goes", "(I)I"⟩
abbrev cX10_beat : ByteArray := prog_12_method_18_code
def yX10_beat : MethodName := ⟨RX10, "beat", "(I)I"⟩
abbrev cX10_whistle : ByteArray := prog_12_method_19_code
def yX10_whistle : MethodName := ⟨RX10, "whistle", "(IIIZ)I"⟩
abbrev cX10_told : ByteArray := prog_12_method_20_code
def yX10_told : MethodName := ⟨RX10, "told", "(II)I"⟩
abbrev cX10_stem : ByteArray := prog_12_method_21_code
def yX10_stem : MethodName := ⟨RX10, "stem", "(II)I"⟩
abbrev cX10_crack : ByteArray := prog_12_method_22_code
def yX10_crack : MethodName := ⟨RX10, "crack", "(II)I"⟩
abbrev cX10_leak : ByteArray := prog_12_method_23_code
def yX10_leak : MethodName := ⟨RX10, "leak", "(IZ)I"⟩
abbrev cX10_pitch : ByteArray := prog_12_method_24_code
def yX10_pitch : MethodName := ⟨RX10, "pitch", "(II)I"⟩
abbrev cX10_holds : ByteArray := prog_12_method_25_code
def yX10_holds : MethodName := ⟨RX10, "holds", "(II)I"⟩
abbrev cX10_tuneAll : ByteArray := prog_12_method_26_code
def yX10_tuneAll : MethodName := ⟨RX10, "tuneAll", "(I)I"⟩
abbrev cX10_agree : ByteArray := prog_12_method_27_code
def yX10_agree : MethodName := ⟨RX10, "agree", "(I)I"⟩
abbrev cX10_feed : ByteArray := prog_12_method_28_code
def yX10_feed : MethodName := ⟨RX10, "feed", "(J)I"⟩
abbrev cX10_end : ByteArray := prog_12_method_29_code
def yX10_end : MethodName := ⟨RX10, "end", "(I)I"⟩
abbrev cX10_fails : ByteArray := prog_12_method_30_code
def yX10_fails : MethodName := ⟨RX10, "fails", "(II)V"⟩
abbrev cX10_wants : ByteArray := prog_12_method_31_code
def yX10_wants : MethodName := ⟨RX10, "wants", "(ZI)V"⟩
abbrev cX10_look : ByteArray := prog_12_method_32_code
def yX10_look : MethodName := ⟨RX10, "look", "(I)I"⟩
abbrev cX10_bits : ByteArray := prog_12_method_33_code
def yX10_bits : MethodName := ⟨RX10, "bits", "(I)I"⟩
abbrev cX10_readChord : ByteArray := prog_12_method_34_code
def yX10_readChord : MethodName := ⟨RX10, "readChord", "()V"⟩
abbrev cX10_next : ByteArray := prog_12_method_35_code
def yX10_next : MethodName := ⟨RX10, "next", "()V"⟩
abbrev cX10_isSign : ByteArray := prog_12_method_36_code
def yX10_isSign : MethodName := ⟨RX10, "isSign", "(I)Z"⟩
abbrev cX10_beatRead : ByteArray := prog_12_method_37_code
def yX10_beatRead : MethodName := ⟨RX10, "beatRead", "(I)V"⟩
abbrev cX10_closes : ByteArray := prog_12_method_38_code
def yX10_closes : MethodName := ⟨RX10, "closes", "()V"⟩
abbrev cX10_readTune : ByteArray := prog_12_method_39_code
def yX10_readTune : MethodName := ⟨RX10, "readTune", "()V"⟩
abbrev cX10_tune : ByteArray := prog_12_method_40_code
def yX10_tune : MethodName := ⟨RX10, "tune", "()I"⟩
abbrev cX10_fault : ByteArray := prog_12_method_41_code
def yX10_fault : MethodName := ⟨RX10, "fault", "()I"⟩
abbrev cX10_isTune : ByteArray := prog_12_method_42_code
def yX10_isTune : MethodName := ⟨RX10, "isTune", "(I)Z"⟩
abbrev cX10_chordAt : ByteArray := prog_12_method_43_code
def yX10_chordAt : MethodName := ⟨RX10, "chordAt", "(II)I"⟩
abbrev cX10_allOf : ByteArray := prog_12_method_44_code
def yX10_allOf : MethodName := ⟨RX10, "allOf", "(I)I"⟩
abbrev cX10_tuneOf : ByteArray := prog_12_method_45_code
def yX10_tuneOf : MethodName := ⟨RX10, "tuneOf", "(II)I"⟩
abbrev cX10_isIn : ByteArray := prog_12_method_46_code
def yX10_isIn : MethodName := ⟨RX10, "isIn", "(II)Z"⟩
abbrev cX10_moved : ByteArray := prog_12_method_47_code
def yX10_moved : MethodName := ⟨RX10, "moved", "(II)I"⟩
abbrev cX10_goesAll : ByteArray := prog_12_method_48_code
def yX10_goesAll : MethodName := ⟨RX10, "goesAll", "(II)I"⟩
abbrev cX10_tried : ByteArray := prog_12_method_49_code
def yX10_tried : MethodName := ⟨RX10, "tried", "(II)I"⟩
abbrev cX10_play : ByteArray := prog_12_method_50_code
def yX10_play : MethodName := ⟨RX10, "play", "(II)I"⟩
abbrev cX10_would : ByteArray := prog_12_method_51_code
def yX10_would : MethodName := ⟨RX10, "would", "(II)I"⟩
abbrev cX10_key : ByteArray := prog_12_method_52_code
def yX10_key : MethodName := ⟨RX10, "key", "(II)I"⟩
abbrev cX10_spot : ByteArray := prog_12_method_53_code
def yX10_spot : MethodName := ⟨RX10, "spot", "(III)I"⟩
abbrev cX10_then : ByteArray := prog_12_method_54_code
def yX10_then : MethodName := ⟨RX10, "then", "(II)I"⟩
abbrev cX10_prepares : ByteArray := prog_12_method_55_code
def yX10_prepares : MethodName := ⟨RX10, "prepares", "(I)V"⟩
abbrev cX10_meets : ByteArray := prog_12_method_56_code
def yX10_meets : MethodName := ⟨RX10, "meets", "(III)V"⟩
abbrev cX10_bestSound : ByteArray := prog_12_method_57_code
def yX10_bestSound : MethodName := ⟨RX10, "bestSound", "(IIII)I"⟩
abbrev cX10_fills : ByteArray := prog_12_method_58_code
def yX10_fills : MethodName := ⟨RX10, "fills", "(IIII)V"⟩
abbrev cX10_set : ByteArray := prog_12_method_59_code
def yX10_set : MethodName := ⟨RX10, "set", "(IIIII)I"⟩
abbrev cX10_drawnWith : ByteArray := prog_12_method_60_code
def yX10_drawnWith : MethodName := ⟨RX10, "drawnWith", "(II)I"⟩
abbrev cX10_lowest : ByteArray := prog_12_method_61_code
def yX10_lowest : MethodName := ⟨RX10, "lowest", "(I)I"⟩
abbrev cX10_explains : ByteArray := prog_12_method_62_code
def yX10_explains : MethodName := ⟨RX10, "explains", "(IIIIII)I"⟩
abbrev cX10_blame : ByteArray := prog_12_method_63_code
def yX10_blame : MethodName := ⟨RX10, "blame", "(IIIIIII)I"⟩
abbrev cX10_boat : ByteArray := prog_12_method_64_code
def yX10_boat : MethodName := ⟨RX10, "boat", "(II)I"⟩
abbrev cX10_bend : ByteArray := prog_12_method_65_code
def yX10_bend : MethodName := ⟨RX10, "bend", "(II)I"⟩
abbrev cX10_speed : ByteArray := prog_12_method_66_code
def yX10_speed : MethodName := ⟨RX10, "speed", "(I)I"⟩
abbrev cX10_farOf : ByteArray := prog_12_method_67_code
def yX10_farOf : MethodName := ⟨RX10, "farOf", "(II)I"⟩
abbrev cX10_far : ByteArray := prog_12_method_68_code
def yX10_far : MethodName := ⟨RX10, "far", "(II)I"⟩
abbrev cX10_heardAt : ByteArray := prog_12_method_69_code
def yX10_heardAt : MethodName := ⟨RX10, "heardAt", "(II)I"⟩
abbrev cX10_heard : ByteArray := prog_12_method_70_code
def yX10_heard : MethodName := ⟨RX10, "heard", "(III)I"⟩
abbrev cX10_step : ByteArray := prog_12_method_71_code
def yX10_step : MethodName := ⟨RX10, "step", "(III)I"⟩
abbrev cX10_isSheet : ByteArray := prog_12_method_72_code
def yX10_isSheet : MethodName := ⟨RX10, "isSheet", "(II)Z"⟩
abbrev cX10_sheet : ByteArray := prog_12_method_73_code
def yX10_sheet : MethodName := ⟨RX10, "sheet", "(III)I"⟩
abbrev cX10_lay : ByteArray := prog_12_method_74_code
def yX10_lay : MethodName := ⟨RX10, "lay", "(III)I"⟩
abbrev cX10_scan : ByteArray := prog_12_method_75_code
def yX10_scan : MethodName := ⟨RX10, "scan", "(IIII)I"⟩
abbrev cX10_count : ByteArray := prog_12_method_76_code
def yX10_count : MethodName := ⟨RX10, "count", "(I)I"⟩
def RJ6 : String := "java/lang/Integer"
abbrev cJ6_bitCount_0f7a4 : ByteArray := prog_13_method_49_code
def yJ6_bitCount_0f7a4 : MethodName := ⟨RJ6, "bitCount", "(I)I"⟩
def RJ9 : String := "java/lang/Math"
abbrev cJ9_floorDiv_7cf53 : ByteArray := prog_14_method_47_code
def yJ9_floorDiv_7cf53 : MethodName := ⟨RJ9, "floorDiv", "(II)I"⟩
abbrev cJ9_abs_0f7a4 : ByteArray := prog_14_method_59_code
def yJ9_abs_0f7a4 : MethodName := ⟨RJ9, "abs", "(I)I"⟩
abbrev cJ9_max_7cf53 : ByteArray := prog_14_method_65_code
def yJ9_max_7cf53 : MethodName := ⟨RJ9, "max", "(II)I"⟩
abbrev cJ9_min_7cf53 : ByteArray := prog_14_method_69_code
def yJ9_min_7cf53 : MethodName := ⟨RJ9, "min", "(II)I"⟩
def RJ10 : String := "java/lang/System"
def RJ7 : String := "java/util/Arrays"
abbrev cJ7_rangeCheck_23922 : ByteArray := prog_16_method_30_code
def yJ7_rangeCheck_23922 : MethodName := ⟨RJ7, "rangeCheck", "(III)V"⟩
abbrev cJ7_fill_53178 : ByteArray := prog_16_method_103_code
def yJ7_fill_53178 : MethodName := ⟨RJ7, "fill", "([II)V"⟩
abbrev cJ7_fill_fda19 : ByteArray := prog_16_method_104_code
def yJ7_fill_fda19 : MethodName := ⟨RJ7, "fill", "([IIII)V"⟩
def RL : String := "SteamTunesLaw"
abbrev cL_law : ByteArray := code
def yL_law : MethodName := ⟨RL, "law", "([I)Z"⟩
abbrev vwCl : List vw_C := [(RX0, TX0, 4), (RX1, TX1, 5), (RX2, TX2, 14), (RX3, TX3, 11), (RX4, TX4, 16), (RX5, TX5, 3), (RX6, TX6, 8), (RX7, TX7, 3), (RX8, TX8, 8), (RX9, TX9, 10), (RX10, TX10, 55)]
def tyCl : Nat → Nat → FieldType := fun c => match c with
  | 0 => tyX0
  | 1 => tyX1
  | 2 => tyX2
  | 3 => tyX3
  | 4 => tyX4
  | 5 => tyX5
  | 6 => tyX6
  | 7 => tyX7
  | 8 => tyX8
  | 9 => tyX9
  | _ => tyX10
def nest_w : List (String × Nat × MethodName × String) := [("SteamTunes", 9, ⟨"SteamTunes$Boiler", "<init>", "()V"⟩, "SteamTunes"), ("SteamTunes", 21, ⟨"SteamTunes$Whistles", "<init>", "()V"⟩, "SteamTunes"), ("SteamTunes", 28, ⟨"SteamTunes$Acts", "<init>", "()V"⟩, "SteamTunes"), ("SteamTunes", 35, ⟨"SteamTunes$Reader", "<init>", "()V"⟩, "SteamTunes"), ("SteamTunes", 42, ⟨"SteamTunes$Tunes", "<init>", "()V"⟩, "SteamTunes"), ("SteamTunes", 49, ⟨"SteamTunes$Setting", "<init>", "()V"⟩, "SteamTunes"), ("SteamTunes", 56, ⟨"SteamTunes$Suspects", "<init>", "()V"⟩, "SteamTunes"), ("SteamTunes", 63, ⟨"SteamTunes$River", "<init>", "()V"⟩, "SteamTunes"), ("SteamTunes", 70, ⟨"SteamTunes$Sheets", "<init>", "()V"⟩, "SteamTunes"), ("SteamTunes$Whistles", 38, ⟨"SteamTunes", "isWithin", "(III)Z"⟩, "SteamTunes"), ("SteamTunes$Reader", 111, ⟨"SteamTunes", "isWithin", "(III)Z"⟩, "SteamTunes"), ("SteamTunes$Tunes", 39, ⟨"SteamTunes", "leastOf", "(I)I"⟩, "SteamTunes"), ("SteamTunes$Tunes", 42, ⟨"SteamTunes", "greatestOf", "(I)I"⟩, "SteamTunes"), ("SteamTunes$Suspects", 62, ⟨"SteamTunes", "leastOf", "(I)I"⟩, "SteamTunes"), ("SteamTunes$Suspects", 88, ⟨"SteamTunes", "isWithin", "(III)Z"⟩, "SteamTunes")]
end
section
/-! THE ABSTRACT MACHINE: EvQ speaks of a method's frame over an abstract heap (G: shapes and references, h: ints);
    each rule below is one instruction. Abstract address 0 is the script, k > 0 is the k-th cell made since the law began. -/
abbrev Shp : Type := Nat ⊕ (FieldType × Nat)
abbrev Geo : Type := List (Shp × List (Option Nat))
abbrev Hp : Type := Nat → Nat → Int32
abbrev Ent : Type := Instr × Nat × Nat
abbrev Tab : Type := List (Nat × List (Nat × Ent))
/-- name, code, locals, return, frames, locals' words, class, table -/
abbrev MI : Type := MethodName × ByteArray × Nat × Option FieldType × Nat × Nat × Nat × Tab
abbrev mi_C (mi : MI) : ByteArray := mi.2.1
abbrev mi_L (mi : MI) : Nat := mi.2.2.1
abbrev mi_R (mi : MI) : Option FieldType := mi.2.2.2.1
abbrev mi_F (mi : MI) : Nat := mi.2.2.2.2.1
abbrev mi_S (mi : MI) : Nat := mi.2.2.2.2.2.1
abbrev mi_K (mi : MI) : Nat := mi.2.2.2.2.2.2.1
abbrev mi_T (mi : MI) : Tab := mi.2.2.2.2.2.2.2
def ev_l1 : List (Nat × Ent) → Nat → Option Ent
  | [], _ => none
  | q :: r, pc => bif Nat.beq q.1 pc then some q.2 else ev_l1 r pc
def ev_l2 : Tab → Nat → Option Ent
  | [], _ => none
  | c :: r, pc => bif Nat.ble pc c.1 then ev_l1 c.2 pc else ev_l2 r pc
abbrev ev_at (mi : MI) (pc : Nat) : Option Ent := ev_l2 (mi_T mi) pc
def ev_off (pc : Nat) (tg : Nat) : Instr → Bool
  | .goto o => (pc : Int) + o == (tg : Int)
  | .ifCond _ o => (pc : Int) + o == (tg : Int)
  | .if_icmp _ o => (pc : Int) + o == (tg : Int)
  | .ifnull o => (pc : Int) + o == (tg : Int)
  | .ifnonnull o => (pc : Int) + o == (tg : Int)
  | _ => true
def ev_eok (cc : ByteArray) (q : Nat × Ent) : Bool := decide (decode cc q.1 = .ok (q.2.1, q.2.2.1 - q.1)) && Nat.ble q.1 q.2.2.1 && ev_off q.1 q.2.2.2 q.2.1
def ev_ok (mi : MI) : Prop := ∀ pc i nx tg, ev_at mi pc = some (i, nx, tg) → decode (mi_C mi) pc = .ok (i, nx - pc) ∧ pc ≤ nx ∧ ev_off pc tg i = true
theorem ev_l1_in : ∀ (l : List (Nat × Ent)) (pc : Nat) (x : Ent), ev_l1 l pc = some x → (pc, x) ∈ l
  | [], _, _, h => by cases h
  | q :: r, pc, x, h => by
    unfold ev_l1 at h
    cases hq : Nat.beq q.1 pc with
    | true =>
      rw [hq] at h
      have h1 : q.1 = pc := Nat.eq_of_beq_eq_true hq
      have h2 : q.2 = x := Option.some.inj h
      rw [← h1, ← h2]
      exact List.mem_cons_self
    | false =>
      rw [hq] at h
      exact List.mem_cons_of_mem _ (ev_l1_in r pc x h)
theorem ev_l2_in : ∀ (l : Tab) (pc : Nat) (x : Ent), ev_l2 l pc = some x → ∃ c ∈ l, (pc, x) ∈ c.2
  | [], _, _, h => by cases h
  | c :: r, pc, x, h => by
    unfold ev_l2 at h
    cases hq : Nat.ble pc c.1 with
    | true => rw [hq] at h; exact ⟨c, List.mem_cons_self, ev_l1_in _ _ _ h⟩
    | false =>
      rw [hq] at h
      obtain ⟨d, hd, hx⟩ := ev_l2_in r pc x h
      exact ⟨d, List.mem_cons_of_mem _ hd, hx⟩
theorem ev_ok_of {mi : MI} (h : (mi_T mi).all (fun c => c.2.all (ev_eok (mi_C mi))) = true) : ev_ok mi := by
  intro pc i nx tg hx
  obtain ⟨c, hc, hm⟩ := ev_l2_in _ _ _ hx
  have h1 := List.all_eq_true.mp (List.all_eq_true.mp h c hc) _ hm
  simp only [ev_eok, Bool.and_eq_true, decide_eq_true_eq] at h1
  exact ⟨h1.1.1, Nat.le_of_ble_eq_true h1.1.2, h1.2⟩
/-! addresses and values -/
def ev_ad (b base k : Nat) : Nat := if k = 0 then b else base + k
def ev_rv (b base : Nat) : Value → Value
  | .ref k => .ref (ev_ad b base k)
  | v => v
theorem ev_rv_cat (b base : Nat) (v : Value) : (ev_rv b base v).category = v.category := by cases v <;> rfl
def ev_rf (b base : Nat) (r : Option Nat) : Value := match r with
  | none => .null
  | some k => .ref (ev_ad b base k)
def ev_vf (r : Option Nat) : Value := match r with
  | none => .null
  | some k => .ref k
theorem ev_rv_vf (b base : Nat) (r : Option Nat) : ev_rv b base (ev_vf r) = ev_rf b base r := by cases r <;> rfl
def ev_sh (G : Geo) (a : Nat) : Option Shp := (G[a]?).map (fun c => c.1)
def ev_gr (G : Geo) (a k : Nat) : Option Nat := match G[a]? with
  | none => none
  | some c => match c.2[k]? with
    | none => none
    | some r => r
def ev_sv (b base : Nat) (ty : FieldType) (G : Geo) (h : Hp) (a k : Nat) : Value := if ty.isReference = true then ev_rf b base (ev_gr G a k) else .int (h a k)
def ev_set (h : Hp) (a k : Nat) (x : Int32) : Hp := fun i j => if i = a ∧ j = k then x else h i j
def ev_rset (G : Geo) (a k : Nat) (r : Option Nat) : Geo := G.modify a (fun c => (c.1, c.2.set k r))
/-- the cell k > 0 of the abstract heap -/
def ev_cell (b base : Nat) (G : Geo) (h : Hp) (U : State) (H : Heap) (a : Nat) (z : Shp) : Prop := match z with
  | .inl c => ∃ (q : vw_C) (cC : ClassId) (iS : Nat → Nat), vwCl[c]? = some q ∧ u_Kn U q.1 q.2.1 q.2.2 cC iS ∧ t_OB (base + a) cC q.2.2 iS H (fun k => ev_sv b base (tyCl c k) G h a k)
  | .inr (ty, n) => ∃ cA : ClassId, ArrOfT U cA ty ∧ H[base + a]? = some (arrV cA n (fun j => ev_sv b base ty G h a j))
def ev_S (b base : Nat) (G : Geo) (h : Hp) (U : State) (H : Heap) : Prop :=
  b ≤ base ∧ H.size = base + G.length ∧ (∃ L : Nat, ev_sh G 0 = some (.inr (.int, L)) ∧ va_X b L (h 0) U H) ∧ ∀ (a : Nat) (z : Shp), 0 < a → ev_sh G a = some z → ev_cell b base G h U H a z
/-- the nest's words -/
def ev_N (U : State) : Prop := (∀ q ∈ nest_w, va_Nw (.methodLinkNest q.1 q.2.1 q.2.2.1 q.2.2.2) U) ∧ (Cond.arrayOver (.array .int)).before #[] U = true
theorem ev_N.moved {s U : State} (hW : s.WarmedH U.vm) (h : ev_N s) : ev_N U := ⟨fun q hq => va_Nw.warmM hW (h.1 q hq), over_moved hW.alike h.2⟩
theorem ev_cell.moved {b base : Nat} {G : Geo} {h : Hp} {u U : State} {H : Heap} {a : Nat} {z : Shp} (hvm : u.vm.Alike U.vm) (hc : ev_cell b base G h u H a z) : ev_cell b base G h U H a z := by
  cases z with
  | inl c =>
    obtain ⟨q, cC, iS, h1, h2, h3⟩ := hc
    exact ⟨q, cC, iS, h1, u_Kn_moved hvm h2, h3⟩
  | inr t =>
    obtain ⟨ty, n⟩ := t
    obtain ⟨cA, h1, h2⟩ := hc
    exact ⟨cA, arrOfT_moved hvm h1, h2⟩
theorem ev_S.moved {b base : Nat} {G : Geo} {h : Hp} {u U : State} {H : Heap} (hvm : u.vm.Alike U.vm) (hS : ev_S b base G h u H) : ev_S b base G h U H := by
  obtain ⟨h1, h2, ⟨L, h3, h4⟩, h5⟩ := hS
  exact ⟨h1, h2, ⟨L, h3, h4.moved hvm⟩, fun a z ha hz => (h5 a z ha hz).moved hvm⟩
theorem ev_sh_lt {G : Geo} {a : Nat} {z : Shp} (h : ev_sh G a = some z) : a < G.length := by
  unfold ev_sh at h
  cases hg : G[a]? with
  | none => rw [hg] at h; cases h
  | some c => exact (List.getElem?_eq_some_iff.mp hg).1
/-- an array is read: the script's or one of ours -/
theorem ev_S.arr {b base : Nat} {G : Geo} {h : Hp} {U : State} {H : Heap} (hS : ev_S b base G h U H) {a n : Nat} {ty : FieldType} (hz : ev_sh G a = some (.inr (ty, n))) :
    ∃ cell : Cell, H[ev_ad b base a]? = some cell ∧ U.isArrayOf cell ty ∧ cell.vm ≠ .unknown ∧ cell.slots.size = n ∧ ∀ j : Nat, j < n → cell.slots[j]? = some (ev_sv b base ty G h a j) := by
  obtain ⟨h1, h2, ⟨L, h3, scr, x1, x2, x3, x4, x5⟩, h5⟩ := hS
  by_cases ha : a = 0
  · subst ha
    rw [h3] at hz
    cases hz
    exact ⟨scr, x1, x2, x3, x4, fun j hj => by rw [x5 j hj]; rfl⟩
  · obtain ⟨cA, g1, g2⟩ := h5 a _ (Nat.pos_of_ne_zero ha) hz
    have e : ev_ad b base a = base + a := if_neg ha
    rw [e]
    exact ⟨_, g2, g1 _ _, (fun q => by cases q), arrV_size _ _ _, fun j hj => arrV_read _ _ hj⟩
/-- locals -/
def ev_L (b base nL : Nat) (lo : List (Option Value)) (ls : Array Slot) : Prop := ∃ l : List (Nat × Value), lv_has ls nL l ∧ ∀ (k : Nat) (v : Value), lo[k]? = some (some v) → (k, ev_rv b base v) ∈ l
theorem ev_L.get {b base nL k : Nat} {lo : List (Option Value)} {ls : Array Slot} {v : Value} (h : ev_L b base nL lo ls) (hk : lo[k]? = some (some v)) : ls[k]? = some (.val (ev_rv b base v)) := by
  obtain ⟨l, h1, h2⟩ := h
  exact h1.2.2 _ (h2 k v hk)
def ev_c1 (lo : List (Option Value)) : Nat → Bool
  | 0 => true
  | k + 1 => match lo[k]? with
    | some (some v) => Nat.beq v.category 1
    | _ => true
theorem ev_c1_spec {lo : List (Option Value)} {k : Nat} {w : Value} (h : ev_c1 lo (k + 1) = true) (hk : lo[k]? = some (some w)) : w.category = 1 := by
  simp only [ev_c1, hk] at h
  exact Nat.eq_of_beq_eq_true h
theorem ev_L.put1 {b base nL i : Nat} {lo : List (Option Value)} {l : List (Nat × Value)} {ls' : Array Slot} {v : Value} (h2 : ∀ (k : Nat) (w : Value), lo[k]? = some (some w) → (k, ev_rv b base w) ∈ l) (hc : ev_c1 lo i = true)
    (h : lv_has ls' nL ((i, ev_rv b base v) :: l.filter (fun q => !(q.1 == i) && !(q.1 + 1 == i && q.2.category == 2)))) : ev_L b base nL (lo.set i (some v)) ls' := by
  refine ⟨_, h, fun k w hk => ?_⟩
  by_cases e : k = i
  · subst e
    have hl : k < lo.length := by
      have := (List.getElem?_eq_some_iff.mp hk).1
      simpa using this
    rw [List.getElem?_set_self hl] at hk
    cases hk
    exact List.mem_cons_self
  · rw [List.getElem?_set_ne (Ne.symm e)] at hk
    refine List.mem_cons_of_mem _ (List.mem_filter.mpr ⟨h2 k w hk, ?_⟩)
    have e1 : (k == i) = false := by simpa using e
    have e2 : (k + 1 == i && (ev_rv b base w).category == 2) = false := by
      by_cases e3 : k + 1 = i
      · subst e3
        rw [ev_rv_cat, ev_c1_spec hc hk]
        simp
      · have : (k + 1 == i) = false := by simpa using e3
        rw [this]; rfl
    simp only [e1, e2]; rfl
theorem ev_L.put2 {b base nL i : Nat} {lo : List (Option Value)} {l : List (Nat × Value)} {ls' : Array Slot} {v : Value} (h2 : ∀ (k : Nat) (w : Value), lo[k]? = some (some w) → (k, ev_rv b base w) ∈ l) (hc : ev_c1 lo i = true)
    (h : lv_has ls' nL ((i, ev_rv b base v) :: l.filter (fun q => !(q.1 == i) && (!(q.1 == i + 1) && !(q.1 + 1 == i && q.2.category == 2))))) : ev_L b base nL ((lo.set i (some v)).set (i + 1) none) ls' := by
  refine ⟨_, h, fun k w hk => ?_⟩
  by_cases e0 : k = i + 1
  · subst e0
    exfalso
    have hl : i + 1 < (lo.set i (some v)).length := by
      have := (List.getElem?_eq_some_iff.mp hk).1
      simpa using this
    rw [List.getElem?_set_self hl] at hk
    cases hk
  rw [List.getElem?_set_ne (Ne.symm e0)] at hk
  by_cases e : k = i
  · subst e
    have hl : k < lo.length := by
      have := (List.getElem?_eq_some_iff.mp hk).1
      simpa using this
    rw [List.getElem?_set_self hl] at hk
    cases hk
    exact List.mem_cons_self
  · rw [List.getElem?_set_ne (Ne.symm e)] at hk
    refine List.mem_cons_of_mem _ (List.mem_filter.mpr ⟨h2 k w hk, ?_⟩)
    have e1 : (k == i) = false := by simpa using e
    have e4 : (k == i + 1) = false := by simpa using e0
    have e2 : (k + 1 == i && (ev_rv b base w).category == 2) = false := by
      by_cases e3 : k + 1 = i
      · subst e3
        rw [ev_rv_cat, ev_c1_spec hc hk]
        simp
      · have : (k + 1 == i) = false := by simpa using e3
        rw [this]; rfl
    simp only [e1, e2, e4]; rfl
def ev_al : List Value → List (Option Value)
  | [] => []
  | v :: vs => if v.category = 2 then some v :: none :: ev_al vs else some v :: ev_al vs
theorem ev_al_cons (v : Value) (vs : List Value) : ev_al (v :: vs) = if v.category = 2 then some v :: none :: ev_al vs else some v :: ev_al vs := rfl
theorem ev_al_in (b base : Nat) : ∀ (vs : List Value) (i k : Nat) (v : Value), (ev_al vs)[k]? = some (some v) → (i + k, ev_rv b base v) ∈ lv_args i (vs.map (ev_rv b base))
  | [], i, k, v, h => by simp [ev_al] at h
  | w :: vs, i, k, v, h => by
    rw [List.map_cons]
    unfold lv_args
    rw [ev_al_cons] at h
    rw [ev_rv_cat]
    by_cases hc : w.category = 2
    · rw [if_pos hc] at h ⊢
      match k, h with
      | 0, h => cases h; exact List.mem_cons_self
      | 1, h => cases h
      | k + 2, h =>
        have h' : (ev_al vs)[k]? = some (some v) := h
        have := ev_al_in b base vs (i + 2) k v h'
        rw [show i + 2 + k = i + (k + 2) by omega] at this
        exact List.mem_cons_of_mem _ this
    · rw [if_neg hc] at h ⊢
      match k, h with
      | 0, h => cases h; exact List.mem_cons_self
      | k + 1, h =>
        have h' : (ev_al vs)[k]? = some (some v) := h
        have := ev_al_in b base vs (i + 1) k v h'
        rw [show i + 1 + k = i + (k + 1) by omega] at this
        exact List.mem_cons_of_mem _ this
def ev_lo (nL : Nat) (args : List Value) : List (Option Value) := ev_al args ++ List.replicate (nL - (ev_al args).length) none
theorem ev_lo_in (b base nL : Nat) (vs : List Value) (k : Nat) (v : Value) (h : (ev_lo nL vs)[k]? = some (some v)) : (k, ev_rv b base v) ∈ lv_args 0 (vs.map (ev_rv b base)) := by
  unfold ev_lo at h
  by_cases hk : k < (ev_al vs).length
  · rw [List.getElem?_append_left hk] at h
    have := ev_al_in b base vs 0 k v h
    rwa [Nat.zero_add] at this
  · rw [List.getElem?_append_right (by omega)] at h
    have := List.eq_of_mem_replicate (List.mem_of_getElem? h)
    cases this
theorem ev_al_len : ∀ (b base : Nat) (vs : List Value), (lg_sl (vs.map (ev_rv b base))).length = (ev_al vs).length
  | b, base, [] => rfl
  | b, base, v :: vs => by
    have ih := ev_al_len b base vs
    unfold lg_sl at ih ⊢
    rw [List.map_cons, List.flatMap_cons, List.length_append, ih, ev_rv_cat, ev_al_cons]
    by_cases hc : v.category = 2
    · rw [if_pos hc, if_pos hc]; simp; omega
    · rw [if_neg hc, if_neg hc]; simp; omega
/-! words -/
def gwl : List Cond := lw_tbl.filter goodWord
theorem gwl_in {w : Cond} (i : Nat) (h : lw_tbl[i]? = some w) (g : goodWord w = true) : w ∈ gwl := List.mem_filter.mpr ⟨List.mem_of_getElem? h, g⟩
theorem gwl_all (ws : List Cond) (ps : List Nat) (hp : ws = ps.filterMap (fun i => lw_tbl[i]?)) (h : ws.all goodWord = true) : ∀ w ∈ ws, w ∈ gwl := by
  intro w hw
  have h1 := List.all_eq_true.mp h w hw
  rw [hp] at hw
  obtain ⟨i, -, hi⟩ := List.mem_filterMap.mp hw
  exact gwl_in i hi h1
theorem gwl_good : GoodIn gwl gwl := fun w hw => ⟨hw, good_of_word (List.mem_filter.mp hw).2⟩
/-- which field a pool index names: the class's number, the field's number, by its words -/
def ev_fl (own : String) (ix c k : Nat) : Prop := ∃ q : vw_C, vwCl[c]? = some q ∧ k < q.2.2 ∧ (∀ w ∈ u_ws q.1 q.2.1 q.2.2, w ∈ gwl) ∧ Cond.fieldLink own ix (q.2.1 k).1 (q.2.1 k).2.1 (q.2.1 k).2.2.1 ∈ gwl ∧ (∀ j, j < q.2.2 → parseFieldDescriptor (q.2.1 j).2.2.1 = some (tyCl c j)) ∧ (∀ a, a < q.2.2 → ∀ b, b < q.2.2 → a ≠ b → (q.2.1 a).2.1 ≠ (q.2.1 b).2.1)
def ev_lk (own : String) (ix : Nat) (ce : MI) (n : Nat) : Prop := Cond.methodLink own ix ce.1 ∈ gwl ∧ Cond.code ce.1 (mi_C ce) (mi_L ce) (mi_R ce) ∈ gwl ∧ Cond.initialized ce.1.cls ∈ gwl ∧ ce.1.cls ≠ "java/lang/invoke/MethodHandle" ∧ ce.1.cls ≠ "java/lang/invoke/VarHandle" ∧ (parseMethodDescriptor ce.1.desc).map (fun d => d.parameters.length) = some n
def ev_ln (own : String) (ix : Nat) (ce : MI) (n : Nat) : Prop := (∃ host : String, (own, ix, ce.1, host) ∈ nest_w) ∧ Cond.code ce.1 (mi_C ce) (mi_L ce) (mi_R ce) ∈ gwl ∧ Cond.initialized ce.1.cls ∈ gwl ∧ ce.1.cls ≠ "java/lang/invoke/MethodHandle" ∧ ce.1.cls ≠ "java/lang/invoke/VarHandle" ∧ (parseMethodDescriptor ce.1.desc).map (fun d => d.parameters.length) = some n
def ev_cl (own : String) (ix c : Nat) : Prop := ∃ q : vw_C, vwCl[c]? = some q ∧ Cond.classLink own ix q.1 ∈ gwl ∧ Cond.instantiable q.1 q.2.2 ∈ gwl ∧ Cond.initialized q.1 ∈ gwl ∧ (∀ w ∈ u_ws q.1 q.2.1 q.2.2, w ∈ gwl) ∧ (∀ j, j < q.2.2 → parseFieldDescriptor (q.2.1 j).2.2.1 = some (tyCl c j)) ∧ (∀ j, j < q.2.2 → (tyCl c j).isReference = true ∨ defaultValue (tyCl c j) = .int 0)
end
section
def mi_X0_init : MI := (yX0_init, prog_2_method_1_code, 1, none, 1, 12, 0, [(28, [(0, .aload_n 0, 1, 0), (1, .invokespecial 5, 4, 0), (4, .aload_n 0, 5, 0), (5, .bipush 10, 7, 0), (7, .bipush 30, 9, 0), (9, .multianewarray 11 2, 13, 0), (13, .putfield 13, 16, 0), (16, .aload_n 0, 17, 0), (17, .iconst 0, 18, 0), (18, .putfield 16, 21, 0), (21, .aload_n 0, 22, 0), (22, .iconst 0, 23, 0), (23, .putfield 20, 26, 0), (26, .aload_n 0, 27, 0), (27, .iconst 0, 28, 0), (28, .putfield 23, 31, 0)]), (31, [(31, .return_, 32, 0)])])
theorem ok_X0_init : ev_ok mi_X0_init := ev_ok_of (by decide +kernel)
theorem pn_X0 : plainName RX0 = true := by decide +kernel
theorem pf_X0_init : plainName mi_X0_init.1.cls = true ∨ plainFor mi_X0_init.1 = true := Or.inl pn_X0
def mi_X0_keep : MI := (yX0_keep, prog_2_method_2_code, 4, none, 1, 26, 0, [(23, [(0, .aload_n 0, 1, 0), (1, .getfield 13, 4, 0), (4, .aload_n 0, 5, 0), (5, .getfield 16, 8, 0), (8, .aaload, 9, 0), (9, .astore_n 3, 10, 0), (10, .aload_n 3, 11, 0), (11, .iconst 0, 12, 0), (12, .aload_n 1, 13, 0), (13, .getfield 26, 16, 0), (16, .iastore, 17, 0), (17, .aload_n 3, 18, 0), (18, .iconst 1, 19, 0), (19, .aload_n 1, 20, 0), (20, .getfield 31, 23, 0), (23, .iastore, 24, 0)]), (45, [(24, .aload_n 3, 25, 0), (25, .iconst 2, 26, 0), (26, .aload_n 1, 27, 0), (27, .getfield 34, 30, 0), (30, .iastore, 31, 0), (31, .aload_n 3, 32, 0), (32, .iconst 3, 33, 0), (33, .aload_n 1, 34, 0), (34, .getfield 37, 37, 0), (37, .iastore, 38, 0), (38, .aload_n 3, 39, 0), (39, .iconst 4, 40, 0), (40, .aload_n 1, 41, 0), (41, .getfield 40, 44, 0), (44, .iastore, 45, 0), (45, .aload_n 3, 46, 0)]), (71, [(46, .iconst 5, 47, 0), (47, .aload_n 2, 48, 0), (48, .getfield 43, 51, 0), (51, .iastore, 52, 0), (52, .aload_n 2, 53, 0), (53, .getfield 48, 56, 0), (56, .iconst 0, 57, 0), (57, .aload_n 3, 58, 0), (58, .bipush 6, 60, 0), (60, .bipush 12, 62, 0), (62, .invokestatic 52, 65, 0), (65, .aload_n 2, 66, 0), (66, .getfield 58, 69, 0), (69, .iconst 0, 70, 0), (70, .aload_n 3, 71, 0), (71, .bipush 18, 73, 0)]), (99, [(73, .bipush 12, 75, 0), (75, .invokestatic 52, 78, 0), (78, .aload_n 0, 79, 0), (79, .aload_n 0, 80, 0), (80, .getfield 16, 83, 0), (83, .iconst 1, 84, 0), (84, .iadd, 85, 0), (85, .bipush 10, 87, 0), (87, .irem, 88, 0), (88, .putfield 16, 91, 0), (91, .aload_n 0, 92, 0), (92, .bipush 10, 94, 0), (94, .aload_n 0, 95, 0), (95, .getfield 20, 98, 0), (98, .iconst 1, 99, 0), (99, .iadd, 100, 0)]), (116, [(100, .invokestatic 61, 103, 0), (103, .putfield 20, 106, 0), (106, .aload_n 0, 107, 0), (107, .dup, 108, 0), (108, .getfield 23, 111, 0), (111, .iconst 1, 112, 0), (112, .iadd, 113, 0), (113, .putfield 23, 116, 0), (116, .return_, 117, 0)])])
theorem ok_X0_keep : ev_ok mi_X0_keep := ev_ok_of (by decide +kernel)
theorem pf_X0_keep : plainName mi_X0_keep.1.cls = true ∨ plainFor mi_X0_keep.1 = true := Or.inl pn_X0
def mi_X0_restore : MI := (yX0_restore, prog_2_method_3_code, 4, (some .boolean), 1, 26, 0, [(25, [(0, .aload_n 0, 1, 0), (1, .getfield 20, 4, 0), (4, .ifCond .ne 5, 7, 9), (7, .iconst 0, 8, 0), (8, .ireturn, 9, 0), (9, .aload_n 0, 10, 0), (10, .aload_n 0, 11, 0), (11, .getfield 16, 14, 0), (14, .bipush 10, 16, 0), (16, .iadd, 17, 0), (17, .iconst 1, 18, 0), (18, .isub, 19, 0), (19, .bipush 10, 21, 0), (21, .irem, 22, 0), (22, .putfield 16, 25, 0), (25, .aload_n 0, 26, 0)]), (53, [(26, .dup, 27, 0), (27, .getfield 20, 30, 0), (30, .iconst 1, 31, 0), (31, .isub, 32, 0), (32, .putfield 20, 35, 0), (35, .aload_n 0, 36, 0), (36, .dup, 37, 0), (37, .getfield 23, 40, 0), (40, .iconst 1, 41, 0), (41, .iadd, 42, 0), (42, .putfield 23, 45, 0), (45, .aload_n 0, 46, 0), (46, .getfield 13, 49, 0), (49, .aload_n 0, 50, 0), (50, .getfield 16, 53, 0), (53, .aaload, 54, 0)]), (73, [(54, .astore_n 3, 55, 0), (55, .aload_n 1, 56, 0), (56, .aload_n 3, 57, 0), (57, .iconst 0, 58, 0), (58, .iaload, 59, 0), (59, .putfield 26, 62, 0), (62, .aload_n 1, 63, 0), (63, .aload_n 3, 64, 0), (64, .iconst 1, 65, 0), (65, .iaload, 66, 0), (66, .putfield 31, 69, 0), (69, .aload_n 1, 70, 0), (70, .aload_n 3, 71, 0), (71, .iconst 2, 72, 0), (72, .iaload, 73, 0), (73, .putfield 34, 76, 0)]), (97, [(76, .aload_n 1, 77, 0), (77, .aload_n 3, 78, 0), (78, .iconst 3, 79, 0), (79, .iaload, 80, 0), (80, .putfield 37, 83, 0), (83, .aload_n 1, 84, 0), (84, .aload_n 3, 85, 0), (85, .iconst 4, 86, 0), (86, .iaload, 87, 0), (87, .putfield 40, 90, 0), (90, .aload_n 2, 91, 0), (91, .aload_n 3, 92, 0), (92, .iconst 5, 93, 0), (93, .iaload, 94, 0), (94, .putfield 43, 97, 0), (97, .aload_n 3, 98, 0)]), (124, [(98, .bipush 6, 100, 0), (100, .aload_n 2, 101, 0), (101, .getfield 48, 104, 0), (104, .iconst 0, 105, 0), (105, .bipush 12, 107, 0), (107, .invokestatic 52, 110, 0), (110, .aload_n 3, 111, 0), (111, .bipush 18, 113, 0), (113, .aload_n 2, 114, 0), (114, .getfield 58, 117, 0), (117, .iconst 0, 118, 0), (118, .bipush 12, 120, 0), (120, .invokestatic 52, 123, 0), (123, .iconst 1, 124, 0), (124, .ireturn, 125, 0)])])
theorem ok_X0_restore : ev_ok mi_X0_restore := ev_ok_of (by decide +kernel)
theorem pf_X0_restore : plainName mi_X0_restore.1.cls = true ∨ plainFor mi_X0_restore.1 = true := Or.inl pn_X0
def mi_X1_init : MI := (yX1_init, prog_3_method_1_code, 1, none, 1, 12, 1, [(30, [(0, .aload_n 0, 1, 0), (1, .invokespecial 1, 4, 0), (4, .aload_n 0, 5, 0), (5, .bipush 100, 7, 0), (7, .putfield 7, 10, 0), (10, .aload_n 0, 11, 0), (11, .sipush 1000, 14, 0), (14, .putfield 13, 17, 0), (17, .aload_n 0, 18, 0), (18, .iconst 3, 19, 0), (19, .putfield 16, 22, 0), (22, .aload_n 0, 23, 0), (23, .sipush 150, 26, 0), (26, .putfield 19, 29, 0), (29, .aload_n 0, 30, 0), (30, .iconst 0, 31, 0)]), (34, [(31, .putfield 22, 34, 0), (34, .return_, 35, 0)])])
theorem ok_X1_init : ev_ok mi_X1_init := ev_ok_of (by decide +kernel)
theorem pn_X1 : plainName RX1 = true := by decide +kernel
theorem pf_X1_init : plainName mi_X1_init.1.cls = true ∨ plainFor mi_X1_init.1 = true := Or.inl pn_X1
def mi_X1_copyFrom : MI := (yX1_copyFrom, prog_3_method_2_code, 2, none, 0, 0, 1, [(29, [(0, .aload_n 0, 1, 0), (1, .aload_n 1, 2, 0), (2, .getfield 7, 5, 0), (5, .putfield 7, 8, 0), (8, .aload_n 0, 9, 0), (9, .aload_n 1, 10, 0), (10, .getfield 13, 13, 0), (13, .putfield 13, 16, 0), (16, .aload_n 0, 17, 0), (17, .aload_n 1, 18, 0), (18, .getfield 16, 21, 0), (21, .putfield 16, 24, 0), (24, .aload_n 0, 25, 0), (25, .aload_n 1, 26, 0), (26, .getfield 19, 29, 0), (29, .putfield 19, 32, 0)]), (40, [(32, .aload_n 0, 33, 0), (33, .aload_n 1, 34, 0), (34, .getfield 22, 37, 0), (37, .putfield 22, 40, 0), (40, .return_, 41, 0)])])
theorem ok_X1_copyFrom : ev_ok mi_X1_copyFrom := ev_ok_of (by decide +kernel)
theorem pf_X1_copyFrom : plainName mi_X1_copyFrom.1.cls = true ∨ plainFor mi_X1_copyFrom.1 = true := Or.inl pn_X1
def mi_X1_pass : MI := (yX1_pass, prog_3_method_3_code, 3, none, 1, 21, 1, [(27, [(0, .aload_n 0, 1, 0), (1, .dup, 2, 0), (2, .getfield 13, 5, 0), (5, .iload_n 1, 6, 0), (6, .isub, 7, 0), (7, .putfield 13, 10, 0), (10, .aload_n 0, 11, 0), (11, .getfield 13, 14, 0), (14, .ifCond .le 12, 17, 26), (17, .iconst 2, 18, 0), (18, .aload_n 0, 19, 0), (19, .getfield 16, 22, 0), (22, .imul, 23, 0), (23, .goto 4, 26, 27), (26, .iconst 0, 27, 0), (27, .istore_n 2, 28, 0)]), (55, [(28, .aload_n 0, 29, 0), (29, .iconst 0, 30, 0), (30, .aload_n 0, 31, 0), (31, .getfield 7, 34, 0), (34, .iload_n 2, 35, 0), (35, .iadd, 36, 0), (36, .iload_n 1, 37, 0), (37, .isub, 38, 0), (38, .invokestatic 25, 41, 0), (41, .putfield 7, 44, 0), (44, .aload_n 0, 45, 0), (45, .getfield 7, 48, 0), (48, .aload_n 0, 49, 0), (49, .getfield 19, 52, 0), (52, .if_icmp .le 43, 55, 95), (55, .aload_n 0, 56, 0)]), (85, [(56, .iconst 0, 57, 0), (57, .aload_n 0, 58, 0), (58, .getfield 13, 61, 0), (61, .aload_n 0, 62, 0), (62, .getfield 7, 65, 0), (65, .aload_n 0, 66, 0), (66, .getfield 19, 69, 0), (69, .isub, 70, 0), (70, .isub, 71, 0), (71, .invokestatic 25, 74, 0), (74, .putfield 13, 77, 0), (77, .aload_n 0, 78, 0), (78, .aload_n 0, 79, 0), (79, .getfield 19, 82, 0), (82, .putfield 7, 85, 0), (85, .aload_n 0, 86, 0)]), (95, [(86, .dup, 87, 0), (87, .getfield 22, 90, 0), (90, .iconst 1, 91, 0), (91, .iadd, 92, 0), (92, .putfield 22, 95, 0), (95, .return_, 96, 0)])])
theorem ok_X1_pass : ev_ok mi_X1_pass := ev_ok_of (by decide +kernel)
theorem pf_X1_pass : plainName mi_X1_pass.1.cls = true ∨ plainFor mi_X1_pass.1 = true := Or.inl pn_X1
def mi_X1_after : MI := (yX1_after, prog_3_method_4_code, 3, (some .int), 1, 21, 1, [(21, [(0, .aload_n 0, 1, 0), (1, .getfield 19, 4, 0), (4, .iconst 0, 5, 0), (5, .iload_n 1, 6, 0), (6, .iconst 2, 7, 0), (7, .aload_n 0, 8, 0), (8, .getfield 16, 11, 0), (11, .imul, 12, 0), (12, .iadd, 13, 0), (13, .iload_n 2, 14, 0), (14, .isub, 15, 0), (15, .invokestatic 25, 18, 0), (18, .invokestatic 31, 21, 0), (21, .ireturn, 22, 0)])])
theorem ok_X1_after : ev_ok mi_X1_after := ev_ok_of (by decide +kernel)
theorem pf_X1_after : plainName mi_X1_after.1.cls = true ∨ plainFor mi_X1_after.1 = true := Or.inl pn_X1
def mi_X2_init : MI := (yX2_init, prog_4_method_1_code, 1, none, 1, 12, 2, [(28, [(0, .aload_n 0, 1, 0), (1, .invokespecial 3, 4, 0), (4, .aload_n 0, 5, 0), (5, .sipush 160, 8, 0), (8, .newarray .byte, 10, 0), (10, .putfield 11, 13, 0), (13, .aload_n 0, 14, 0), (14, .iconst 0, 15, 0), (15, .putfield 15, 18, 0), (18, .aload_n 0, 19, 0), (19, .iconst 0, 20, 0), (20, .putfield 19, 23, 0), (23, .aload_n 0, 24, 0), (24, .iconst 0, 25, 0), (25, .putfield 22, 28, 0), (28, .aload_n 0, 29, 0)]), (54, [(29, .iconst 0, 30, 0), (30, .putfield 25, 33, 0), (33, .aload_n 0, 34, 0), (34, .iconst 0, 35, 0), (35, .putfield 28, 38, 0), (38, .aload_n 0, 39, 0), (39, .iconst (-1), 40, 0), (40, .putfield 31, 43, 0), (43, .aload_n 0, 44, 0), (44, .iconst 0, 45, 0), (45, .putfield 34, 48, 0), (48, .aload_n 0, 49, 0), (49, .iconst 0, 50, 0), (50, .putfield 37, 53, 0), (53, .aload_n 0, 54, 0), (54, .bipush 24, 56, 0)]), (82, [(56, .newarray .int, 58, 0), (58, .putfield 40, 61, 0), (61, .aload_n 0, 62, 0), (62, .iconst 0, 63, 0), (63, .putfield 44, 66, 0), (66, .aload_n 0, 67, 0), (67, .iconst 4, 68, 0), (68, .newarray .int, 70, 0), (70, .putfield 47, 73, 0), (73, .aload_n 0, 74, 0), (74, .iconst 4, 75, 0), (75, .newarray .int, 77, 0), (77, .putfield 50, 80, 0), (80, .aload_n 0, 81, 0), (81, .iconst 0, 82, 0), (82, .putfield 53, 85, 0)]), (85, [(85, .return_, 86, 0)])])
theorem ok_X2_init : ev_ok mi_X2_init := ev_ok_of (by decide +kernel)
theorem pn_X2 : plainName RX2 = true := by decide +kernel
theorem pf_X2_init : plainName mi_X2_init.1.cls = true ∨ plainFor mi_X2_init.1 = true := Or.inl pn_X2
def mi_X2_append : MI := (yX2_append, prog_4_method_2_code, 4, (some .boolean), 0, 0, 2, [(27, [(0, .aload_n 0, 1, 0), (1, .getfield 15, 4, 0), (4, .bipush 8, 6, 0), (6, .iadd, 7, 0), (7, .sipush 160, 10, 0), (10, .if_icmp .le 5, 13, 15), (13, .iconst 0, 14, 0), (14, .ireturn, 15, 0), (15, .iconst 0, 16, 0), (16, .istore_n 3, 17, 0), (17, .iload_n 3, 18, 0), (18, .bipush 8, 20, 0), (20, .if_icmp .ge 31, 23, 51), (23, .aload_n 0, 24, 0), (24, .getfield 11, 27, 0), (27, .aload_n 0, 28, 0)]), (51, [(28, .getfield 15, 31, 0), (31, .iload_n 3, 32, 0), (32, .iadd, 33, 0), (33, .lload_n 1, 34, 0), (34, .bipush 56, 36, 0), (36, .bipush 8, 38, 0), (38, .iload_n 3, 39, 0), (39, .imul, 40, 0), (40, .isub, 41, 0), (41, .lshr, 42, 0), (42, .l2i, 43, 0), (43, .i2b, 44, 0), (44, .bastore, 45, 0), (45, .iinc 3 1, 48, 0), (48, .goto (-31), 51, 17), (51, .aload_n 0, 52, 0)]), (63, [(52, .dup, 53, 0), (53, .getfield 15, 56, 0), (56, .bipush 8, 58, 0), (58, .iadd, 59, 0), (59, .putfield 15, 62, 0), (62, .iconst 1, 63, 0), (63, .ireturn, 64, 0)])])
theorem ok_X2_append : ev_ok mi_X2_append := ev_ok_of (by decide +kernel)
theorem pf_X2_append : plainName mi_X2_append.1.cls = true ∨ plainFor mi_X2_append.1 = true := Or.inl pn_X2
def mi_X2_readAll : MI := (yX2_readAll, prog_4_method_3_code, 3, none, 4, 83, 2, [(25, [(0, .aload_n 0, 1, 0), (1, .iconst 0, 2, 0), (2, .putfield 19, 5, 0), (5, .aload_n 0, 6, 0), (6, .iconst 0, 7, 0), (7, .putfield 34, 10, 0), (10, .aload_n 0, 11, 0), (11, .iconst 0, 12, 0), (12, .putfield 37, 15, 0), (15, .aload_n 0, 16, 0), (16, .iconst 0, 17, 0), (17, .putfield 44, 20, 0), (20, .aload_n 0, 21, 0), (21, .iconst 0, 22, 0), (22, .putfield 53, 25, 0), (25, .iconst 0, 26, 0)]), (53, [(26, .istore_n 1, 27, 0), (27, .iconst 0, 28, 0), (28, .istore_n 2, 29, 0), (29, .iload_n 2, 30, 0), (30, .aload_n 0, 31, 0), (31, .getfield 15, 34, 0), (34, .if_icmp .gt 38, 37, 72), (37, .iload_n 1, 38, 0), (38, .iconst 3, 39, 0), (39, .if_icmp .eq 33, 42, 72), (42, .aload_n 0, 43, 0), (43, .getfield 34, 46, 0), (46, .ifCond .ne 26, 49, 72), (49, .aload_n 0, 50, 0), (50, .invokevirtual 56, 53, 0), (53, .aload_n 0, 54, 0)]), (72, [(54, .getfield 34, 57, 0), (57, .ifCond .ne 9, 60, 66), (60, .aload_n 0, 61, 0), (61, .iload_n 1, 62, 0), (62, .invokevirtual 59, 65, 0), (65, .istore_n 1, 66, 0), (66, .iinc 2 1, 69, 0), (69, .goto (-40), 72, 29), (72, .return_, 73, 0)])])
theorem ok_X2_readAll : ev_ok mi_X2_readAll := ev_ok_of (by decide +kernel)
theorem pf_X2_readAll : plainName mi_X2_readAll.1.cls = true ∨ plainFor mi_X2_readAll.1 = true := Or.inl pn_X2
def mi_X2_readToken : MI := (yX2_readToken, prog_4_method_4_code, 1, none, 2, 44, 2, [(30, [(0, .aload_n 0, 1, 0), (1, .getfield 19, 4, 0), (4, .aload_n 0, 5, 0), (5, .getfield 15, 8, 0), (8, .if_icmp .ge 30, 11, 38), (11, .aload_n 0, 12, 0), (12, .getfield 11, 15, 0), (15, .aload_n 0, 16, 0), (16, .getfield 19, 19, 0), (19, .baload, 20, 0), (20, .bipush 32, 22, 0), (22, .if_icmp .ne 16, 25, 38), (25, .aload_n 0, 26, 0), (26, .dup, 27, 0), (27, .getfield 19, 30, 0), (30, .iconst 1, 31, 0)]), (62, [(31, .iadd, 32, 0), (32, .putfield 19, 35, 0), (35, .goto (-35), 38, 0), (38, .aload_n 0, 39, 0), (39, .aload_n 0, 40, 0), (40, .getfield 19, 43, 0), (43, .putfield 25, 46, 0), (46, .aload_n 0, 47, 0), (47, .getfield 19, 50, 0), (50, .aload_n 0, 51, 0), (51, .getfield 15, 54, 0), (54, .if_icmp .lt 11, 57, 65), (57, .aload_n 0, 58, 0), (58, .iconst 0, 59, 0), (59, .putfield 22, 62, 0), (62, .goto 43, 65, 105)]), (98, [(65, .aload_n 0, 66, 0), (66, .aload_n 0, 67, 0), (67, .getfield 19, 70, 0), (70, .invokevirtual 63, 73, 0), (73, .ifCond .eq 10, 76, 83), (76, .aload_n 0, 77, 0), (77, .invokevirtual 67, 80, 0), (80, .goto 25, 83, 105), (83, .aload_n 0, 84, 0), (84, .aload_n 0, 85, 0), (85, .getfield 19, 88, 0), (88, .invokevirtual 70, 91, 0), (91, .ifCond .eq 10, 94, 101), (94, .aload_n 0, 95, 0), (95, .invokevirtual 73, 98, 0), (98, .goto 7, 101, 105)]), (105, [(101, .aload_n 0, 102, 0), (102, .invokevirtual 76, 105, 0), (105, .return_, 106, 0)])])
theorem ok_X2_readToken : ev_ok mi_X2_readToken := ev_ok_of (by decide +kernel)
theorem pf_X2_readToken : plainName mi_X2_readToken.1.cls = true ∨ plainFor mi_X2_readToken.1 = true := Or.inl pn_X2
def mi_X2_isLetter : MI := (yX2_isLetter, prog_4_method_5_code, 2, (some .boolean), 0, 0, 2, [(27, [(0, .iload_n 1, 1, 0), (1, .aload_n 0, 2, 0), (2, .getfield 15, 5, 0), (5, .if_icmp .ge 29, 8, 34), (8, .aload_n 0, 9, 0), (9, .getfield 11, 12, 0), (12, .iload_n 1, 13, 0), (13, .baload, 14, 0), (14, .bipush 97, 16, 0), (16, .if_icmp .lt 18, 19, 34), (19, .aload_n 0, 20, 0), (20, .getfield 11, 23, 0), (23, .iload_n 1, 24, 0), (24, .baload, 25, 0), (25, .bipush 122, 27, 0), (27, .if_icmp .gt 7, 30, 34)]), (35, [(30, .iconst 1, 31, 0), (31, .goto 4, 34, 35), (34, .iconst 0, 35, 0), (35, .ireturn, 36, 0)])])
theorem ok_X2_isLetter : ev_ok mi_X2_isLetter := ev_ok_of (by decide +kernel)
theorem pf_X2_isLetter : plainName mi_X2_isLetter.1.cls = true ∨ plainFor mi_X2_isLetter.1 = true := Or.inl pn_X2
def mi_X2_isFigure : MI := (yX2_isFigure, prog_4_method_6_code, 2, (some .boolean), 0, 0, 2, [(27, [(0, .iload_n 1, 1, 0), (1, .aload_n 0, 2, 0), (2, .getfield 15, 5, 0), (5, .if_icmp .ge 29, 8, 34), (8, .aload_n 0, 9, 0), (9, .getfield 11, 12, 0), (12, .iload_n 1, 13, 0), (13, .baload, 14, 0), (14, .bipush 48, 16, 0), (16, .if_icmp .lt 18, 19, 34), (19, .aload_n 0, 20, 0), (20, .getfield 11, 23, 0), (23, .iload_n 1, 24, 0), (24, .baload, 25, 0), (25, .bipush 57, 27, 0), (27, .if_icmp .gt 7, 30, 34)]), (35, [(30, .iconst 1, 31, 0), (31, .goto 4, 34, 35), (34, .iconst 0, 35, 0), (35, .ireturn, 36, 0)])])
theorem ok_X2_isFigure : ev_ok mi_X2_isFigure := ev_ok_of (by decide +kernel)
theorem pf_X2_isFigure : plainName mi_X2_isFigure.1.cls = true ∨ plainFor mi_X2_isFigure.1 = true := Or.inl pn_X2
def mi_X2_readChord : MI := (yX2_readChord, prog_4_method_7_code, 3, none, 1, 22, 2, [(23, [(0, .aload_n 0, 1, 0), (1, .iconst 1, 2, 0), (2, .putfield 22, 5, 0), (5, .aload_n 0, 6, 0), (6, .iconst 0, 7, 0), (7, .putfield 28, 10, 0), (10, .aload_n 0, 11, 0), (11, .iconst (-1), 12, 0), (12, .putfield 31, 15, 0), (15, .iconst 0, 16, 0), (16, .istore_n 1, 17, 0), (17, .iload_n 1, 18, 0), (18, .iconst 5, 19, 0), (19, .if_icmp .gt 96, 22, 115), (22, .aload_n 0, 23, 0), (23, .aload_n 0, 24, 0)]), (53, [(24, .getfield 19, 27, 0), (27, .invokevirtual 63, 30, 0), (30, .ifCond .eq 85, 33, 115), (33, .aload_n 0, 34, 0), (34, .getfield 11, 37, 0), (37, .aload_n 0, 38, 0), (38, .getfield 19, 41, 0), (41, .baload, 42, 0), (42, .bipush 97, 44, 0), (44, .isub, 45, 0), (45, .istore_n 2, 46, 0), (46, .iload_n 2, 47, 0), (47, .bipush 12, 49, 0), (49, .if_icmp .lt 13, 52, 62), (52, .aload_n 0, 53, 0), (53, .iconst 1, 54, 0)]), (79, [(54, .aload_n 0, 55, 0), (55, .getfield 19, 58, 0), (58, .invokevirtual 79, 61, 0), (61, .return_, 62, 0), (62, .aload_n 0, 63, 0), (63, .getfield 28, 66, 0), (66, .iload_n 2, 67, 0), (67, .ishr, 68, 0), (68, .iconst 1, 69, 0), (69, .iand, 70, 0), (70, .ifCond .ne 8, 73, 78), (73, .iload_n 1, 74, 0), (74, .iconst 5, 75, 0), (75, .if_icmp .ne 12, 78, 87), (78, .aload_n 0, 79, 0), (79, .aload_n 0, 80, 0)]), (105, [(80, .getfield 19, 83, 0), (83, .putfield 31, 86, 0), (86, .return_, 87, 0), (87, .aload_n 0, 88, 0), (88, .dup, 89, 0), (89, .getfield 28, 92, 0), (92, .iconst 1, 93, 0), (93, .iload_n 2, 94, 0), (94, .ishl, 95, 0), (95, .ior, 96, 0), (96, .putfield 28, 99, 0), (99, .aload_n 0, 100, 0), (100, .dup, 101, 0), (101, .getfield 19, 104, 0), (104, .iconst 1, 105, 0), (105, .iadd, 106, 0)]), (115, [(106, .putfield 19, 109, 0), (109, .iinc 1 1, 112, 0), (112, .goto (-95), 115, 17), (115, .return_, 116, 0)])])
theorem ok_X2_readChord : ev_ok mi_X2_readChord := ev_ok_of (by decide +kernel)
theorem pf_X2_readChord : plainName mi_X2_readChord.1.cls = true ∨ plainFor mi_X2_readChord.1 = true := Or.inl pn_X2
def mi_X2_readNumber : MI := (yX2_readNumber, prog_4_method_8_code, 2, none, 1, 22, 2, [(25, [(0, .aload_n 0, 1, 0), (1, .iconst 2, 2, 0), (2, .putfield 22, 5, 0), (5, .aload_n 0, 6, 0), (6, .iconst 0, 7, 0), (7, .putfield 28, 10, 0), (10, .iconst 0, 11, 0), (11, .istore_n 1, 12, 0), (12, .iload_n 1, 13, 0), (13, .iconst 2, 14, 0), (14, .if_icmp .ge 54, 17, 68), (17, .aload_n 0, 18, 0), (18, .aload_n 0, 19, 0), (19, .getfield 19, 22, 0), (22, .invokevirtual 70, 25, 0), (25, .ifCond .eq 43, 28, 68)]), (53, [(28, .aload_n 0, 29, 0), (29, .aload_n 0, 30, 0), (30, .getfield 28, 33, 0), (33, .bipush 10, 35, 0), (35, .imul, 36, 0), (36, .aload_n 0, 37, 0), (37, .getfield 11, 40, 0), (40, .aload_n 0, 41, 0), (41, .getfield 19, 44, 0), (44, .baload, 45, 0), (45, .iadd, 46, 0), (46, .bipush 48, 48, 0), (48, .isub, 49, 0), (49, .putfield 28, 52, 0), (52, .aload_n 0, 53, 0), (53, .dup, 54, 0)]), (85, [(54, .getfield 19, 57, 0), (57, .iconst 1, 58, 0), (58, .iadd, 59, 0), (59, .putfield 19, 62, 0), (62, .iinc 1 1, 65, 0), (65, .goto (-53), 68, 12), (68, .aload_n 0, 69, 0), (69, .aload_n 0, 70, 0), (70, .getfield 19, 73, 0), (73, .invokevirtual 70, 76, 0), (76, .ifCond .eq 12, 79, 88), (79, .aload_n 0, 80, 0), (80, .iconst 1, 81, 0), (81, .aload_n 0, 82, 0), (82, .getfield 25, 85, 0), (85, .invokevirtual 79, 88, 0)]), (88, [(88, .return_, 89, 0)])])
theorem ok_X2_readNumber : ev_ok mi_X2_readNumber := ev_ok_of (by decide +kernel)
theorem pf_X2_readNumber : plainName mi_X2_readNumber.1.cls = true ∨ plainFor mi_X2_readNumber.1 = true := Or.inl pn_X2
def mi_X2_readSign : MI := (yX2_readSign, prog_4_method_9_code, 1, none, 1, 22, 2, [(61, [(0, .aload_n 0, 1, 0), (1, .getfield 11, 4, 0), (4, .aload_n 0, 5, 0), (5, .getfield 19, 8, 0), (8, .baload, 9, 0), (9, .lookupswitch 59 #[(40, 43), (41, 51), (46, 35)], 44, 0), (44, .aload_n 0, 45, 0), (45, .iconst 3, 46, 0), (46, .putfield 22, 49, 0), (49, .goto 28, 52, 77), (52, .aload_n 0, 53, 0), (53, .iconst 4, 54, 0), (54, .putfield 22, 57, 0), (57, .goto 20, 60, 77), (60, .aload_n 0, 61, 0), (61, .iconst 5, 62, 0)]), (87, [(62, .putfield 22, 65, 0), (65, .goto 12, 68, 77), (68, .aload_n 0, 69, 0), (69, .iconst 1, 70, 0), (70, .aload_n 0, 71, 0), (71, .getfield 19, 74, 0), (74, .invokevirtual 79, 77, 0), (77, .aload_n 0, 78, 0), (78, .dup, 79, 0), (79, .getfield 19, 82, 0), (82, .iconst 1, 83, 0), (83, .iadd, 84, 0), (84, .putfield 19, 87, 0), (87, .return_, 88, 0)])])
theorem ok_X2_readSign : ev_ok mi_X2_readSign := ev_ok_of (by decide +kernel)
theorem pf_X2_readSign : plainName mi_X2_readSign.1.cls = true ∨ plainFor mi_X2_readSign.1 = true := Or.inl pn_X2
def mi_X2_take : MI := (yX2_take, prog_4_method_10_code, 2, (some .int), 3, 62, 2, [(29, [(0, .iload_n 1, 1, 0), (1, .iconst 2, 2, 0), (2, .if_icmp .ne 23, 5, 25), (5, .aload_n 0, 6, 0), (6, .getfield 22, 9, 0), (9, .iconst 4, 10, 0), (10, .if_icmp .ne 10, 13, 20), (13, .aload_n 0, 14, 0), (14, .invokevirtual 83, 17, 0), (17, .goto 7, 20, 24), (20, .aload_n 0, 21, 0), (21, .invokevirtual 87, 24, 0), (24, .ireturn, 25, 0), (25, .aload_n 0, 26, 0), (26, .getfield 22, 29, 0), (29, .tableswitch 103 0 5 #[79, 39, 50, 44, 103, 55], 68, 0)]), (93, [(68, .aload_n 0, 69, 0), (69, .invokevirtual 90, 72, 0), (72, .ireturn, 73, 0), (73, .aload_n 0, 74, 0), (74, .iconst 0, 75, 0), (75, .invokevirtual 93, 78, 0), (78, .ireturn, 79, 0), (79, .aload_n 0, 80, 0), (80, .invokevirtual 96, 83, 0), (83, .ireturn, 84, 0), (84, .iload_n 1, 85, 0), (85, .iconst 1, 86, 0), (86, .if_icmp .ne 17, 89, 103), (89, .aload_n 0, 90, 0), (90, .getfield 53, 93, 0), (93, .ifCond .le 10, 96, 103)]), (127, [(96, .aload_n 0, 97, 0), (97, .invokevirtual 99, 100, 0), (100, .goto 7, 103, 107), (103, .aload_n 0, 104, 0), (104, .invokevirtual 87, 107, 0), (107, .ireturn, 108, 0), (108, .iload_n 1, 109, 0), (109, .iconst 1, 110, 0), (110, .if_icmp .ne 17, 113, 127), (113, .aload_n 0, 114, 0), (114, .getfield 53, 117, 0), (117, .ifCond .ne 10, 120, 127), (120, .aload_n 0, 121, 0), (121, .invokevirtual 102, 124, 0), (124, .goto 7, 127, 131), (127, .aload_n 0, 128, 0)]), (136, [(128, .invokevirtual 87, 131, 0), (131, .ireturn, 132, 0), (132, .aload_n 0, 133, 0), (133, .invokevirtual 87, 136, 0), (136, .ireturn, 137, 0)])])
theorem ok_X2_take : ev_ok mi_X2_take := ev_ok_of (by decide +kernel)
theorem pf_X2_take : plainName mi_X2_take.1.cls = true ∨ plainFor mi_X2_take.1 = true := Or.inl pn_X2
def mi_X2_takeChord : MI := (yX2_takeChord, prog_4_method_11_code, 1, (some .int), 2, 42, 2, [(25, [(0, .aload_n 0, 1, 0), (1, .getfield 31, 4, 0), (4, .iconst (-1), 5, 0), (5, .if_icmp .eq 12, 8, 17), (8, .aload_n 0, 9, 0), (9, .iconst 4, 10, 0), (10, .aload_n 0, 11, 0), (11, .getfield 31, 14, 0), (14, .invokevirtual 79, 17, 0), (17, .aload_n 0, 18, 0), (18, .aload_n 0, 19, 0), (19, .getfield 28, 22, 0), (22, .invokevirtual 93, 25, 0), (25, .ireturn, 26, 0)])])
theorem ok_X2_takeChord : ev_ok mi_X2_takeChord := ev_ok_of (by decide +kernel)
theorem pf_X2_takeChord : plainName mi_X2_takeChord.1.cls = true ∨ plainFor mi_X2_takeChord.1 = true := Or.inl pn_X2
def mi_X2_addBeat : MI := (yX2_addBeat, prog_4_method_12_code, 2, (some .int), 1, 21, 2, [(27, [(0, .aload_n 0, 1, 0), (1, .getfield 44, 4, 0), (4, .bipush 24, 6, 0), (6, .if_icmp .ge 13, 9, 19), (9, .aload_n 0, 10, 0), (10, .getfield 40, 13, 0), (13, .aload_n 0, 14, 0), (14, .getfield 44, 17, 0), (17, .iload_n 1, 18, 0), (18, .iastore, 19, 0), (19, .aload_n 0, 20, 0), (20, .bipush 25, 22, 0), (22, .aload_n 0, 23, 0), (23, .getfield 44, 26, 0), (26, .iconst 1, 27, 0), (27, .iadd, 28, 0)]), (35, [(28, .invokestatic 105, 31, 0), (31, .putfield 44, 34, 0), (34, .iconst 1, 35, 0), (35, .ireturn, 36, 0)])])
theorem ok_X2_addBeat : ev_ok mi_X2_addBeat := ev_ok_of (by decide +kernel)
theorem pf_X2_addBeat : plainName mi_X2_addBeat.1.cls = true ∨ plainFor mi_X2_addBeat.1 = true := Or.inl pn_X2
def mi_X2_takeNumber : MI := (yX2_takeNumber, prog_4_method_13_code, 1, (some .int), 1, 22, 2, [(23, [(0, .aload_n 0, 1, 0), (1, .getfield 28, 4, 0), (4, .iconst 1, 5, 0), (5, .bipush 20, 7, 0), (7, .invokestatic 111, 10, 0), (10, .ifCond .ne 12, 13, 22), (13, .aload_n 0, 14, 0), (14, .iconst 3, 15, 0), (15, .aload_n 0, 16, 0), (16, .getfield 25, 19, 0), (19, .invokevirtual 79, 22, 0), (22, .iconst 2, 23, 0), (23, .ireturn, 24, 0)])])
theorem ok_X2_takeNumber : ev_ok mi_X2_takeNumber := ev_ok_of (by decide +kernel)
theorem pf_X2_takeNumber : plainName mi_X2_takeNumber.1.cls = true ∨ plainFor mi_X2_takeNumber.1 = true := Or.inl pn_X2
def mi_X2_takeOpen : MI := (yX2_takeOpen, prog_4_method_14_code, 1, (some .int), 1, 22, 2, [(27, [(0, .aload_n 0, 1, 0), (1, .getfield 53, 4, 0), (4, .iconst 4, 5, 0), (5, .if_icmp .lt 14, 8, 19), (8, .aload_n 0, 9, 0), (9, .iconst 5, 10, 0), (10, .aload_n 0, 11, 0), (11, .getfield 25, 14, 0), (14, .invokevirtual 79, 17, 0), (17, .iconst 3, 18, 0), (18, .ireturn, 19, 0), (19, .aload_n 0, 20, 0), (20, .getfield 47, 23, 0), (23, .aload_n 0, 24, 0), (24, .getfield 53, 27, 0), (27, .aload_n 0, 28, 0)]), (55, [(28, .getfield 44, 31, 0), (31, .iastore, 32, 0), (32, .aload_n 0, 33, 0), (33, .getfield 50, 36, 0), (36, .aload_n 0, 37, 0), (37, .getfield 53, 40, 0), (40, .aload_n 0, 41, 0), (41, .getfield 28, 44, 0), (44, .iastore, 45, 0), (45, .aload_n 0, 46, 0), (46, .dup, 47, 0), (47, .getfield 53, 50, 0), (50, .iconst 1, 51, 0), (51, .iadd, 52, 0), (52, .putfield 53, 55, 0), (55, .iconst 0, 56, 0)]), (56, [(56, .ireturn, 57, 0)])])
theorem ok_X2_takeOpen : ev_ok mi_X2_takeOpen := ev_ok_of (by decide +kernel)
theorem pf_X2_takeOpen : plainName mi_X2_takeOpen.1.cls = true ∨ plainFor mi_X2_takeOpen.1 = true := Or.inl pn_X2
def mi_X2_takeClose : MI := (yX2_takeClose, prog_4_method_15_code, 5, (some .int), 0, 0, 2, [(25, [(0, .aload_n 0, 1, 0), (1, .dup, 2, 0), (2, .getfield 53, 5, 0), (5, .iconst 1, 6, 0), (6, .isub, 7, 0), (7, .putfield 53, 10, 0), (10, .aload_n 0, 11, 0), (11, .getfield 47, 14, 0), (14, .aload_n 0, 15, 0), (15, .getfield 53, 18, 0), (18, .iaload, 19, 0), (19, .istore_n 1, 20, 0), (20, .iload_n 1, 21, 0), (21, .aload_n 0, 22, 0), (22, .getfield 44, 25, 0), (25, .iload_n 1, 26, 0)]), (51, [(26, .isub, 27, 0), (27, .aload_n 0, 28, 0), (28, .getfield 50, 31, 0), (31, .aload_n 0, 32, 0), (32, .getfield 53, 35, 0), (35, .iaload, 36, 0), (36, .imul, 37, 0), (37, .iadd, 38, 0), (38, .istore_n 2, 39, 0), (39, .aload_n 0, 40, 0), (40, .getfield 44, 43, 0), (43, .bipush 24, 45, 0), (45, .if_icmp .gt 9, 48, 54), (48, .iload_n 2, 49, 0), (49, .bipush 24, 51, 0), (51, .if_icmp .le 11, 54, 62)]), (78, [(54, .aload_n 0, 55, 0), (55, .bipush 25, 57, 0), (57, .putfield 44, 60, 0), (60, .iconst 1, 61, 0), (61, .ireturn, 62, 0), (62, .aload_n 0, 63, 0), (63, .getfield 44, 66, 0), (66, .iload_n 1, 67, 0), (67, .isub, 68, 0), (68, .istore_n 3, 69, 0), (69, .aload_n 0, 70, 0), (70, .getfield 44, 73, 0), (73, .istore 4, 75, 0), (75, .iload 4, 77, 0), (77, .iload_n 2, 78, 0), (78, .if_icmp .ge 25, 81, 103)]), (108, [(81, .aload_n 0, 82, 0), (82, .getfield 40, 85, 0), (85, .iload 4, 87, 0), (87, .aload_n 0, 88, 0), (88, .getfield 40, 91, 0), (91, .iload 4, 93, 0), (93, .iload_n 3, 94, 0), (94, .isub, 95, 0), (95, .iaload, 96, 0), (96, .iastore, 97, 0), (97, .iinc 4 1, 100, 0), (100, .goto (-25), 103, 75), (103, .aload_n 0, 104, 0), (104, .iload_n 2, 105, 0), (105, .putfield 44, 108, 0), (108, .iconst 1, 109, 0)]), (109, [(109, .ireturn, 110, 0)])])
theorem ok_X2_takeClose : ev_ok mi_X2_takeClose := ev_ok_of (by decide +kernel)
theorem pf_X2_takeClose : plainName mi_X2_takeClose.1.cls = true ∨ plainFor mi_X2_takeClose.1 = true := Or.inl pn_X2
def mi_X2_takeEnd : MI := (yX2_takeEnd, prog_4_method_16_code, 1, (some .int), 1, 22, 2, [(17, [(0, .aload_n 0, 1, 0), (1, .getfield 44, 4, 0), (4, .bipush 24, 6, 0), (6, .if_icmp .le 10, 9, 16), (9, .aload_n 0, 10, 0), (10, .bipush 6, 12, 0), (12, .iconst 0, 13, 0), (13, .invokevirtual 79, 16, 0), (16, .iconst 3, 17, 0), (17, .ireturn, 18, 0)])])
theorem ok_X2_takeEnd : ev_ok mi_X2_takeEnd := ev_ok_of (by decide +kernel)
theorem pf_X2_takeEnd : plainName mi_X2_takeEnd.1.cls = true ∨ plainFor mi_X2_takeEnd.1 = true := Or.inl pn_X2
def mi_X2_misplaced : MI := (yX2_misplaced, prog_4_method_17_code, 1, (some .int), 1, 22, 2, [(10, [(0, .aload_n 0, 1, 0), (1, .iconst 2, 2, 0), (2, .aload_n 0, 3, 0), (3, .getfield 25, 6, 0), (6, .invokevirtual 79, 9, 0), (9, .iconst 3, 10, 0), (10, .ireturn, 11, 0)])])
theorem ok_X2_misplaced : ev_ok mi_X2_misplaced := ev_ok_of (by decide +kernel)
theorem pf_X2_misplaced : plainName mi_X2_misplaced.1.cls = true ∨ plainFor mi_X2_misplaced.1 = true := Or.inl pn_X2
def mi_X2_fail : MI := (yX2_fail, prog_4_method_18_code, 3, none, 0, 0, 2, [(10, [(0, .aload_n 0, 1, 0), (1, .iload_n 1, 2, 0), (2, .putfield 34, 5, 0), (5, .aload_n 0, 6, 0), (6, .iload_n 2, 7, 0), (7, .putfield 37, 10, 0), (10, .return_, 11, 0)])])
theorem ok_X2_fail : ev_ok mi_X2_fail := ev_ok_of (by decide +kernel)
theorem pf_X2_fail : plainName mi_X2_fail.1.cls = true ∨ plainFor mi_X2_fail.1 = true := Or.inl pn_X2
def mi_X3_init : MI := (yX3_init, prog_5_method_1_code, 1, none, 1, 12, 3, [(26, [(0, .aload_n 0, 1, 0), (1, .invokespecial 3, 4, 0), (4, .aload_n 0, 5, 0), (5, .iconst 4, 6, 0), (6, .newarray .int, 8, 0), (8, .putfield 11, 11, 0), (11, .aload_n 0, 12, 0), (12, .iconst 4, 13, 0), (13, .newarray .int, 15, 0), (15, .putfield 15, 18, 0), (18, .aload_n 0, 19, 0), (19, .iconst 0, 20, 0), (20, .putfield 18, 23, 0), (23, .aload_n 0, 24, 0), (24, .bipush 6, 26, 0), (26, .newarray .int, 28, 0)]), (56, [(28, .putfield 22, 31, 0), (31, .aload_n 0, 32, 0), (32, .bipush 6, 34, 0), (34, .newarray .int, 36, 0), (36, .putfield 25, 39, 0), (39, .aload_n 0, 40, 0), (40, .iconst 0, 41, 0), (41, .putfield 28, 44, 0), (44, .aload_n 0, 45, 0), (45, .bipush 10, 47, 0), (47, .putfield 31, 50, 0), (50, .aload_n 0, 51, 0), (51, .iconst 0, 52, 0), (52, .putfield 34, 55, 0), (55, .aload_n 0, 56, 0), (56, .bipush (-4), 58, 0)]), (72, [(58, .putfield 37, 61, 0), (61, .aload_n 0, 62, 0), (62, .bipush (-4), 64, 0), (64, .putfield 40, 67, 0), (67, .aload_n 0, 68, 0), (68, .iconst 0, 69, 0), (69, .putfield 43, 72, 0), (72, .return_, 73, 0)])])
theorem ok_X3_init : ev_ok mi_X3_init := ev_ok_of (by decide +kernel)
theorem pn_X3 : plainName RX3 = true := by decide +kernel
theorem pf_X3_init : plainName mi_X3_init.1.cls = true ∨ plainFor mi_X3_init.1 = true := Or.inl pn_X3
def mi_X3_hasBoat : MI := (yX3_hasBoat, prog_5_method_2_code, 2, (some .boolean), 0, 0, 3, [(18, [(0, .iconst 0, 1, 0), (1, .iload_n 1, 2, 0), (2, .if_icmp .gt 15, 5, 17), (5, .iload_n 1, 6, 0), (6, .aload_n 0, 7, 0), (7, .getfield 18, 10, 0), (10, .if_icmp .ge 7, 13, 17), (13, .iconst 1, 14, 0), (14, .goto 4, 17, 18), (17, .iconst 0, 18, 0), (18, .ireturn, 19, 0)])])
theorem ok_X3_hasBoat : ev_ok mi_X3_hasBoat := ev_ok_of (by decide +kernel)
theorem pf_X3_hasBoat : plainName mi_X3_hasBoat.1.cls = true ∨ plainFor mi_X3_hasBoat.1 = true := Or.inl pn_X3
def mi_X3_addBoat : MI := (yX3_addBoat, prog_5_method_3_code, 3, (some .int), 0, 0, 3, [(26, [(0, .aload_n 0, 1, 0), (1, .getfield 18, 4, 0), (4, .iconst 4, 5, 0), (5, .if_icmp .lt 6, 8, 11), (8, .bipush (-3), 10, 0), (10, .ireturn, 11, 0), (11, .aload_n 0, 12, 0), (12, .getfield 11, 15, 0), (15, .aload_n 0, 16, 0), (16, .getfield 18, 19, 0), (19, .iload_n 1, 20, 0), (20, .iastore, 21, 0), (21, .aload_n 0, 22, 0), (22, .getfield 15, 25, 0), (25, .aload_n 0, 26, 0), (26, .getfield 18, 29, 0)]), (47, [(29, .iload_n 2, 30, 0), (30, .iastore, 31, 0), (31, .aload_n 0, 32, 0), (32, .dup, 33, 0), (33, .getfield 18, 36, 0), (36, .iconst 1, 37, 0), (37, .iadd, 38, 0), (38, .putfield 18, 41, 0), (41, .aload_n 0, 42, 0), (42, .getfield 18, 45, 0), (45, .iconst 1, 46, 0), (46, .isub, 47, 0), (47, .ireturn, 48, 0)])])
theorem ok_X3_addBoat : ev_ok mi_X3_addBoat := ev_ok_of (by decide +kernel)
theorem pf_X3_addBoat : plainName mi_X3_addBoat.1.cls = true ∨ plainFor mi_X3_addBoat.1 = true := Or.inl pn_X3
def mi_X3_bendsAt : MI := (yX3_bendsAt, prog_5_method_4_code, 3, (some .boolean), 0, 0, 3, [(25, [(0, .iconst 0, 1, 0), (1, .istore_n 2, 2, 0), (2, .iload_n 2, 3, 0), (3, .aload_n 0, 4, 0), (4, .getfield 28, 7, 0), (7, .if_icmp .ge 21, 10, 28), (10, .aload_n 0, 11, 0), (11, .getfield 22, 14, 0), (14, .iload_n 2, 15, 0), (15, .iaload, 16, 0), (16, .iload_n 1, 17, 0), (17, .if_icmp .ne 5, 20, 22), (20, .iconst 1, 21, 0), (21, .ireturn, 22, 0), (22, .iinc 2 1, 25, 0), (25, .goto (-23), 28, 2)]), (29, [(28, .iconst 0, 29, 0), (29, .ireturn, 30, 0)])])
theorem ok_X3_bendsAt : ev_ok mi_X3_bendsAt := ev_ok_of (by decide +kernel)
theorem pf_X3_bendsAt : plainName mi_X3_bendsAt.1.cls = true ∨ plainFor mi_X3_bendsAt.1 = true := Or.inl pn_X3
def mi_X3_addBend : MI := (yX3_addBend, prog_5_method_5_code, 3, (some .int), 0, 0, 3, [(27, [(0, .aload_n 0, 1, 0), (1, .getfield 28, 4, 0), (4, .bipush 6, 6, 0), (6, .if_icmp .lt 6, 9, 12), (9, .bipush (-3), 11, 0), (11, .ireturn, 12, 0), (12, .aload_n 0, 13, 0), (13, .getfield 22, 16, 0), (16, .aload_n 0, 17, 0), (17, .getfield 28, 20, 0), (20, .iload_n 1, 21, 0), (21, .iastore, 22, 0), (22, .aload_n 0, 23, 0), (23, .getfield 25, 26, 0), (26, .aload_n 0, 27, 0), (27, .getfield 28, 30, 0)]), (46, [(30, .iload_n 2, 31, 0), (31, .iastore, 32, 0), (32, .aload_n 0, 33, 0), (33, .dup, 34, 0), (34, .getfield 28, 37, 0), (37, .iconst 1, 38, 0), (38, .iadd, 39, 0), (39, .putfield 28, 42, 0), (42, .aload_n 0, 43, 0), (43, .getfield 28, 46, 0), (46, .ireturn, 47, 0)])])
theorem ok_X3_addBend : ev_ok mi_X3_addBend := ev_ok_of (by decide +kernel)
theorem pf_X3_addBend : plainName mi_X3_addBend.1.cls = true ∨ plainFor mi_X3_addBend.1 = true := Or.inl pn_X3
def mi_X3_way : MI := (yX3_way, prog_5_method_6_code, 7, (some .int), 1, 21, 3, [(24, [(0, .iload_n 1, 1, 0), (1, .iload_n 2, 2, 0), (2, .invokestatic 46, 5, 0), (5, .istore_n 3, 6, 0), (6, .iload_n 1, 7, 0), (7, .iload_n 2, 8, 0), (8, .invokestatic 52, 11, 0), (11, .istore 4, 13, 0), (13, .iload 4, 15, 0), (15, .iload_n 3, 16, 0), (16, .isub, 17, 0), (17, .istore 5, 19, 0), (19, .iconst 0, 20, 0), (20, .istore 6, 22, 0), (22, .iload 6, 24, 0), (24, .aload_n 0, 25, 0)]), (56, [(25, .getfield 28, 28, 0), (28, .if_icmp .ge 44, 31, 72), (31, .iload_n 3, 32, 0), (32, .aload_n 0, 33, 0), (33, .getfield 22, 36, 0), (36, .iload 6, 38, 0), (38, .iaload, 39, 0), (39, .if_icmp .ge 27, 42, 66), (42, .aload_n 0, 43, 0), (43, .getfield 22, 46, 0), (46, .iload 6, 48, 0), (48, .iaload, 49, 0), (49, .iload 4, 51, 0), (51, .if_icmp .gt 15, 54, 66), (54, .iload 5, 56, 0), (56, .aload_n 0, 57, 0)]), (74, [(57, .getfield 25, 60, 0), (60, .iload 6, 62, 0), (62, .iaload, 63, 0), (63, .iadd, 64, 0), (64, .istore 5, 66, 0), (66, .iinc 6 1, 69, 0), (69, .goto (-47), 72, 22), (72, .iload 5, 74, 0), (74, .ireturn, 75, 0)])])
theorem ok_X3_way : ev_ok mi_X3_way := ev_ok_of (by decide +kernel)
theorem pf_X3_way : plainName mi_X3_way.1.cls = true ∨ plainFor mi_X3_way.1 = true := Or.inl pn_X3
def mi_X3_firstHeard : MI := (yX3_firstHeard, prog_5_method_7_code, 3, (some .int), 2, 47, 3, [(25, [(0, .aload_n 0, 1, 0), (1, .getfield 15, 4, 0), (4, .iload_n 1, 5, 0), (5, .iaload, 6, 0), (6, .aload_n 0, 7, 0), (7, .aload_n 0, 8, 0), (8, .getfield 11, 11, 0), (11, .iload_n 1, 12, 0), (12, .iaload, 13, 0), (13, .iload_n 2, 14, 0), (14, .invokevirtual 55, 17, 0), (17, .iconst 1, 18, 0), (18, .aload_n 0, 19, 0), (19, .getfield 31, 22, 0), (22, .invokestatic 52, 25, 0), (25, .idiv, 26, 0)]), (27, [(26, .iadd, 27, 0), (27, .ireturn, 28, 0)])])
theorem ok_X3_firstHeard : ev_ok mi_X3_firstHeard := ev_ok_of (by decide +kernel)
theorem pf_X3_firstHeard : plainName mi_X3_firstHeard.1.cls = true ∨ plainFor mi_X3_firstHeard.1 = true := Or.inl pn_X3
def mi_X3_walk : MI := (yX3_walk, prog_5_method_8_code, 5, none, 3, 69, 3, [(25, [(0, .aload_n 0, 1, 0), (1, .iconst 0, 2, 0), (2, .putfield 34, 5, 0), (5, .aload_n 0, 6, 0), (6, .bipush (-4), 8, 0), (8, .putfield 37, 11, 0), (11, .aload_n 0, 12, 0), (12, .bipush (-4), 14, 0), (14, .putfield 40, 17, 0), (17, .aload_n 0, 18, 0), (18, .iconst 0, 19, 0), (19, .putfield 43, 22, 0), (22, .iconst 0, 23, 0), (23, .istore_n 3, 24, 0), (24, .iconst 0, 25, 0), (25, .istore 4, 27, 0)]), (57, [(27, .iload 4, 29, 0), (29, .sipush 999, 32, 0), (32, .if_icmp .gt 84, 35, 116), (35, .aload_n 0, 36, 0), (36, .iload_n 1, 37, 0), (37, .iload 4, 39, 0), (39, .invokevirtual 58, 42, 0), (42, .aload_n 0, 43, 0), (43, .iload_n 2, 44, 0), (44, .iload 4, 46, 0), (46, .invokevirtual 58, 49, 0), (49, .if_icmp .eq 8, 52, 57), (52, .iconst 0, 53, 0), (53, .istore_n 3, 54, 0), (54, .goto 56, 57, 110), (57, .aload_n 0, 58, 0)]), (89, [(58, .dup, 59, 0), (59, .getfield 34, 62, 0), (62, .iconst 1, 63, 0), (63, .iadd, 64, 0), (64, .putfield 34, 67, 0), (67, .iinc 3 1, 70, 0), (70, .aload_n 0, 71, 0), (71, .aload_n 0, 72, 0), (72, .getfield 37, 75, 0), (75, .bipush (-4), 77, 0), (77, .if_icmp .ne 8, 80, 85), (80, .iload 4, 82, 0), (82, .goto 7, 85, 89), (85, .aload_n 0, 86, 0), (86, .getfield 37, 89, 0), (89, .putfield 37, 92, 0)]), (116, [(92, .aload_n 0, 93, 0), (93, .iload 4, 95, 0), (95, .putfield 40, 98, 0), (98, .aload_n 0, 99, 0), (99, .aload_n 0, 100, 0), (100, .getfield 43, 103, 0), (103, .iload_n 3, 104, 0), (104, .invokestatic 52, 107, 0), (107, .putfield 43, 110, 0), (110, .iinc 4 1, 113, 0), (113, .goto (-86), 116, 27), (116, .return_, 117, 0)])])
theorem ok_X3_walk : ev_ok mi_X3_walk := ev_ok_of (by decide +kernel)
theorem pf_X3_walk : plainName mi_X3_walk.1.cls = true ∨ plainFor mi_X3_walk.1 = true := Or.inl pn_X3
def mi_X4_init : MI := (yX4_init, prog_6_method_1_code, 1, none, 1, 12, 4, [(28, [(0, .aload_n 0, 1, 0), (1, .invokespecial 3, 4, 0), (4, .aload_n 0, 5, 0), (5, .aconst_null, 6, 0), (6, .putfield 9, 9, 0), (9, .aload_n 0, 10, 0), (10, .sipush 201, 13, 0), (13, .newarray .int, 15, 0), (15, .putfield 15, 18, 0), (18, .aload_n 0, 19, 0), (19, .bipush 24, 21, 0), (21, .newarray .int, 23, 0), (23, .putfield 18, 26, 0), (26, .aload_n 0, 27, 0), (27, .iconst 0, 28, 0), (28, .putfield 21, 31, 0)]), (58, [(31, .aload_n 0, 32, 0), (32, .iconst 0, 33, 0), (33, .putfield 25, 36, 0), (36, .aload_n 0, 37, 0), (37, .bipush 32, 39, 0), (39, .newarray .int, 41, 0), (41, .putfield 28, 44, 0), (44, .aload_n 0, 45, 0), (45, .bipush 32, 47, 0), (47, .newarray .int, 49, 0), (49, .putfield 31, 52, 0), (52, .aload_n 0, 53, 0), (53, .iconst 0, 54, 0), (54, .putfield 34, 57, 0), (57, .aload_n 0, 58, 0), (58, .iconst 0, 59, 0)]), (88, [(59, .putfield 37, 62, 0), (62, .aload_n 0, 63, 0), (63, .bipush 24, 65, 0), (65, .newarray .int, 67, 0), (67, .putfield 40, 70, 0), (70, .aload_n 0, 71, 0), (71, .bipush 24, 73, 0), (73, .newarray .int, 75, 0), (75, .putfield 43, 78, 0), (78, .aload_n 0, 79, 0), (79, .iconst 0, 80, 0), (80, .putfield 46, 83, 0), (83, .aload_n 0, 84, 0), (84, .iconst 0, 85, 0), (85, .putfield 49, 88, 0), (88, .aload_n 0, 89, 0)]), (105, [(89, .iconst 0, 90, 0), (90, .putfield 52, 93, 0), (93, .aload_n 0, 94, 0), (94, .iconst 5, 95, 0), (95, .newarray .int, 97, 0), (97, .putfield 55, 100, 0), (100, .aload_n 0, 101, 0), (101, .iconst 0, 102, 0), (102, .putfield 58, 105, 0), (105, .return_, 106, 0)])])
theorem ok_X4_init : ev_ok mi_X4_init := ev_ok_of (by decide +kernel)
theorem pn_X4 : plainName RX4 = true := by decide +kernel
theorem pf_X4_init : plainName mi_X4_init.1.cls = true ∨ plainFor mi_X4_init.1 = true := Or.inl pn_X4
def mi_X4_isFor : MI := (yX4_isFor, prog_6_method_2_code, 6, (some .boolean), 0, 0, 4, [(27, [(0, .aload_n 0, 1, 0), (1, .getfield 58, 4, 0), (4, .ifCond .eq 59, 7, 63), (7, .aload_n 0, 8, 0), (8, .getfield 55, 11, 0), (11, .iconst 0, 12, 0), (12, .iaload, 13, 0), (13, .iload_n 1, 14, 0), (14, .if_icmp .ne 49, 17, 63), (17, .aload_n 0, 18, 0), (18, .getfield 55, 21, 0), (21, .iconst 1, 22, 0), (22, .iaload, 23, 0), (23, .iload_n 2, 24, 0), (24, .if_icmp .ne 39, 27, 63), (27, .aload_n 0, 28, 0)]), (54, [(28, .getfield 55, 31, 0), (31, .iconst 2, 32, 0), (32, .iaload, 33, 0), (33, .iload_n 3, 34, 0), (34, .if_icmp .ne 29, 37, 63), (37, .aload_n 0, 38, 0), (38, .getfield 55, 41, 0), (41, .iconst 3, 42, 0), (42, .iaload, 43, 0), (43, .iload 4, 45, 0), (45, .if_icmp .ne 18, 48, 63), (48, .aload_n 0, 49, 0), (49, .getfield 55, 52, 0), (52, .iconst 4, 53, 0), (53, .iaload, 54, 0), (54, .iload 5, 56, 0)]), (64, [(56, .if_icmp .ne 7, 59, 63), (59, .iconst 1, 60, 0), (60, .goto 4, 63, 64), (63, .iconst 0, 64, 0), (64, .ireturn, 65, 0)])])
theorem ok_X4_isFor : ev_ok mi_X4_isFor := ev_ok_of (by decide +kernel)
theorem pf_X4_isFor : plainName mi_X4_isFor.1.cls = true ∨ plainFor mi_X4_isFor.1 = true := Or.inl pn_X4
def mi_X4_remember : MI := (yX4_remember, prog_6_method_3_code, 6, none, 0, 0, 4, [(21, [(0, .aload_n 0, 1, 0), (1, .getfield 55, 4, 0), (4, .iconst 0, 5, 0), (5, .iload_n 1, 6, 0), (6, .iastore, 7, 0), (7, .aload_n 0, 8, 0), (8, .getfield 55, 11, 0), (11, .iconst 1, 12, 0), (12, .iload_n 2, 13, 0), (13, .iastore, 14, 0), (14, .aload_n 0, 15, 0), (15, .getfield 55, 18, 0), (18, .iconst 2, 19, 0), (19, .iload_n 3, 20, 0), (20, .iastore, 21, 0), (21, .aload_n 0, 22, 0)]), (42, [(22, .getfield 55, 25, 0), (25, .iconst 3, 26, 0), (26, .iload 4, 28, 0), (28, .iastore, 29, 0), (29, .aload_n 0, 30, 0), (30, .getfield 55, 33, 0), (33, .iconst 4, 34, 0), (34, .iload 5, 36, 0), (36, .iastore, 37, 0), (37, .aload_n 0, 38, 0), (38, .iconst 1, 39, 0), (39, .putfield 58, 42, 0), (42, .return_, 43, 0)])])
theorem ok_X4_remember : ev_ok mi_X4_remember := ev_ok_of (by decide +kernel)
theorem pf_X4_remember : plainName mi_X4_remember.1.cls = true ∨ plainFor mi_X4_remember.1 = true := Or.inl pn_X4
def mi_X4_takeTune : MI := (yX4_takeTune, prog_6_method_4_code, 5, none, 1, 24, 4, [(28, [(0, .aload_n 0, 1, 0), (1, .aload_n 1, 2, 0), (2, .getfield 62, 5, 0), (5, .iload_n 2, 6, 0), (6, .iaload, 7, 0), (7, .putfield 21, 10, 0), (10, .iconst 0, 11, 0), (11, .istore 4, 13, 0), (13, .iload 4, 15, 0), (15, .aload_n 0, 16, 0), (16, .getfield 21, 19, 0), (19, .if_icmp .ge 24, 22, 43), (22, .aload_n 0, 23, 0), (23, .getfield 18, 26, 0), (26, .iload 4, 28, 0), (28, .aload_n 1, 29, 0)]), (43, [(29, .iload_n 2, 30, 0), (30, .iload 4, 32, 0), (32, .iload_n 3, 33, 0), (33, .invokevirtual 66, 36, 0), (36, .iastore, 37, 0), (37, .iinc 4 1, 40, 0), (40, .goto (-27), 43, 13), (43, .return_, 44, 0)])])
theorem ok_X4_takeTune : ev_ok mi_X4_takeTune := ev_ok_of (by decide +kernel)
theorem pf_X4_takeTune : plainName mi_X4_takeTune.1.cls = true ∨ plainFor mi_X4_takeTune.1 = true := Or.inl pn_X4
def mi_X4_answer : MI := (yX4_answer, prog_6_method_5_code, 2, (some .int), 0, 0, 4, [(25, [(0, .iload_n 1, 1, 0), (1, .ifCond .ne 8, 4, 9), (4, .aload_n 0, 5, 0), (5, .getfield 46, 8, 0), (8, .ireturn, 9, 0), (9, .iload_n 1, 10, 0), (10, .iconst 1, 11, 0), (11, .if_icmp .ne 8, 14, 19), (14, .aload_n 0, 15, 0), (15, .getfield 49, 18, 0), (18, .ireturn, 19, 0), (19, .iload_n 1, 20, 0), (20, .iconst 2, 21, 0), (21, .if_icmp .ne 8, 24, 29), (24, .aload_n 0, 25, 0), (25, .getfield 52, 28, 0)]), (54, [(28, .ireturn, 29, 0), (29, .iload_n 1, 30, 0), (30, .bipush 40, 32, 0), (32, .if_icmp .ge 15, 35, 47), (35, .aload_n 0, 36, 0), (36, .getfield 40, 39, 0), (39, .iload_n 1, 40, 0), (40, .bipush 10, 42, 0), (42, .isub, 43, 0), (43, .iaload, 44, 0), (44, .goto 12, 47, 56), (47, .aload_n 0, 48, 0), (48, .getfield 43, 51, 0), (51, .iload_n 1, 52, 0), (52, .bipush 40, 54, 0), (54, .isub, 55, 0)]), (56, [(55, .iaload, 56, 0), (56, .ireturn, 57, 0)])])
theorem ok_X4_answer : ev_ok mi_X4_answer := ev_ok_of (by decide +kernel)
theorem pf_X4_answer : plainName mi_X4_answer.1.cls = true ∨ plainFor mi_X4_answer.1 = true := Or.inl pn_X4
def mi_X4_solve : MI := (yX4_solve, prog_6_method_6_code, 6, none, 5, 123, 4, [(26, [(0, .aload_n 0, 1, 0), (1, .getfield 9, 4, 0), (4, .ifnonnull 11, 7, 15), (7, .aload_n 0, 8, 0), (8, .ldc 70, 10, 0), (10, .newarray .int, 12, 0), (12, .putfield 9, 15, 0), (15, .aload_n 0, 16, 0), (16, .iload 4, 18, 0), (18, .iconst 1, 19, 0), (19, .iadd, 20, 0), (20, .putfield 25, 23, 0), (23, .aload_n 0, 24, 0), (24, .aload_n 2, 25, 0), (25, .iconst 0, 26, 0), (26, .aload_n 2, 27, 0)]), (58, [(27, .getfield 71, 30, 0), (30, .invokevirtual 76, 33, 0), (33, .putfield 37, 36, 0), (36, .aload_n 0, 37, 0), (37, .aload_n 2, 38, 0), (38, .iload_n 3, 39, 0), (39, .invokevirtual 80, 42, 0), (42, .aload_n 0, 43, 0), (43, .getfield 9, 46, 0), (46, .aload_n 0, 47, 0), (47, .getfield 21, 50, 0), (50, .iconst 0, 51, 0), (51, .invokestatic 84, 54, 0), (54, .aload_n 0, 55, 0), (55, .getfield 21, 58, 0), (58, .iconst 1, 59, 0)]), (84, [(59, .iadd, 60, 0), (60, .iconst 0, 61, 0), (61, .invokestatic 84, 64, 0), (64, .iconst 0, 65, 0), (65, .invokestatic 87, 68, 0), (68, .aload_n 0, 69, 0), (69, .getfield 21, 72, 0), (72, .iconst 1, 73, 0), (73, .isub, 74, 0), (74, .istore 5, 76, 0), (76, .iload 5, 78, 0), (78, .ifCond .lt 35, 81, 113), (81, .aload_n 0, 82, 0), (82, .aload_n 2, 83, 0), (83, .aload_n 0, 84, 0), (84, .getfield 18, 87, 0)]), (115, [(87, .iload 5, 89, 0), (89, .iaload, 90, 0), (90, .invokevirtual 93, 93, 0), (93, .aload_n 0, 94, 0), (94, .aload_n 1, 95, 0), (95, .iload 5, 97, 0), (97, .invokevirtual 96, 100, 0), (100, .aload_n 0, 101, 0), (101, .aload_n 1, 102, 0), (102, .iload 5, 104, 0), (104, .invokevirtual 100, 107, 0), (107, .iinc 5 (-1), 110, 0), (110, .goto (-34), 113, 76), (113, .aload_n 0, 114, 0), (114, .aload_n 1, 115, 0), (115, .aload_n 2, 116, 0)]), (121, [(116, .iload 4, 118, 0), (118, .invokevirtual 103, 121, 0), (121, .return_, 122, 0)])])
theorem ok_X4_solve : ev_ok mi_X4_solve := ev_ok_of (by decide +kernel)
theorem pf_X4_solve : plainName mi_X4_solve.1.cls = true ∨ plainFor mi_X4_solve.1 = true := Or.inl pn_X4
def mi_X4_cell : MI := (yX4_cell, prog_6_method_7_code, 2, (some .int), 0, 0, 4, [(10, [(0, .iload_n 0, 1, 0), (1, .sipush 201, 4, 0), (4, .imul, 5, 0), (5, .iload_n 1, 6, 0), (6, .iadd, 7, 0), (7, .bipush 9, 9, 0), (9, .imul, 10, 0), (10, .ireturn, 11, 0)])])
theorem ok_X4_cell : ev_ok mi_X4_cell := ev_ok_of (by decide +kernel)
theorem pf_X4_cell : plainName mi_X4_cell.1.cls = true ∨ plainFor mi_X4_cell.1 = true := Or.inl pn_X4
def mi_X4_markNear : MI := (yX4_markNear, prog_6_method_8_code, 5, none, 4, 89, 4, [(25, [(0, .iconst 0, 1, 0), (1, .istore_n 3, 2, 0), (2, .iload_n 3, 3, 0), (3, .sipush 201, 6, 0), (6, .if_icmp .ge 62, 9, 68), (9, .aload_n 0, 10, 0), (10, .getfield 15, 13, 0), (13, .iload_n 3, 14, 0), (14, .iconst 0, 15, 0), (15, .iastore, 16, 0), (16, .iconst 0, 17, 0), (17, .istore 4, 19, 0), (19, .iload 4, 21, 0), (21, .aload_n 1, 22, 0), (22, .getfield 107, 25, 0), (25, .if_icmp .ge 37, 28, 62)]), (53, [(28, .aload_n 0, 29, 0), (29, .getfield 15, 32, 0), (32, .iload_n 3, 33, 0), (33, .dup2, 34, 0), (34, .iaload, 35, 0), (35, .aload_n 1, 36, 0), (36, .iload 4, 38, 0), (38, .iload_n 3, 39, 0), (39, .iload_n 2, 40, 0), (40, .invokevirtual 110, 43, 0), (43, .ifCond .eq 10, 46, 53), (46, .iconst 1, 47, 0), (47, .iload 4, 49, 0), (49, .ishl, 50, 0), (50, .goto 4, 53, 54), (53, .iconst 0, 54, 0)]), (68, [(54, .ior, 55, 0), (55, .iastore, 56, 0), (56, .iinc 4 1, 59, 0), (59, .goto (-40), 62, 19), (62, .iinc 3 1, 65, 0), (65, .goto (-63), 68, 2), (68, .return_, 69, 0)])])
theorem ok_X4_markNear : ev_ok mi_X4_markNear := ev_ok_of (by decide +kernel)
theorem pf_X4_markNear : plainName mi_X4_markNear.1.cls = true ∨ plainFor mi_X4_markNear.1 = true := Or.inl pn_X4
def mi_X4_listOptions : MI := (yX4_listOptions, prog_6_method_9_code, 5, none, 1, 24, 4, [(28, [(0, .aload_n 0, 1, 0), (1, .iconst 0, 2, 0), (2, .putfield 34, 5, 0), (5, .iload_n 2, 6, 0), (6, .istore_n 3, 7, 0), (7, .iconst 0, 8, 0), (8, .istore 4, 10, 0), (10, .aload_n 0, 11, 0), (11, .getfield 34, 14, 0), (14, .bipush 32, 16, 0), (16, .if_icmp .ge 66, 19, 82), (19, .iload 4, 21, 0), (21, .ifCond .ne 61, 24, 82), (24, .aload_n 0, 25, 0), (25, .getfield 28, 28, 0), (28, .aload_n 0, 29, 0)]), (54, [(29, .getfield 34, 32, 0), (32, .iload_n 3, 33, 0), (33, .iastore, 34, 0), (34, .aload_n 0, 35, 0), (35, .getfield 31, 38, 0), (38, .aload_n 0, 39, 0), (39, .getfield 34, 42, 0), (42, .aload_n 1, 43, 0), (43, .iload_n 3, 44, 0), (44, .aload_n 1, 45, 0), (45, .getfield 71, 48, 0), (48, .invokevirtual 76, 51, 0), (51, .iastore, 52, 0), (52, .aload_n 0, 53, 0), (53, .dup, 54, 0), (54, .getfield 34, 57, 0)]), (79, [(57, .iconst 1, 58, 0), (58, .iadd, 59, 0), (59, .putfield 34, 62, 0), (62, .iload_n 3, 63, 0), (63, .ifCond .ne 7, 66, 70), (66, .iconst 1, 67, 0), (67, .goto 4, 70, 71), (70, .iconst 0, 71, 0), (71, .istore 4, 73, 0), (73, .iload_n 3, 74, 0), (74, .iconst 1, 75, 0), (75, .isub, 76, 0), (76, .iload_n 2, 77, 0), (77, .iand, 78, 0), (78, .istore_n 3, 79, 0), (79, .goto (-69), 82, 10)]), (82, [(82, .return_, 83, 0)])])
theorem ok_X4_listOptions : ev_ok mi_X4_listOptions := ev_ok_of (by decide +kernel)
theorem pf_X4_listOptions : plainName mi_X4_listOptions.1.cls = true ∨ plainFor mi_X4_listOptions.1 = true := Or.inl pn_X4
def mi_X4_isOpen : MI := (yX4_isOpen, prog_6_method_10_code, 3, (some .boolean), 0, 0, 4, [(23, [(0, .aload_n 0, 1, 0), (1, .getfield 28, 4, 0), (4, .iload_n 1, 5, 0), (5, .iaload, 6, 0), (6, .aload_n 0, 7, 0), (7, .getfield 15, 10, 0), (10, .iload_n 2, 11, 0), (11, .iaload, 12, 0), (12, .iconst (-1), 13, 0), (13, .ixor, 14, 0), (14, .iand, 15, 0), (15, .ifCond .ne 7, 18, 22), (18, .iconst 1, 19, 0), (19, .goto 4, 22, 23), (22, .iconst 0, 23, 0), (23, .ireturn, 24, 0)])])
theorem ok_X4_isOpen : ev_ok mi_X4_isOpen := ev_ok_of (by decide +kernel)
theorem pf_X4_isOpen : plainName mi_X4_isOpen.1.cls = true ∨ plainFor mi_X4_isOpen.1 = true := Or.inl pn_X4
def mi_X4_fillSounding : MI := (yX4_fillSounding, prog_6_method_11_code, 7, none, 2, 43, 4, [(26, [(0, .iconst 0, 1, 0), (1, .istore_n 3, 2, 0), (2, .iload_n 3, 3, 0), (3, .aload_n 1, 4, 0), (4, .getfield 114, 7, 0), (7, .if_icmp .gt 114, 10, 121), (10, .iload_n 2, 11, 0), (11, .iload_n 3, 12, 0), (12, .invokestatic 84, 15, 0), (15, .istore 4, 17, 0), (17, .iconst 0, 18, 0), (18, .istore 5, 20, 0), (20, .iload 5, 22, 0), (22, .aload_n 0, 23, 0), (23, .getfield 25, 26, 0), (26, .if_icmp .ge 20, 29, 46)]), (58, [(29, .aload_n 0, 30, 0), (30, .getfield 9, 33, 0), (33, .iload 4, 35, 0), (35, .iload 5, 37, 0), (37, .iadd, 38, 0), (38, .iconst 0, 39, 0), (39, .iastore, 40, 0), (40, .iinc 5 1, 43, 0), (43, .goto (-23), 46, 20), (46, .iconst 0, 47, 0), (47, .istore 5, 49, 0), (49, .iload 5, 51, 0), (51, .aload_n 0, 52, 0), (52, .getfield 34, 55, 0), (55, .if_icmp .ge 60, 58, 115), (58, .aload_n 0, 59, 0)]), (87, [(59, .iload 5, 61, 0), (61, .iload_n 3, 62, 0), (62, .invokevirtual 119, 65, 0), (65, .ifCond .eq 44, 68, 109), (68, .bipush 9, 70, 0), (70, .aload_n 0, 71, 0), (71, .getfield 28, 74, 0), (74, .iload 5, 76, 0), (76, .iaload, 77, 0), (77, .invokestatic 123, 80, 0), (80, .imul, 81, 0), (81, .istore 6, 83, 0), (83, .aload_n 0, 84, 0), (84, .iload 4, 86, 0), (86, .iload_n 2, 87, 0), (87, .iconst 1, 88, 0)]), (121, [(88, .iadd, 89, 0), (89, .aload_n 1, 90, 0), (90, .iload_n 3, 91, 0), (91, .aload_n 0, 92, 0), (92, .getfield 31, 95, 0), (95, .iload 5, 97, 0), (97, .iaload, 98, 0), (98, .invokevirtual 129, 101, 0), (101, .invokestatic 84, 104, 0), (104, .iload 6, 106, 0), (106, .invokevirtual 132, 109, 0), (109, .iinc 5 1, 112, 0), (112, .goto (-63), 115, 49), (115, .iinc 3 1, 118, 0), (118, .goto (-116), 121, 2), (121, .return_, 122, 0)])])
theorem ok_X4_fillSounding : ev_ok mi_X4_fillSounding := ev_ok_of (by decide +kernel)
theorem pf_X4_fillSounding : plainName mi_X4_fillSounding.1.cls = true ∨ plainFor mi_X4_fillSounding.1 = true := Or.inl pn_X4
def mi_X4_raise : MI := (yX4_raise, prog_6_method_12_code, 6, none, 0, 0, 4, [(25, [(0, .iconst 0, 1, 0), (1, .istore 4, 3, 0), (3, .iload 4, 5, 0), (5, .aload_n 0, 6, 0), (6, .getfield 25, 9, 0), (9, .if_icmp .ge 47, 12, 56), (12, .iload_n 3, 13, 0), (13, .aload_n 0, 14, 0), (14, .getfield 9, 17, 0), (17, .iload_n 2, 18, 0), (18, .iload 4, 20, 0), (20, .iadd, 21, 0), (21, .iaload, 22, 0), (22, .iadd, 23, 0), (23, .istore 5, 25, 0), (25, .iload 5, 27, 0)]), (53, [(27, .aload_n 0, 28, 0), (28, .getfield 9, 31, 0), (31, .iload_n 1, 32, 0), (32, .iload 4, 34, 0), (34, .iadd, 35, 0), (35, .iaload, 36, 0), (36, .if_icmp .le 14, 39, 50), (39, .aload_n 0, 40, 0), (40, .getfield 9, 43, 0), (43, .iload_n 1, 44, 0), (44, .iload 4, 46, 0), (46, .iadd, 47, 0), (47, .iload 5, 49, 0), (49, .iastore, 50, 0), (50, .iinc 4 1, 53, 0), (53, .goto (-50), 56, 3)]), (56, [(56, .return_, 57, 0)])])
theorem ok_X4_raise : ev_ok mi_X4_raise := ev_ok_of (by decide +kernel)
theorem pf_X4_raise : plainName mi_X4_raise.1.cls = true ∨ plainFor mi_X4_raise.1 = true := Or.inl pn_X4
def mi_X4_fillResting : MI := (yX4_fillResting, prog_6_method_13_code, 7, none, 2, 43, 4, [(27, [(0, .iconst 1, 1, 0), (1, .istore_n 3, 2, 0), (2, .iload_n 3, 3, 0), (3, .aload_n 0, 4, 0), (4, .getfield 25, 7, 0), (7, .if_icmp .ge 83, 10, 90), (10, .iconst 0, 11, 0), (11, .istore 4, 13, 0), (13, .iload 4, 15, 0), (15, .aload_n 1, 16, 0), (16, .getfield 114, 19, 0), (19, .if_icmp .gt 65, 22, 84), (22, .aload_n 0, 23, 0), (23, .getfield 9, 26, 0), (26, .iload_n 2, 27, 0), (27, .aload_n 1, 28, 0)]), (52, [(28, .iload 4, 30, 0), (30, .aload_n 0, 31, 0), (31, .getfield 37, 34, 0), (34, .invokevirtual 129, 37, 0), (37, .invokestatic 84, 40, 0), (40, .iload_n 3, 41, 0), (41, .iadd, 42, 0), (42, .iconst 1, 43, 0), (43, .isub, 44, 0), (44, .iaload, 45, 0), (45, .iconst 1, 46, 0), (46, .isub, 47, 0), (47, .istore 5, 49, 0), (49, .iload_n 2, 50, 0), (50, .iload 4, 52, 0), (52, .invokestatic 84, 55, 0)]), (84, [(55, .iload_n 3, 56, 0), (56, .iadd, 57, 0), (57, .istore 6, 59, 0), (59, .aload_n 0, 60, 0), (60, .getfield 9, 63, 0), (63, .iload 6, 65, 0), (65, .aload_n 0, 66, 0), (66, .getfield 9, 69, 0), (69, .iload 6, 71, 0), (71, .iaload, 72, 0), (72, .iload 5, 74, 0), (74, .invokestatic 136, 77, 0), (77, .iastore, 78, 0), (78, .iinc 4 1, 81, 0), (81, .goto (-68), 84, 13), (84, .iinc 3 1, 87, 0)]), (90, [(87, .goto (-85), 90, 2), (90, .return_, 91, 0)])])
theorem ok_X4_fillResting : ev_ok mi_X4_fillResting := ev_ok_of (by decide +kernel)
theorem pf_X4_fillResting : plainName mi_X4_fillResting.1.cls = true ∨ plainFor mi_X4_fillResting.1 = true := Or.inl pn_X4
def mi_X4_follow : MI := (yX4_follow, prog_6_method_14_code, 8, none, 4, 96, 4, [(27, [(0, .aload_n 1, 1, 0), (1, .getfield 141, 4, 0), (4, .istore 4, 6, 0), (6, .iload_n 3, 7, 0), (7, .istore 5, 9, 0), (9, .aload_n 0, 10, 0), (10, .iconst 0, 11, 0), (11, .putfield 46, 14, 0), (14, .iconst 0, 15, 0), (15, .istore 6, 17, 0), (17, .iload 6, 19, 0), (19, .aload_n 0, 20, 0), (20, .getfield 21, 23, 0), (23, .if_icmp .ge 168, 26, 191), (26, .aload_n 0, 27, 0), (27, .aload_n 2, 28, 0)]), (54, [(28, .aload_n 0, 29, 0), (29, .getfield 18, 32, 0), (32, .iload 6, 34, 0), (34, .iaload, 35, 0), (35, .invokevirtual 93, 38, 0), (38, .aload_n 0, 39, 0), (39, .getfield 43, 42, 0), (42, .iload 6, 44, 0), (44, .iconst 0, 45, 0), (45, .iastore, 46, 0), (46, .aload_n 0, 47, 0), (47, .aload_n 1, 48, 0), (48, .iload 6, 50, 0), (50, .iload 4, 52, 0), (52, .iload 5, 54, 0), (54, .invokevirtual 144, 57, 0)]), (88, [(57, .istore 7, 59, 0), (59, .iload 5, 61, 0), (61, .ifCond .le 76, 64, 137), (64, .aload_n 0, 65, 0), (65, .aload_n 1, 66, 0), (66, .iload 6, 68, 0), (68, .iload 4, 70, 0), (70, .iload 5, 72, 0), (72, .iload 7, 74, 0), (74, .invokevirtual 148, 77, 0), (77, .aload_n 0, 78, 0), (78, .getfield 9, 81, 0), (81, .iload 6, 83, 0), (83, .iload 4, 85, 0), (85, .invokestatic 84, 88, 0), (88, .iload 5, 90, 0)]), (118, [(90, .iadd, 91, 0), (91, .iaload, 92, 0), (92, .if_icmp .ge 45, 95, 137), (95, .aload_n 1, 96, 0), (96, .iload 4, 98, 0), (98, .aload_n 0, 99, 0), (99, .getfield 37, 102, 0), (102, .invokevirtual 129, 105, 0), (105, .istore 4, 107, 0), (107, .iinc 5 (-1), 110, 0), (110, .aload_n 0, 111, 0), (111, .getfield 43, 114, 0), (114, .iload 6, 116, 0), (116, .dup2, 117, 0), (117, .iaload, 118, 0), (118, .iconst 1, 119, 0)]), (147, [(119, .iadd, 120, 0), (120, .iastore, 121, 0), (121, .aload_n 0, 122, 0), (122, .aload_n 1, 123, 0), (123, .iload 6, 125, 0), (125, .iload 4, 127, 0), (127, .iload 5, 129, 0), (129, .invokevirtual 144, 132, 0), (132, .istore 7, 134, 0), (134, .goto (-75), 137, 59), (137, .aload_n 0, 138, 0), (138, .getfield 40, 141, 0), (141, .iload 6, 143, 0), (143, .aload_n 0, 144, 0), (144, .getfield 28, 147, 0), (147, .iload 7, 149, 0)]), (174, [(149, .iaload, 150, 0), (150, .iastore, 151, 0), (151, .aload_n 0, 152, 0), (152, .dup, 153, 0), (153, .getfield 46, 156, 0), (156, .aload_n 0, 157, 0), (157, .getfield 28, 160, 0), (160, .iload 7, 162, 0), (162, .iaload, 163, 0), (163, .invokestatic 123, 166, 0), (166, .iadd, 167, 0), (167, .putfield 46, 170, 0), (170, .aload_n 1, 171, 0), (171, .iload 4, 173, 0), (173, .aload_n 0, 174, 0), (174, .getfield 31, 177, 0)]), (205, [(177, .iload 7, 179, 0), (179, .iaload, 180, 0), (180, .invokevirtual 129, 183, 0), (183, .istore 4, 185, 0), (185, .iinc 6 1, 188, 0), (188, .goto (-171), 191, 17), (191, .aload_n 0, 192, 0), (192, .iload_n 3, 193, 0), (193, .iload 5, 195, 0), (195, .isub, 196, 0), (196, .putfield 49, 199, 0), (199, .aload_n 0, 200, 0), (200, .iload 4, 202, 0), (202, .putfield 52, 205, 0), (205, .return_, 206, 0)])])
theorem ok_X4_follow : ev_ok mi_X4_follow := ev_ok_of (by decide +kernel)
theorem pf_X4_follow : plainName mi_X4_follow.1.cls = true ∨ plainFor mi_X4_follow.1 = true := Or.inl pn_X4
def mi_X4_bestOption : MI := (yX4_bestOption, prog_6_method_15_code, 9, (some .int), 3, 68, 4, [(26, [(0, .aload_n 0, 1, 0), (1, .getfield 34, 4, 0), (4, .iconst 1, 5, 0), (5, .isub, 6, 0), (6, .istore 5, 8, 0), (8, .iconst (-1), 9, 0), (9, .istore 6, 11, 0), (11, .iconst 0, 12, 0), (12, .istore 7, 14, 0), (14, .iload 7, 16, 0), (16, .aload_n 0, 17, 0), (17, .getfield 34, 20, 0), (20, .if_icmp .ge 47, 23, 67), (23, .aload_n 0, 24, 0), (24, .iload 7, 26, 0), (26, .iload_n 3, 27, 0)]), (57, [(27, .invokevirtual 119, 30, 0), (30, .ifCond .eq 31, 33, 61), (33, .aload_n 0, 34, 0), (34, .aload_n 1, 35, 0), (35, .iload_n 2, 36, 0), (36, .iload_n 3, 37, 0), (37, .iload 4, 39, 0), (39, .iload 7, 41, 0), (41, .invokevirtual 148, 44, 0), (44, .istore 8, 46, 0), (46, .iload 8, 48, 0), (48, .iload 6, 50, 0), (50, .if_icmp .le 11, 53, 61), (53, .iload 8, 55, 0), (55, .istore 6, 57, 0), (57, .iload 7, 59, 0)]), (69, [(59, .istore 5, 61, 0), (61, .iinc 7 1, 64, 0), (64, .goto (-50), 67, 14), (67, .iload 5, 69, 0), (69, .ireturn, 70, 0)])])
theorem ok_X4_bestOption : ev_ok mi_X4_bestOption := ev_ok_of (by decide +kernel)
theorem pf_X4_bestOption : plainName mi_X4_bestOption.1.cls = true ∨ plainFor mi_X4_bestOption.1 = true := Or.inl pn_X4
def mi_X4_worthOf : MI := (yX4_worthOf, prog_6_method_16_code, 6, (some .int), 2, 43, 4, [(23, [(0, .bipush 9, 2, 0), (2, .aload_n 0, 3, 0), (3, .getfield 28, 6, 0), (6, .iload 5, 8, 0), (8, .iaload, 9, 0), (9, .invokestatic 123, 12, 0), (12, .imul, 13, 0), (13, .aload_n 0, 14, 0), (14, .getfield 9, 17, 0), (17, .iload_n 2, 18, 0), (18, .iconst 1, 19, 0), (19, .iadd, 20, 0), (20, .aload_n 1, 21, 0), (21, .iload_n 3, 22, 0), (22, .aload_n 0, 23, 0), (23, .getfield 31, 26, 0)]), (40, [(26, .iload 5, 28, 0), (28, .iaload, 29, 0), (29, .invokevirtual 129, 32, 0), (32, .invokestatic 84, 35, 0), (35, .iload 4, 37, 0), (37, .iadd, 38, 0), (38, .iaload, 39, 0), (39, .iadd, 40, 0), (40, .ireturn, 41, 0)])])
theorem ok_X4_worthOf : ev_ok mi_X4_worthOf := ev_ok_of (by decide +kernel)
theorem pf_X4_worthOf : plainName mi_X4_worthOf.1.cls = true ∨ plainFor mi_X4_worthOf.1 = true := Or.inl pn_X4
def mi_X5_init : MI := (yX5_init, prog_7_method_1_code, 1, none, 1, 12, 5, [(27, [(0, .aload_n 0, 1, 0), (1, .invokespecial 1, 4, 0), (4, .aload_n 0, 5, 0), (5, .iconst 4, 6, 0), (6, .bipush 60, 8, 0), (8, .multianewarray 9 2, 12, 0), (12, .putfield 11, 15, 0), (15, .aload_n 0, 16, 0), (16, .iconst 4, 17, 0), (17, .newarray .int, 19, 0), (19, .putfield 14, 22, 0), (22, .aload_n 0, 23, 0), (23, .iconst 4, 24, 0), (24, .newarray .int, 26, 0), (26, .dup, 27, 0), (27, .iconst 0, 28, 0)]), (45, [(28, .iconst (-1), 29, 0), (29, .iastore, 30, 0), (30, .dup, 31, 0), (31, .iconst 1, 32, 0), (32, .iconst (-1), 33, 0), (33, .iastore, 34, 0), (34, .dup, 35, 0), (35, .iconst 2, 36, 0), (36, .iconst (-1), 37, 0), (37, .iastore, 38, 0), (38, .dup, 39, 0), (39, .iconst 3, 40, 0), (40, .iconst (-1), 41, 0), (41, .iastore, 42, 0), (42, .putfield 18, 45, 0), (45, .return_, 46, 0)])])
theorem ok_X5_init : ev_ok mi_X5_init := ev_ok_of (by decide +kernel)
theorem pn_X5 : plainName RX5 = true := by decide +kernel
theorem pf_X5_init : plainName mi_X5_init.1.cls = true ∨ plainFor mi_X5_init.1 = true := Or.inl pn_X5
def mi_X5_has : MI := (yX5_has, prog_7_method_2_code, 2, (some .boolean), 0, 0, 5, [(15, [(0, .iconst 0, 1, 0), (1, .iload_n 1, 2, 0), (2, .if_icmp .gt 12, 5, 14), (5, .iload_n 1, 6, 0), (6, .iconst 4, 7, 0), (7, .if_icmp .ge 7, 10, 14), (10, .iconst 1, 11, 0), (11, .goto 4, 14, 15), (14, .iconst 0, 15, 0), (15, .ireturn, 16, 0)])])
theorem ok_X5_has : ev_ok mi_X5_has := ev_ok_of (by decide +kernel)
theorem pf_X5_has : plainName mi_X5_has.1.cls = true ∨ plainFor mi_X5_has.1 = true := Or.inl pn_X5
def mi_X5_isLane : MI := (yX5_isLane, prog_7_method_3_code, 2, (some .boolean), 0, 0, 5, [(15, [(0, .iconst 0, 1, 0), (1, .iload_n 1, 2, 0), (2, .if_icmp .gt 12, 5, 14), (5, .iload_n 1, 6, 0), (6, .iconst 2, 7, 0), (7, .if_icmp .gt 7, 10, 14), (10, .iconst 1, 11, 0), (11, .goto 4, 14, 15), (14, .iconst 0, 15, 0), (15, .ireturn, 16, 0)])])
theorem ok_X5_isLane : ev_ok mi_X5_isLane := ev_ok_of (by decide +kernel)
theorem pf_X5_isLane : plainName mi_X5_isLane.1.cls = true ∨ plainFor mi_X5_isLane.1 = true := Or.inl pn_X5
def mi_X5_isNothing : MI := (yX5_isNothing, prog_7_method_4_code, 2, (some .boolean), 0, 0, 5, [(15, [(0, .aload_n 0, 1, 0), (1, .getfield 18, 4, 0), (4, .iload_n 1, 5, 0), (5, .iaload, 6, 0), (6, .iconst (-1), 7, 0), (7, .if_icmp .ne 7, 10, 14), (10, .iconst 1, 11, 0), (11, .goto 4, 14, 15), (14, .iconst 0, 15, 0), (15, .ireturn, 16, 0)])])
theorem ok_X5_isNothing : ev_ok mi_X5_isNothing := ev_ok_of (by decide +kernel)
theorem pf_X5_isNothing : plainName mi_X5_isNothing.1.cls = true ∨ plainFor mi_X5_isNothing.1 = true := Or.inl pn_X5
def mi_X5_hasCell : MI := (yX5_hasCell, prog_7_method_5_code, 3, (some .boolean), 0, 0, 5, [(20, [(0, .iconst 0, 1, 0), (1, .iload_n 2, 2, 0), (2, .if_icmp .gt 17, 5, 19), (5, .iload_n 2, 6, 0), (6, .aload_n 0, 7, 0), (7, .getfield 18, 10, 0), (10, .iload_n 1, 11, 0), (11, .iaload, 12, 0), (12, .if_icmp .ge 7, 15, 19), (15, .iconst 1, 16, 0), (16, .goto 4, 19, 20), (19, .iconst 0, 20, 0), (20, .ireturn, 21, 0)])])
theorem ok_X5_hasCell : ev_ok mi_X5_hasCell := ev_ok_of (by decide +kernel)
theorem pf_X5_hasCell : plainName mi_X5_hasCell.1.cls = true ∨ plainFor mi_X5_hasCell.1 = true := Or.inl pn_X5
def mi_X5_faultAs : MI := (yX5_faultAs, prog_7_method_6_code, 3, (some .int), 1, 21, 5, [(25, [(0, .aload_n 0, 1, 0), (1, .iload_n 1, 2, 0), (2, .invokevirtual 21, 5, 0), (5, .ifCond .eq 5, 8, 10), (8, .iconst 1, 9, 0), (9, .ireturn, 10, 0), (10, .aload_n 0, 11, 0), (11, .getfield 14, 14, 0), (14, .iload_n 1, 15, 0), (15, .iaload, 16, 0), (16, .iload_n 2, 17, 0), (17, .if_icmp .ne 7, 20, 24), (20, .iconst 0, 21, 0), (21, .goto 4, 24, 25), (24, .iconst 3, 25, 0), (25, .ireturn, 26, 0)])])
theorem ok_X5_faultAs : ev_ok mi_X5_faultAs := ev_ok_of (by decide +kernel)
theorem pf_X5_faultAs : plainName mi_X5_faultAs.1.cls = true ∨ plainFor mi_X5_faultAs.1 = true := Or.inl pn_X5
def mi_X5_renew : MI := (yX5_renew, prog_7_method_7_code, 4, none, 1, 23, 5, [(23, [(0, .aload_n 0, 1, 0), (1, .getfield 11, 4, 0), (4, .iload_n 1, 5, 0), (5, .aaload, 6, 0), (6, .iconst 0, 7, 0), (7, .invokestatic 25, 10, 0), (10, .aload_n 0, 11, 0), (11, .getfield 14, 14, 0), (14, .iload_n 1, 15, 0), (15, .iload_n 2, 16, 0), (16, .iastore, 17, 0), (17, .aload_n 0, 18, 0), (18, .getfield 18, 21, 0), (21, .iload_n 1, 22, 0), (22, .iload_n 3, 23, 0), (23, .iastore, 24, 0)]), (24, [(24, .return_, 25, 0)])])
theorem ok_X5_renew : ev_ok mi_X5_renew := ev_ok_of (by decide +kernel)
theorem pf_X5_renew : plainName mi_X5_renew.1.cls = true ∨ plainFor mi_X5_renew.1 = true := Or.inl pn_X5
def mi_X5_put : MI := (yX5_put, prog_7_method_8_code, 4, none, 0, 0, 5, [(23, [(0, .aload_n 0, 1, 0), (1, .getfield 14, 4, 0), (4, .iload_n 1, 5, 0), (5, .iaload, 6, 0), (6, .ifCond .ne 16, 9, 22), (9, .aload_n 0, 10, 0), (10, .getfield 11, 13, 0), (13, .iload_n 1, 14, 0), (14, .aaload, 15, 0), (15, .iload_n 2, 16, 0), (16, .iload_n 3, 17, 0), (17, .i2b, 18, 0), (18, .iastore, 19, 0), (19, .goto 27, 22, 46), (22, .aload_n 0, 23, 0), (23, .getfield 11, 26, 0)]), (46, [(26, .iload_n 1, 27, 0), (27, .aaload, 28, 0), (28, .iload_n 2, 29, 0), (29, .aload_n 0, 30, 0), (30, .getfield 14, 33, 0), (33, .iload_n 1, 34, 0), (34, .iaload, 35, 0), (35, .iconst 1, 36, 0), (36, .if_icmp .ne 8, 39, 44), (39, .iload_n 3, 40, 0), (40, .i2s, 41, 0), (41, .goto 4, 44, 45), (44, .iload_n 3, 45, 0), (45, .iastore, 46, 0), (46, .return_, 47, 0)])])
theorem ok_X5_put : ev_ok mi_X5_put := ev_ok_of (by decide +kernel)
theorem pf_X5_put : plainName mi_X5_put.1.cls = true ∨ plainFor mi_X5_put.1 = true := Or.inl pn_X5
def mi_X6_init : MI := (yX6_init, prog_8_method_1_code, 1, none, 1, 12, 6, [(28, [(0, .aload_n 0, 1, 0), (1, .invokespecial 3, 4, 0), (4, .aload_n 0, 5, 0), (5, .bipush 24, 7, 0), (7, .newarray .int, 9, 0), (9, .putfield 9, 12, 0), (12, .aload_n 0, 13, 0), (13, .bipush 24, 15, 0), (15, .newarray .int, 17, 0), (17, .putfield 15, 20, 0), (20, .aload_n 0, 21, 0), (21, .iconst 0, 22, 0), (22, .putfield 18, 25, 0), (25, .aload_n 0, 26, 0), (26, .bipush 12, 28, 0), (28, .newarray .int, 30, 0)]), (56, [(30, .putfield 22, 33, 0), (33, .aload_n 0, 34, 0), (34, .iconst 0, 35, 0), (35, .putfield 25, 38, 0), (38, .aload_n 0, 39, 0), (39, .bipush 12, 41, 0), (41, .newarray .int, 43, 0), (43, .putfield 28, 46, 0), (46, .aload_n 0, 47, 0), (47, .iconst 0, 48, 0), (48, .putfield 31, 51, 0), (51, .aload_n 0, 52, 0), (52, .iconst (-1), 53, 0), (53, .putfield 34, 56, 0), (56, .return_, 57, 0)])])
theorem ok_X6_init : ev_ok mi_X6_init := ev_ok_of (by decide +kernel)
theorem pn_X6 : plainName RX6 = true := by decide +kernel
theorem pf_X6_init : plainName mi_X6_init.1.cls = true ∨ plainFor mi_X6_init.1 = true := Or.inl pn_X6
def mi_X6_forget : MI := (yX6_forget, prog_8_method_2_code, 1, none, 0, 0, 6, [(5, [(0, .aload_n 0, 1, 0), (1, .iconst 0, 2, 0), (2, .putfield 18, 5, 0), (5, .return_, 6, 0)])])
theorem ok_X6_forget : ev_ok mi_X6_forget := ev_ok_of (by decide +kernel)
theorem pf_X6_forget : plainName mi_X6_forget.1.cls = true ∨ plainFor mi_X6_forget.1 = true := Or.inl pn_X6
def mi_X6_addBeat : MI := (yX6_addBeat, prog_8_method_3_code, 3, none, 0, 0, 6, [(28, [(0, .aload_n 0, 1, 0), (1, .getfield 18, 4, 0), (4, .bipush 24, 6, 0), (6, .if_icmp .ge 33, 9, 39), (9, .aload_n 0, 10, 0), (10, .getfield 9, 13, 0), (13, .aload_n 0, 14, 0), (14, .getfield 18, 17, 0), (17, .iload_n 1, 18, 0), (18, .iastore, 19, 0), (19, .aload_n 0, 20, 0), (20, .getfield 15, 23, 0), (23, .aload_n 0, 24, 0), (24, .getfield 18, 27, 0), (27, .iload_n 2, 28, 0), (28, .iastore, 29, 0)]), (39, [(29, .aload_n 0, 30, 0), (30, .dup, 31, 0), (31, .getfield 18, 34, 0), (34, .iconst 1, 35, 0), (35, .iadd, 36, 0), (36, .putfield 18, 39, 0), (39, .return_, 40, 0)])])
theorem ok_X6_addBeat : ev_ok mi_X6_addBeat := ev_ok_of (by decide +kernel)
theorem pf_X6_addBeat : plainName mi_X6_addBeat.1.cls = true ∨ plainFor mi_X6_addBeat.1 = true := Or.inl pn_X6
def mi_X6_find : MI := (yX6_find, prog_8_method_4_code, 7, (some .boolean), 4, 97, 6, [(27, [(0, .iconst 0, 1, 0), (1, .istore 4, 3, 0), (3, .iconst (-1), 4, 0), (4, .istore 5, 6, 0), (6, .iload 5, 8, 0), (8, .aload_n 2, 9, 0), (9, .getfield 37, 12, 0), (12, .if_icmp .ge 83, 15, 95), (15, .aload_n 0, 16, 0), (16, .aload_n 1, 17, 0), (17, .aload_n 2, 18, 0), (18, .iload_n 3, 19, 0), (19, .iload 5, 21, 0), (21, .invokevirtual 42, 24, 0), (24, .ifCond .eq 65, 27, 89), (27, .aload_n 0, 28, 0)]), (59, [(28, .invokevirtual 46, 31, 0), (31, .iload 5, 33, 0), (33, .iconst (-1), 34, 0), (34, .if_icmp .ne 7, 37, 41), (37, .iconst 0, 38, 0), (38, .goto 4, 41, 42), (41, .iconst 1, 42, 0), (42, .iadd, 43, 0), (43, .istore 6, 45, 0), (45, .iload 4, 47, 0), (47, .ifCond .eq 12, 50, 59), (50, .iload 6, 52, 0), (52, .aload_n 0, 53, 0), (53, .getfield 31, 56, 0), (56, .if_icmp .ge 33, 59, 89), (59, .iconst 1, 60, 0)]), (89, [(60, .istore 4, 62, 0), (62, .aload_n 0, 63, 0), (63, .iload 6, 65, 0), (65, .putfield 31, 68, 0), (68, .aload_n 0, 69, 0), (69, .iload 5, 71, 0), (71, .putfield 34, 74, 0), (74, .aload_n 0, 75, 0), (75, .getfield 22, 78, 0), (78, .iconst 0, 79, 0), (79, .aload_n 0, 80, 0), (80, .getfield 28, 83, 0), (83, .iconst 0, 84, 0), (84, .bipush 12, 86, 0), (86, .invokestatic 50, 89, 0), (89, .iinc 5 1, 92, 0)]), (97, [(92, .goto (-86), 95, 6), (95, .iload 4, 97, 0), (97, .ireturn, 98, 0)])])
theorem ok_X6_find : ev_ok mi_X6_find := ev_ok_of (by decide +kernel)
theorem pf_X6_find : plainName mi_X6_find.1.cls = true ∨ plainFor mi_X6_find.1 = true := Or.inl pn_X6
def mi_X6_explains : MI := (yX6_explains, prog_8_method_5_code, 8, (some .boolean), 3, 70, 6, [(27, [(0, .aload_n 0, 1, 0), (1, .getfield 22, 4, 0), (4, .iconst 0, 5, 0), (5, .invokestatic 56, 8, 0), (8, .aload_n 0, 9, 0), (9, .iconst 0, 10, 0), (10, .putfield 25, 13, 0), (13, .iload 4, 15, 0), (15, .iconst (-1), 16, 0), (16, .if_icmp .ne 7, 19, 23), (19, .iconst 0, 20, 0), (20, .goto 7, 23, 27), (23, .iconst 1, 24, 0), (24, .iload 4, 26, 0), (26, .ishl, 27, 0), (27, .istore 5, 29, 0)]), (58, [(29, .iload_n 3, 30, 0), (30, .istore 6, 32, 0), (32, .iconst 0, 33, 0), (33, .istore 7, 35, 0), (35, .iload 7, 37, 0), (37, .aload_n 0, 38, 0), (38, .getfield 18, 41, 0), (41, .if_icmp .ge 82, 44, 123), (44, .aload_n 0, 45, 0), (45, .getfield 9, 48, 0), (48, .iload 7, 50, 0), (50, .iaload, 51, 0), (51, .ifCond .eq 45, 54, 96), (54, .aload_n 0, 55, 0), (55, .getfield 15, 58, 0), (58, .iload 7, 60, 0)]), (88, [(60, .iaload, 61, 0), (61, .sipush (-32768), 64, 0), (64, .if_icmp .eq 32, 67, 96), (67, .aload_n 0, 68, 0), (68, .aload_n 2, 69, 0), (69, .aload_n 0, 70, 0), (70, .getfield 9, 73, 0), (73, .iload 7, 75, 0), (75, .iaload, 76, 0), (76, .invokestatic 62, 79, 0), (79, .iload 6, 81, 0), (81, .aload_n 0, 82, 0), (82, .getfield 15, 85, 0), (85, .iload 7, 87, 0), (87, .iaload, 88, 0), (88, .invokevirtual 66, 91, 0)]), (120, [(91, .ifCond .ne 5, 94, 96), (94, .iconst 0, 95, 0), (95, .ireturn, 96, 0), (96, .aload_n 1, 97, 0), (97, .iload 6, 99, 0), (99, .aload_n 2, 100, 0), (100, .aload_n 0, 101, 0), (101, .getfield 9, 104, 0), (104, .iload 7, 106, 0), (106, .iaload, 107, 0), (107, .iload 5, 109, 0), (109, .invokevirtual 70, 112, 0), (112, .invokevirtual 74, 115, 0), (115, .istore 6, 117, 0), (117, .iinc 7 1, 120, 0), (120, .goto (-85), 123, 35)]), (124, [(123, .iconst 1, 124, 0), (124, .ireturn, 125, 0)])])
theorem ok_X6_explains : ev_ok mi_X6_explains := ev_ok_of (by decide +kernel)
theorem pf_X6_explains : plainName mi_X6_explains.1.cls = true ∨ plainFor mi_X6_explains.1 = true := Or.inl pn_X6
def mi_X6_agrees : MI := (yX6_agrees, prog_8_method_6_code, 7, (some .boolean), 2, 44, 6, [(22, [(0, .iload 4, 2, 0), (2, .aload_n 1, 3, 0), (3, .getfield 79, 6, 0), (6, .iload_n 2, 7, 0), (7, .iaload, 8, 0), (8, .aload_n 1, 9, 0), (9, .getfield 82, 12, 0), (12, .iload_n 2, 13, 0), (13, .iaload, 14, 0), (14, .iadd, 15, 0), (15, .aload_n 1, 16, 0), (16, .iload_n 2, 17, 0), (17, .iload_n 3, 18, 0), (18, .invokevirtual 85, 21, 0), (21, .iadd, 22, 0), (22, .isub, 23, 0)]), (49, [(23, .istore 5, 25, 0), (25, .aload_n 0, 26, 0), (26, .getfield 25, 29, 0), (29, .iload_n 2, 30, 0), (30, .ishr, 31, 0), (31, .iconst 1, 32, 0), (32, .iand, 33, 0), (33, .ifCond .eq 7, 36, 40), (36, .iconst 1, 37, 0), (37, .goto 4, 40, 41), (40, .iconst 0, 41, 0), (41, .istore 6, 43, 0), (43, .iload 6, 45, 0), (45, .ifCond .eq 20, 48, 65), (48, .aload_n 0, 49, 0), (49, .getfield 22, 52, 0)]), (74, [(52, .iload_n 2, 53, 0), (53, .iaload, 54, 0), (54, .iload 5, 56, 0), (56, .if_icmp .ne 7, 59, 63), (59, .iconst 1, 60, 0), (60, .goto 4, 63, 64), (63, .iconst 0, 64, 0), (64, .ireturn, 65, 0), (65, .aload_n 0, 66, 0), (66, .dup, 67, 0), (67, .getfield 25, 70, 0), (70, .iconst 1, 71, 0), (71, .iload_n 2, 72, 0), (72, .ishl, 73, 0), (73, .ior, 74, 0), (74, .putfield 25, 77, 0)]), (96, [(77, .aload_n 0, 78, 0), (78, .getfield 22, 81, 0), (81, .iload_n 2, 82, 0), (82, .iload 5, 84, 0), (84, .iastore, 85, 0), (85, .iload 5, 87, 0), (87, .sipush (-200), 90, 0), (90, .sipush 200, 93, 0), (93, .invokestatic 88, 96, 0), (96, .ireturn, 97, 0)])])
theorem ok_X6_agrees : ev_ok mi_X6_agrees := ev_ok_of (by decide +kernel)
theorem pf_X6_agrees : plainName mi_X6_agrees.1.cls = true ∨ plainFor mi_X6_agrees.1 = true := Or.inl pn_X6
def mi_X6_triedCracks : MI := (yX6_triedCracks, prog_8_method_7_code, 3, (some .int), 0, 0, 6, [(24, [(0, .iconst 0, 1, 0), (1, .istore_n 1, 2, 0), (2, .iconst 0, 3, 0), (3, .istore_n 2, 4, 0), (4, .iload_n 2, 5, 0), (5, .bipush 12, 7, 0), (7, .if_icmp .ge 26, 10, 33), (10, .iload_n 1, 11, 0), (11, .aload_n 0, 12, 0), (12, .getfield 22, 15, 0), (15, .iload_n 2, 16, 0), (16, .iaload, 17, 0), (17, .ifCond .eq 7, 20, 24), (20, .iconst 1, 21, 0), (21, .goto 4, 24, 25), (24, .iconst 0, 25, 0)]), (34, [(25, .iadd, 26, 0), (26, .istore_n 1, 27, 0), (27, .iinc 2 1, 30, 0), (30, .goto (-26), 33, 4), (33, .iload_n 1, 34, 0), (34, .ireturn, 35, 0)])])
theorem ok_X6_triedCracks : ev_ok mi_X6_triedCracks := ev_ok_of (by decide +kernel)
theorem pf_X6_triedCracks : plainName mi_X6_triedCracks.1.cls = true ∨ plainFor mi_X6_triedCracks.1 = true := Or.inl pn_X6
def mi_X6_answer : MI := (yX6_answer, prog_8_method_8_code, 2, (some .int), 1, 22, 6, [(28, [(0, .iload_n 1, 1, 0), (1, .ifCond .ne 8, 4, 9), (4, .aload_n 0, 5, 0), (5, .getfield 31, 8, 0), (8, .ireturn, 9, 0), (9, .iload_n 1, 10, 0), (10, .iconst 1, 11, 0), (11, .if_icmp .ne 21, 14, 32), (14, .aload_n 0, 15, 0), (15, .getfield 34, 18, 0), (18, .iconst (-1), 19, 0), (19, .if_icmp .ne 8, 22, 27), (22, .bipush (-4), 24, 0), (24, .goto 7, 27, 31), (27, .aload_n 0, 28, 0), (28, .getfield 34, 31, 0)]), (53, [(31, .ireturn, 32, 0), (32, .iload_n 1, 33, 0), (33, .iconst 2, 34, 0), (34, .if_icmp .ne 10, 37, 44), (37, .aload_n 0, 38, 0), (38, .invokevirtual 92, 41, 0), (41, .goto 12, 44, 53), (44, .aload_n 0, 45, 0), (45, .getfield 28, 48, 0), (48, .iload_n 1, 49, 0), (49, .bipush 20, 51, 0), (51, .isub, 52, 0), (52, .iaload, 53, 0), (53, .ireturn, 54, 0)])])
theorem ok_X6_answer : ev_ok mi_X6_answer := ev_ok_of (by decide +kernel)
theorem pf_X6_answer : plainName mi_X6_answer.1.cls = true ∨ plainFor mi_X6_answer.1 = true := Or.inl pn_X6
def mi_X6_crackedBits : MI := (yX6_crackedBits, prog_8_method_9_code, 3, (some .int), 0, 0, 6, [(22, [(0, .iconst 0, 1, 0), (1, .istore_n 1, 2, 0), (2, .iconst 0, 3, 0), (3, .istore_n 2, 4, 0), (4, .iload_n 2, 5, 0), (5, .bipush 12, 7, 0), (7, .if_icmp .ge 28, 10, 35), (10, .iload_n 1, 11, 0), (11, .aload_n 0, 12, 0), (12, .getfield 28, 15, 0), (15, .iload_n 2, 16, 0), (16, .iaload, 17, 0), (17, .ifCond .eq 9, 20, 26), (20, .iconst 1, 21, 0), (21, .iload_n 2, 22, 0), (22, .ishl, 23, 0)]), (36, [(23, .goto 4, 26, 27), (26, .iconst 0, 27, 0), (27, .ior, 28, 0), (28, .istore_n 1, 29, 0), (29, .iinc 2 1, 32, 0), (32, .goto (-28), 35, 4), (35, .iload_n 1, 36, 0), (36, .ireturn, 37, 0)])])
theorem ok_X6_crackedBits : ev_ok mi_X6_crackedBits := ev_ok_of (by decide +kernel)
theorem pf_X6_crackedBits : plainName mi_X6_crackedBits.1.cls = true ∨ plainFor mi_X6_crackedBits.1 = true := Or.inl pn_X6
def mi_X7_init : MI := (yX7_init, prog_9_method_1_code, 1, none, 1, 12, 7, [(29, [(0, .aload_n 0, 1, 0), (1, .invokespecial 3, 4, 0), (4, .aload_n 0, 5, 0), (5, .bipush 6, 7, 0), (7, .bipush 24, 9, 0), (9, .multianewarray 9 2, 13, 0), (13, .putfield 11, 16, 0), (16, .aload_n 0, 17, 0), (17, .bipush 6, 19, 0), (19, .newarray .int, 21, 0), (21, .putfield 16, 24, 0), (24, .aload_n 0, 25, 0), (25, .iconst 0, 26, 0), (26, .putfield 20, 29, 0), (29, .return_, 30, 0)])])
theorem ok_X7_init : ev_ok mi_X7_init := ev_ok_of (by decide +kernel)
theorem pn_X7 : plainName RX7 = true := by decide +kernel
theorem pf_X7_init : plainName mi_X7_init.1.cls = true ∨ plainFor mi_X7_init.1 = true := Or.inl pn_X7
def mi_X7_add : MI := (yX7_add, prog_9_method_2_code, 3, (some .int), 1, 26, 7, [(25, [(0, .aload_n 1, 1, 0), (1, .iconst 0, 2, 0), (2, .aload_n 0, 3, 0), (3, .getfield 11, 6, 0), (6, .aload_n 0, 7, 0), (7, .getfield 20, 10, 0), (10, .aaload, 11, 0), (11, .iconst 0, 12, 0), (12, .iload_n 2, 13, 0), (13, .invokestatic 24, 16, 0), (16, .aload_n 0, 17, 0), (17, .getfield 16, 20, 0), (20, .aload_n 0, 21, 0), (21, .getfield 20, 24, 0), (24, .iload_n 2, 25, 0), (25, .iastore, 26, 0)]), (42, [(26, .aload_n 0, 27, 0), (27, .dup, 28, 0), (28, .getfield 20, 31, 0), (31, .iconst 1, 32, 0), (32, .iadd, 33, 0), (33, .putfield 20, 36, 0), (36, .aload_n 0, 37, 0), (37, .getfield 20, 40, 0), (40, .iconst 1, 41, 0), (41, .isub, 42, 0), (42, .ireturn, 43, 0)])])
theorem ok_X7_add : ev_ok mi_X7_add := ev_ok_of (by decide +kernel)
theorem pf_X7_add : plainName mi_X7_add.1.cls = true ∨ plainFor mi_X7_add.1 = true := Or.inl pn_X7
def mi_X7_has : MI := (yX7_has, prog_9_method_3_code, 2, (some .boolean), 0, 0, 7, [(18, [(0, .iconst 0, 1, 0), (1, .iload_n 1, 2, 0), (2, .if_icmp .gt 15, 5, 17), (5, .iload_n 1, 6, 0), (6, .aload_n 0, 7, 0), (7, .getfield 20, 10, 0), (10, .if_icmp .ge 7, 13, 17), (13, .iconst 1, 14, 0), (14, .goto 4, 17, 18), (17, .iconst 0, 18, 0), (18, .ireturn, 19, 0)])])
theorem ok_X7_has : ev_ok mi_X7_has := ev_ok_of (by decide +kernel)
theorem pf_X7_has : plainName mi_X7_has.1.cls = true ∨ plainFor mi_X7_has.1 = true := Or.inl pn_X7
def mi_X7_sounding : MI := (yX7_sounding, prog_9_method_4_code, 4, (some .int), 1, 20, 7, [(21, [(0, .iconst 0, 1, 0), (1, .istore_n 2, 2, 0), (2, .iconst 0, 3, 0), (3, .istore_n 3, 4, 0), (4, .iload_n 3, 5, 0), (5, .aload_n 0, 6, 0), (6, .getfield 16, 9, 0), (9, .iload_n 1, 10, 0), (10, .iaload, 11, 0), (11, .if_icmp .ge 23, 14, 34), (14, .iload_n 2, 15, 0), (15, .aload_n 0, 16, 0), (16, .getfield 11, 19, 0), (19, .iload_n 1, 20, 0), (20, .aaload, 21, 0), (21, .iload_n 3, 22, 0)]), (35, [(22, .iaload, 23, 0), (23, .invokestatic 30, 26, 0), (26, .iadd, 27, 0), (27, .istore_n 2, 28, 0), (28, .iinc 3 1, 31, 0), (31, .goto (-27), 34, 4), (34, .iload_n 2, 35, 0), (35, .ireturn, 36, 0)])])
theorem ok_X7_sounding : ev_ok mi_X7_sounding := ev_ok_of (by decide +kernel)
theorem pf_X7_sounding : plainName mi_X7_sounding.1.cls = true ∨ plainFor mi_X7_sounding.1 = true := Or.inl pn_X7
def mi_X7_whistlesOf : MI := (yX7_whistlesOf, prog_9_method_5_code, 4, (some .int), 0, 0, 7, [(21, [(0, .iconst 0, 1, 0), (1, .istore_n 2, 2, 0), (2, .iconst 0, 3, 0), (3, .istore_n 3, 4, 0), (4, .iload_n 3, 5, 0), (5, .aload_n 0, 6, 0), (6, .getfield 16, 9, 0), (9, .iload_n 1, 10, 0), (10, .iaload, 11, 0), (11, .if_icmp .ge 20, 14, 31), (14, .iload_n 2, 15, 0), (15, .aload_n 0, 16, 0), (16, .getfield 11, 19, 0), (19, .iload_n 1, 20, 0), (20, .aaload, 21, 0), (21, .iload_n 3, 22, 0)]), (32, [(22, .iaload, 23, 0), (23, .ior, 24, 0), (24, .istore_n 2, 25, 0), (25, .iinc 3 1, 28, 0), (28, .goto (-24), 31, 4), (31, .iload_n 2, 32, 0), (32, .ireturn, 33, 0)])])
theorem ok_X7_whistlesOf : ev_ok mi_X7_whistlesOf := ev_ok_of (by decide +kernel)
theorem pf_X7_whistlesOf : plainName mi_X7_whistlesOf.1.cls = true ∨ plainFor mi_X7_whistlesOf.1 = true := Or.inl pn_X7
def mi_X7_goes : MI := (yX7_goes, prog_9_method_6_code, 5, (some .boolean), 2, 40, 7, [(29, [(0, .aload_n 0, 1, 0), (1, .iload_n 1, 2, 0), (2, .invokevirtual 36, 5, 0), (5, .istore 4, 7, 0), (7, .iload 4, 9, 0), (9, .ifCond .eq 24, 12, 33), (12, .iload 4, 14, 0), (14, .invokestatic 39, 17, 0), (17, .iload_n 2, 18, 0), (18, .iadd, 19, 0), (19, .ifCond .lt 18, 22, 37), (22, .iload 4, 24, 0), (24, .invokestatic 42, 27, 0), (27, .iload_n 2, 28, 0), (28, .iadd, 29, 0), (29, .iload_n 3, 30, 0)]), (38, [(30, .if_icmp .ge 7, 33, 37), (33, .iconst 1, 34, 0), (34, .goto 4, 37, 38), (37, .iconst 0, 38, 0), (38, .ireturn, 39, 0)])])
theorem ok_X7_goes : ev_ok mi_X7_goes := ev_ok_of (by decide +kernel)
theorem pf_X7_goes : plainName mi_X7_goes.1.cls = true ∨ plainFor mi_X7_goes.1 = true := Or.inl pn_X7
def mi_X7_chordIn : MI := (yX7_chordIn, prog_9_method_7_code, 5, (some .int), 0, 0, 7, [(24, [(0, .aload_n 0, 1, 0), (1, .getfield 11, 4, 0), (4, .iload_n 1, 5, 0), (5, .aaload, 6, 0), (6, .iload_n 2, 7, 0), (7, .iaload, 8, 0), (8, .istore 4, 10, 0), (10, .iload_n 3, 11, 0), (11, .ifCond .lt 10, 14, 21), (14, .iload 4, 16, 0), (16, .iload_n 3, 17, 0), (17, .ishl, 18, 0), (18, .goto 8, 21, 26), (21, .iload 4, 23, 0), (23, .iload_n 3, 24, 0), (24, .ineg, 25, 0)]), (26, [(25, .ishr, 26, 0), (26, .ireturn, 27, 0)])])
theorem ok_X7_chordIn : ev_ok mi_X7_chordIn := ev_ok_of (by decide +kernel)
theorem pf_X7_chordIn : plainName mi_X7_chordIn.1.cls = true ∨ plainFor mi_X7_chordIn.1 = true := Or.inl pn_X7
def mi_X8_init : MI := (yX8_init, prog_10_method_1_code, 1, none, 1, 12, 8, [(29, [(0, .aload_n 0, 1, 0), (1, .invokespecial 3, 4, 0), (4, .aload_n 0, 5, 0), (5, .bipush 12, 7, 0), (7, .newarray .int, 9, 0), (9, .putfield 9, 12, 0), (12, .aload_n 0, 13, 0), (13, .bipush 12, 15, 0), (15, .newarray .int, 17, 0), (17, .putfield 15, 20, 0), (20, .aload_n 0, 21, 0), (21, .bipush 12, 23, 0), (23, .newarray .int, 25, 0), (25, .putfield 18, 28, 0), (28, .aload_n 0, 29, 0), (29, .bipush 12, 31, 0)]), (59, [(31, .newarray .boolean, 33, 0), (33, .putfield 21, 36, 0), (36, .aload_n 0, 37, 0), (37, .bipush 12, 39, 0), (39, .newarray .int, 41, 0), (41, .putfield 25, 44, 0), (44, .aload_n 0, 45, 0), (45, .bipush 12, 47, 0), (47, .newarray .int, 49, 0), (49, .putfield 28, 52, 0), (52, .aload_n 0, 53, 0), (53, .iconst 0, 54, 0), (54, .putfield 31, 57, 0), (57, .aload_n 0, 58, 0), (58, .iconst 0, 59, 0), (59, .putfield 35, 62, 0)]), (62, [(62, .return_, 63, 0)])])
theorem ok_X8_init : ev_ok mi_X8_init := ev_ok_of (by decide +kernel)
theorem pn_X8 : plainName RX8 = true := by decide +kernel
theorem pf_X8_init : plainName mi_X8_init.1.cls = true ∨ plainFor mi_X8_init.1 = true := Or.inl pn_X8
def mi_X8_add : MI := (yX8_add, prog_10_method_2_code, 5, (some .int), 1, 22, 8, [(31, [(0, .iload_n 1, 1, 0), (1, .iconst 0, 2, 0), (2, .sipush 3600, 5, 0), (5, .invokestatic 38, 8, 0), (8, .ifCond .eq 23, 11, 31), (11, .iload_n 2, 12, 0), (12, .iconst 1, 13, 0), (13, .bipush 9, 15, 0), (15, .invokestatic 38, 18, 0), (18, .ifCond .eq 13, 21, 31), (21, .iload_n 3, 22, 0), (22, .iconst 0, 23, 0), (23, .bipush 20, 25, 0), (25, .invokestatic 38, 28, 0), (28, .ifCond .ne 5, 31, 33), (31, .iconst (-1), 32, 0)]), (59, [(32, .ireturn, 33, 0), (33, .aload_n 0, 34, 0), (34, .getfield 35, 37, 0), (37, .bipush 12, 39, 0), (39, .if_icmp .lt 6, 42, 45), (42, .bipush (-3), 44, 0), (44, .ireturn, 45, 0), (45, .aload_n 0, 46, 0), (46, .getfield 9, 49, 0), (49, .aload_n 0, 50, 0), (50, .getfield 35, 53, 0), (53, .iload_n 1, 54, 0), (54, .iastore, 55, 0), (55, .aload_n 0, 56, 0), (56, .getfield 15, 59, 0), (59, .aload_n 0, 60, 0)]), (86, [(60, .getfield 35, 63, 0), (63, .iload_n 2, 64, 0), (64, .iastore, 65, 0), (65, .aload_n 0, 66, 0), (66, .getfield 18, 69, 0), (69, .aload_n 0, 70, 0), (70, .getfield 35, 73, 0), (73, .iload_n 3, 74, 0), (74, .iastore, 75, 0), (75, .aload_n 0, 76, 0), (76, .getfield 21, 79, 0), (79, .aload_n 0, 80, 0), (80, .getfield 35, 83, 0), (83, .iload 4, 85, 0), (85, .bastore, 86, 0), (86, .aload_n 0, 87, 0)]), (102, [(87, .dup, 88, 0), (88, .getfield 35, 91, 0), (91, .iconst 1, 92, 0), (92, .iadd, 93, 0), (93, .putfield 35, 96, 0), (96, .aload_n 0, 97, 0), (97, .getfield 35, 100, 0), (100, .iconst 1, 101, 0), (101, .isub, 102, 0), (102, .ireturn, 103, 0)])])
theorem ok_X8_add : ev_ok mi_X8_add := ev_ok_of (by decide +kernel)
theorem pf_X8_add : plainName mi_X8_add.1.cls = true ∨ plainFor mi_X8_add.1 = true := Or.inl pn_X8
def mi_X8_has : MI := (yX8_has, prog_10_method_3_code, 2, (some .boolean), 0, 0, 8, [(18, [(0, .iconst 0, 1, 0), (1, .iload_n 1, 2, 0), (2, .if_icmp .gt 15, 5, 17), (5, .iload_n 1, 6, 0), (6, .aload_n 0, 7, 0), (7, .getfield 35, 10, 0), (10, .if_icmp .ge 7, 13, 17), (13, .iconst 1, 14, 0), (14, .goto 4, 17, 18), (17, .iconst 0, 18, 0), (18, .ireturn, 19, 0)])])
theorem ok_X8_has : ev_ok mi_X8_has := ev_ok_of (by decide +kernel)
theorem pf_X8_has : plainName mi_X8_has.1.cls = true ∨ plainFor mi_X8_has.1 = true := Or.inl pn_X8
def mi_X8_all : MI := (yX8_all, prog_10_method_4_code, 1, (some .int), 0, 0, 8, [(8, [(0, .iconst 1, 1, 0), (1, .aload_n 0, 2, 0), (2, .getfield 35, 5, 0), (5, .ishl, 6, 0), (6, .iconst 1, 7, 0), (7, .isub, 8, 0), (8, .ireturn, 9, 0)])])
theorem ok_X8_all : ev_ok mi_X8_all := ev_ok_of (by decide +kernel)
theorem pf_X8_all : plainName mi_X8_all.1.cls = true ∨ plainFor mi_X8_all.1 = true := Or.inl pn_X8
def mi_X8_hasAll : MI := (yX8_hasAll, prog_10_method_5_code, 2, (some .boolean), 1, 20, 8, [(16, [(0, .iload_n 1, 1, 0), (1, .aload_n 0, 2, 0), (2, .invokevirtual 42, 5, 0), (5, .iconst (-1), 6, 0), (6, .ixor, 7, 0), (7, .iand, 8, 0), (8, .ifCond .ne 7, 11, 15), (11, .iconst 1, 12, 0), (12, .goto 4, 15, 16), (15, .iconst 0, 16, 0), (16, .ireturn, 17, 0)])])
theorem ok_X8_hasAll : ev_ok mi_X8_hasAll := ev_ok_of (by decide +kernel)
theorem pf_X8_hasAll : plainName mi_X8_hasAll.1.cls = true ∨ plainFor mi_X8_hasAll.1 = true := Or.inl pn_X8
def mi_X8_bentAt : MI := (yX8_bentAt, prog_10_method_6_code, 3, (some .int), 1, 22, 8, [(16, [(0, .aload_n 0, 1, 0), (1, .getfield 18, 4, 0), (4, .iload_n 1, 5, 0), (5, .iaload, 6, 0), (6, .iload_n 2, 7, 0), (7, .bipush 100, 9, 0), (9, .isub, 10, 0), (10, .imul, 11, 0), (11, .bipush 10, 13, 0), (13, .invokestatic 46, 16, 0), (16, .ireturn, 17, 0)])])
theorem ok_X8_bentAt : ev_ok mi_X8_bentAt := ev_ok_of (by decide +kernel)
theorem pf_X8_bentAt : plainName mi_X8_bentAt.1.cls = true ∨ plainFor mi_X8_bentAt.1 = true := Or.inl pn_X8
def mi_X8_offAt : MI := (yX8_offAt, prog_10_method_7_code, 3, (some .int), 2, 44, 8, [(20, [(0, .aload_n 0, 1, 0), (1, .getfield 25, 4, 0), (4, .iload_n 1, 5, 0), (5, .iaload, 6, 0), (6, .aload_n 0, 7, 0), (7, .getfield 28, 10, 0), (10, .iload_n 1, 11, 0), (11, .iaload, 12, 0), (12, .iadd, 13, 0), (13, .aload_n 0, 14, 0), (14, .iload_n 1, 15, 0), (15, .iload_n 2, 16, 0), (16, .invokevirtual 52, 19, 0), (19, .iadd, 20, 0), (20, .ireturn, 21, 0)])])
theorem ok_X8_offAt : ev_ok mi_X8_offAt := ev_ok_of (by decide +kernel)
theorem pf_X8_offAt : plainName mi_X8_offAt.1.cls = true ∨ plainFor mi_X8_offAt.1 = true := Or.inl pn_X8
def mi_X8_isNear : MI := (yX8_isNear, prog_10_method_8_code, 4, (some .boolean), 3, 66, 8, [(18, [(0, .aload_n 0, 1, 0), (1, .iload_n 1, 2, 0), (2, .iload_n 2, 3, 0), (3, .invokevirtual 55, 6, 0), (6, .invokestatic 58, 9, 0), (9, .iload_n 3, 10, 0), (10, .if_icmp .gt 7, 13, 17), (13, .iconst 1, 14, 0), (14, .goto 4, 17, 18), (17, .iconst 0, 18, 0), (18, .ireturn, 19, 0)])])
theorem ok_X8_isNear : ev_ok mi_X8_isNear := ev_ok_of (by decide +kernel)
theorem pf_X8_isNear : plainName mi_X8_isNear.1.cls = true ∨ plainFor mi_X8_isNear.1 = true := Or.inl pn_X8
def mi_X8_strayOf : MI := (yX8_strayOf, prog_10_method_9_code, 5, (some .int), 3, 66, 8, [(24, [(0, .iconst 0, 1, 0), (1, .istore_n 3, 2, 0), (2, .iconst 0, 3, 0), (3, .istore 4, 5, 0), (5, .iload 4, 7, 0), (7, .aload_n 0, 8, 0), (8, .getfield 35, 11, 0), (11, .if_icmp .ge 33, 14, 44), (14, .iload_n 1, 15, 0), (15, .iload 4, 17, 0), (17, .ishr, 18, 0), (18, .iconst 1, 19, 0), (19, .iand, 20, 0), (20, .ifCond .eq 18, 23, 38), (23, .iload_n 3, 24, 0), (24, .aload_n 0, 25, 0)]), (45, [(25, .iload 4, 27, 0), (27, .iload_n 2, 28, 0), (28, .invokevirtual 55, 31, 0), (31, .invokestatic 58, 34, 0), (34, .invokestatic 62, 37, 0), (37, .istore_n 3, 38, 0), (38, .iinc 4 1, 41, 0), (41, .goto (-36), 44, 5), (44, .iload_n 3, 45, 0), (45, .ireturn, 46, 0)])])
theorem ok_X8_strayOf : ev_ok mi_X8_strayOf := ev_ok_of (by decide +kernel)
theorem pf_X8_strayOf : plainName mi_X8_strayOf.1.cls = true ∨ plainFor mi_X8_strayOf.1 = true := Or.inl pn_X8
def mi_X8_drawnBy : MI := (yX8_drawnBy, prog_10_method_10_code, 5, (some .int), 0, 0, 8, [(24, [(0, .iconst 0, 1, 0), (1, .istore_n 3, 2, 0), (2, .iconst 0, 3, 0), (3, .istore 4, 5, 0), (5, .iload 4, 7, 0), (7, .aload_n 0, 8, 0), (8, .getfield 35, 11, 0), (11, .if_icmp .ge 52, 14, 63), (14, .iload_n 1, 15, 0), (15, .iload 4, 17, 0), (17, .ishr, 18, 0), (18, .iconst 1, 19, 0), (19, .iand, 20, 0), (20, .ifCond .eq 16, 23, 36), (23, .iload_n 3, 24, 0), (24, .aload_n 0, 25, 0)]), (50, [(25, .getfield 15, 28, 0), (28, .iload 4, 30, 0), (30, .iaload, 31, 0), (31, .iadd, 32, 0), (32, .istore_n 3, 33, 0), (33, .goto 24, 36, 57), (36, .iload_n 2, 37, 0), (37, .iload 4, 39, 0), (39, .ishr, 40, 0), (40, .iconst 1, 41, 0), (41, .iand, 42, 0), (42, .ifCond .eq 15, 45, 57), (45, .iload_n 3, 46, 0), (46, .aload_n 0, 47, 0), (47, .getfield 15, 50, 0), (50, .iload 4, 52, 0)]), (64, [(52, .iaload, 53, 0), (53, .iconst 2, 54, 0), (54, .idiv, 55, 0), (55, .iadd, 56, 0), (56, .istore_n 3, 57, 0), (57, .iinc 4 1, 60, 0), (60, .goto (-55), 63, 5), (63, .iload_n 3, 64, 0), (64, .ireturn, 65, 0)])])
theorem ok_X8_drawnBy : ev_ok mi_X8_drawnBy := ev_ok_of (by decide +kernel)
theorem pf_X8_drawnBy : plainName mi_X8_drawnBy.1.cls = true ∨ plainFor mi_X8_drawnBy.1 = true := Or.inl pn_X8
def mi_X8_bringNear : MI := (yX8_bringNear, prog_10_method_11_code, 4, none, 2, 44, 8, [(25, [(0, .iconst 0, 1, 0), (1, .istore_n 2, 2, 0), (2, .iload_n 2, 3, 0), (3, .aload_n 0, 4, 0), (4, .getfield 35, 7, 0), (7, .if_icmp .ge 50, 10, 57), (10, .aload_n 0, 11, 0), (11, .getfield 21, 14, 0), (14, .iload_n 2, 15, 0), (15, .baload, 16, 0), (16, .ifCond .ne 35, 19, 51), (19, .aload_n 0, 20, 0), (20, .getfield 28, 23, 0), (23, .iload_n 2, 24, 0), (24, .iaload, 25, 0), (25, .aload_n 0, 26, 0)]), (51, [(26, .iload_n 2, 27, 0), (27, .iload_n 1, 28, 0), (28, .invokevirtual 52, 31, 0), (31, .iadd, 32, 0), (32, .ineg, 33, 0), (33, .istore_n 3, 34, 0), (34, .aload_n 0, 35, 0), (35, .getfield 25, 38, 0), (38, .iload_n 2, 39, 0), (39, .bipush (-100), 41, 0), (41, .bipush 100, 43, 0), (43, .iload_n 3, 44, 0), (44, .invokestatic 65, 47, 0), (47, .invokestatic 62, 50, 0), (50, .iastore, 51, 0), (51, .iinc 2 1, 54, 0)]), (57, [(54, .goto (-52), 57, 2), (57, .return_, 58, 0)])])
theorem ok_X8_bringNear : ev_ok mi_X8_bringNear := ev_ok_of (by decide +kernel)
theorem pf_X8_bringNear : plainName mi_X8_bringNear.1.cls = true ∨ plainFor mi_X8_bringNear.1 = true := Or.inl pn_X8
def mi_X8_exactAt : MI := (yX8_exactAt, prog_10_method_12_code, 4, (some .int), 3, 66, 8, [(23, [(0, .iconst 0, 1, 0), (1, .istore_n 2, 2, 0), (2, .iconst 0, 3, 0), (3, .istore_n 3, 4, 0), (4, .iload_n 3, 5, 0), (5, .aload_n 0, 6, 0), (6, .getfield 35, 9, 0), (9, .if_icmp .ge 26, 12, 35), (12, .iload_n 2, 13, 0), (13, .aload_n 0, 14, 0), (14, .iload_n 3, 15, 0), (15, .iload_n 1, 16, 0), (16, .invokevirtual 55, 19, 0), (19, .ifCond .ne 7, 22, 26), (22, .iconst 1, 23, 0), (23, .goto 4, 26, 27)]), (36, [(26, .iconst 0, 27, 0), (27, .iadd, 28, 0), (28, .istore_n 2, 29, 0), (29, .iinc 3 1, 32, 0), (32, .goto (-28), 35, 4), (35, .iload_n 2, 36, 0), (36, .ireturn, 37, 0)])])
theorem ok_X8_exactAt : ev_ok mi_X8_exactAt := ev_ok_of (by decide +kernel)
theorem pf_X8_exactAt : plainName mi_X8_exactAt.1.cls = true ∨ plainFor mi_X8_exactAt.1 = true := Or.inl pn_X8
def mi_X8_cracked : MI := (yX8_cracked, prog_10_method_13_code, 3, (some .int), 0, 0, 8, [(23, [(0, .iconst 0, 1, 0), (1, .istore_n 1, 2, 0), (2, .iconst 0, 3, 0), (3, .istore_n 2, 4, 0), (4, .iload_n 2, 5, 0), (5, .aload_n 0, 6, 0), (6, .getfield 35, 9, 0), (9, .if_icmp .ge 26, 12, 35), (12, .iload_n 1, 13, 0), (13, .aload_n 0, 14, 0), (14, .getfield 28, 17, 0), (17, .iload_n 2, 18, 0), (18, .iaload, 19, 0), (19, .ifCond .eq 7, 22, 26), (22, .iconst 1, 23, 0), (23, .goto 4, 26, 27)]), (36, [(26, .iconst 0, 27, 0), (27, .iadd, 28, 0), (28, .istore_n 1, 29, 0), (29, .iinc 2 1, 32, 0), (32, .goto (-28), 35, 4), (35, .iload_n 1, 36, 0), (36, .ireturn, 37, 0)])])
theorem ok_X8_cracked : ev_ok mi_X8_cracked := ev_ok_of (by decide +kernel)
theorem pf_X8_cracked : plainName mi_X8_cracked.1.cls = true ∨ plainFor mi_X8_cracked.1 = true := Or.inl pn_X8
def mi_X9_init : MI := (yX9_init, prog_1_method_1_code, 1, none, 2, 32, 9, [(31, [(0, .aload_n 0, 1, 0), (1, .invokespecial 1, 4, 0), (4, .aload_n 0, 5, 0), (5, .new 7, 8, 0), (8, .dup, 9, 0), (9, .invokespecial 9, 12, 0), (12, .putfield 10, 15, 0), (15, .aload_n 0, 16, 0), (16, .new 7, 19, 0), (19, .dup, 20, 0), (20, .invokespecial 9, 23, 0), (23, .putfield 16, 26, 0), (26, .aload_n 0, 27, 0), (27, .new 19, 30, 0), (30, .dup, 31, 0), (31, .invokespecial 21, 34, 0)]), (67, [(34, .putfield 22, 37, 0), (37, .aload_n 0, 38, 0), (38, .new 26, 41, 0), (41, .dup, 42, 0), (42, .invokespecial 28, 45, 0), (45, .putfield 29, 48, 0), (48, .aload_n 0, 49, 0), (49, .new 33, 52, 0), (52, .dup, 53, 0), (53, .invokespecial 35, 56, 0), (56, .putfield 36, 59, 0), (59, .aload_n 0, 60, 0), (60, .new 40, 63, 0), (63, .dup, 64, 0), (64, .invokespecial 42, 67, 0), (67, .putfield 43, 70, 0)]), (103, [(70, .aload_n 0, 71, 0), (71, .new 47, 74, 0), (74, .dup, 75, 0), (75, .invokespecial 49, 78, 0), (78, .putfield 50, 81, 0), (81, .aload_n 0, 82, 0), (82, .new 54, 85, 0), (85, .dup, 86, 0), (86, .invokespecial 56, 89, 0), (89, .putfield 57, 92, 0), (92, .aload_n 0, 93, 0), (93, .new 61, 96, 0), (96, .dup, 97, 0), (97, .invokespecial 63, 100, 0), (100, .putfield 64, 103, 0), (103, .aload_n 0, 104, 0)]), (114, [(104, .new 68, 107, 0), (107, .dup, 108, 0), (108, .invokespecial 70, 111, 0), (111, .putfield 71, 114, 0), (114, .return_, 115, 0)])])
theorem ok_X9_init : ev_ok mi_X9_init := ev_ok_of (by decide +kernel)
theorem pn_X9 : plainName RX9 = true := by decide +kernel
theorem pf_X9_init : plainName mi_X9_init.1.cls = true ∨ plainFor mi_X9_init.1 = true := Or.inl pn_X9
def mi_X9_fire : MI := (yX9_fire, prog_1_method_2_code, 3, (some .int), 2, 49, 9, [(28, [(0, .iload_n 1, 1, 0), (1, .iconst 0, 2, 0), (2, .bipush 9, 4, 0), (4, .invokestatic 75, 7, 0), (7, .ifCond .ne 5, 10, 12), (10, .iconst (-1), 11, 0), (11, .ireturn, 12, 0), (12, .aload_n 0, 13, 0), (13, .getfield 29, 16, 0), (16, .aload_n 0, 17, 0), (17, .getfield 10, 20, 0), (20, .aload_n 0, 21, 0), (21, .getfield 22, 24, 0), (24, .invokevirtual 79, 27, 0), (27, .aload_n 0, 28, 0), (28, .getfield 10, 31, 0)]), (44, [(31, .getfield 83, 34, 0), (34, .istore_n 2, 35, 0), (35, .aload_n 0, 36, 0), (36, .getfield 10, 39, 0), (39, .iload_n 1, 40, 0), (40, .putfield 83, 43, 0), (43, .iload_n 2, 44, 0), (44, .ireturn, 45, 0)])])
theorem ok_X9_fire : ev_ok mi_X9_fire := ev_ok_of (by decide +kernel)
theorem pf_X9_fire : plainName mi_X9_fire.1.cls = true ∨ plainFor mi_X9_fire.1 = true := Or.inl pn_X9
def mi_X9_water : MI := (yX9_water, prog_1_method_3_code, 2, (some .int), 2, 49, 9, [(29, [(0, .iload_n 1, 1, 0), (1, .iconst 1, 2, 0), (2, .sipush 9999, 5, 0), (5, .invokestatic 75, 8, 0), (8, .ifCond .ne 5, 11, 13), (11, .iconst (-1), 12, 0), (12, .ireturn, 13, 0), (13, .aload_n 0, 14, 0), (14, .getfield 29, 17, 0), (17, .aload_n 0, 18, 0), (18, .getfield 10, 21, 0), (21, .aload_n 0, 22, 0), (22, .getfield 22, 25, 0), (25, .invokevirtual 79, 28, 0), (28, .aload_n 0, 29, 0), (29, .getfield 10, 32, 0)]), (57, [(32, .sipush 9999, 35, 0), (35, .aload_n 0, 36, 0), (36, .getfield 10, 39, 0), (39, .getfield 87, 42, 0), (42, .iload_n 1, 43, 0), (43, .iadd, 44, 0), (44, .invokestatic 90, 47, 0), (47, .putfield 87, 50, 0), (50, .aload_n 0, 51, 0), (51, .getfield 10, 54, 0), (54, .getfield 87, 57, 0), (57, .ireturn, 58, 0)])])
theorem ok_X9_water : ev_ok mi_X9_water := ev_ok_of (by decide +kernel)
theorem pf_X9_water : plainName mi_X9_water.1.cls = true ∨ plainFor mi_X9_water.1 = true := Or.inl pn_X9
def mi_X9_valve : MI := (yX9_valve, prog_1_method_4_code, 3, (some .int), 2, 49, 9, [(30, [(0, .iload_n 1, 1, 0), (1, .bipush 50, 3, 0), (3, .sipush 200, 6, 0), (6, .invokestatic 75, 9, 0), (9, .ifCond .ne 5, 12, 14), (12, .iconst (-1), 13, 0), (13, .ireturn, 14, 0), (14, .aload_n 0, 15, 0), (15, .getfield 29, 18, 0), (18, .aload_n 0, 19, 0), (19, .getfield 10, 22, 0), (22, .aload_n 0, 23, 0), (23, .getfield 22, 26, 0), (26, .invokevirtual 79, 29, 0), (29, .aload_n 0, 30, 0), (30, .getfield 10, 33, 0)]), (64, [(33, .getfield 96, 36, 0), (36, .istore_n 2, 37, 0), (37, .aload_n 0, 38, 0), (38, .getfield 10, 41, 0), (41, .iload_n 1, 42, 0), (42, .putfield 96, 45, 0), (45, .aload_n 0, 46, 0), (46, .getfield 10, 49, 0), (49, .aload_n 0, 50, 0), (50, .getfield 10, 53, 0), (53, .getfield 99, 56, 0), (56, .iload_n 1, 57, 0), (57, .invokestatic 90, 60, 0), (60, .putfield 99, 63, 0), (63, .iload_n 2, 64, 0), (64, .ireturn, 65, 0)])])
theorem ok_X9_valve : ev_ok mi_X9_valve := ev_ok_of (by decide +kernel)
theorem pf_X9_valve : plainName mi_X9_valve.1.cls = true ∨ plainFor mi_X9_valve.1 = true := Or.inl pn_X9
def mi_X9_pressure : MI := (yX9_pressure, prog_1_method_5_code, 3, (some .int), 2, 49, 9, [(29, [(0, .iload_n 1, 1, 0), (1, .iconst 0, 2, 0), (2, .aload_n 0, 3, 0), (3, .getfield 10, 6, 0), (6, .getfield 96, 9, 0), (9, .invokestatic 75, 12, 0), (12, .ifCond .ne 5, 15, 17), (15, .iconst (-1), 16, 0), (16, .ireturn, 17, 0), (17, .aload_n 0, 18, 0), (18, .getfield 29, 21, 0), (21, .aload_n 0, 22, 0), (22, .getfield 10, 25, 0), (25, .aload_n 0, 26, 0), (26, .getfield 22, 29, 0), (29, .invokevirtual 79, 32, 0)]), (49, [(32, .aload_n 0, 33, 0), (33, .getfield 10, 36, 0), (36, .getfield 99, 39, 0), (39, .istore_n 2, 40, 0), (40, .aload_n 0, 41, 0), (41, .getfield 10, 44, 0), (44, .iload_n 1, 45, 0), (45, .putfield 99, 48, 0), (48, .iload_n 2, 49, 0), (49, .ireturn, 50, 0)])])
theorem ok_X9_pressure : ev_ok mi_X9_pressure := ev_ok_of (by decide +kernel)
theorem pf_X9_pressure : plainName mi_X9_pressure.1.cls = true ∨ plainFor mi_X9_pressure.1 = true := Or.inl pn_X9
def mi_X9_boiler : MI := (yX9_boiler, prog_1_method_6_code, 2, (some .int), 1, 24, 9, [(65, [(0, .iload_n 1, 1, 0), (1, .tableswitch 95 0 5 #[39, 47, 55, 63, 71, 79], 40, 0), (40, .aload_n 0, 41, 0), (41, .getfield 10, 44, 0), (44, .getfield 99, 47, 0), (47, .ireturn, 48, 0), (48, .aload_n 0, 49, 0), (49, .getfield 10, 52, 0), (52, .getfield 87, 55, 0), (55, .ireturn, 56, 0), (56, .aload_n 0, 57, 0), (57, .getfield 10, 60, 0), (60, .getfield 83, 63, 0), (63, .ireturn, 64, 0), (64, .aload_n 0, 65, 0), (65, .getfield 10, 68, 0)]), (97, [(68, .getfield 96, 71, 0), (71, .ireturn, 72, 0), (72, .aload_n 0, 73, 0), (73, .getfield 10, 76, 0), (76, .getfield 102, 79, 0), (79, .ireturn, 80, 0), (80, .aload_n 0, 81, 0), (81, .getfield 22, 84, 0), (84, .iconst 0, 85, 0), (85, .aload_n 0, 86, 0), (86, .getfield 22, 89, 0), (89, .getfield 105, 92, 0), (92, .invokevirtual 108, 95, 0), (95, .ireturn, 96, 0), (96, .iconst (-1), 97, 0), (97, .ireturn, 98, 0)])])
theorem ok_X9_boiler : ev_ok mi_X9_boiler := ev_ok_of (by decide +kernel)
theorem pf_X9_boiler : plainName mi_X9_boiler.1.cls = true ∨ plainFor mi_X9_boiler.1 = true := Or.inl pn_X9
def mi_X9_beat : MI := (yX9_beat, prog_1_method_7_code, 4, (some .int), 4, 90, 9, [(29, [(0, .aload_n 0, 1, 0), (1, .getfield 22, 4, 0), (4, .iload_n 1, 5, 0), (5, .invokevirtual 111, 8, 0), (8, .ifCond .ne 5, 11, 13), (11, .iconst (-1), 12, 0), (12, .ireturn, 13, 0), (13, .aload_n 0, 14, 0), (14, .getfield 22, 17, 0), (17, .iload_n 1, 18, 0), (18, .aload_n 0, 19, 0), (19, .getfield 22, 22, 0), (22, .getfield 105, 25, 0), (25, .invokevirtual 108, 28, 0), (28, .istore_n 2, 29, 0), (29, .iload_n 2, 30, 0)]), (62, [(30, .aload_n 0, 31, 0), (31, .getfield 10, 34, 0), (34, .getfield 87, 37, 0), (37, .if_icmp .le 6, 40, 43), (40, .bipush (-5), 42, 0), (42, .ireturn, 43, 0), (43, .aload_n 0, 44, 0), (44, .getfield 29, 47, 0), (47, .aload_n 0, 48, 0), (48, .getfield 10, 51, 0), (51, .aload_n 0, 52, 0), (52, .getfield 22, 55, 0), (55, .invokevirtual 79, 58, 0), (58, .aload_n 0, 59, 0), (59, .getfield 22, 62, 0), (62, .iload_n 1, 63, 0)]), (83, [(63, .aload_n 0, 64, 0), (64, .getfield 10, 67, 0), (67, .getfield 99, 70, 0), (70, .invokevirtual 115, 73, 0), (73, .istore_n 3, 74, 0), (74, .aload_n 0, 75, 0), (75, .getfield 10, 78, 0), (78, .iload_n 2, 79, 0), (79, .invokevirtual 118, 82, 0), (82, .iload_n 3, 83, 0), (83, .ireturn, 84, 0)])])
theorem ok_X9_beat : ev_ok mi_X9_beat := ev_ok_of (by decide +kernel)
theorem pf_X9_beat : plainName mi_X9_beat.1.cls = true ∨ plainFor mi_X9_beat.1 = true := Or.inl pn_X9
def mi_X9_whistle : MI := (yX9_whistle, prog_1_method_8_code, 5, (some .int), 2, 46, 9, [(12, [(0, .aload_n 0, 1, 0), (1, .getfield 22, 4, 0), (4, .iload_n 1, 5, 0), (5, .iload_n 2, 6, 0), (6, .iload_n 3, 7, 0), (7, .iload 4, 9, 0), (9, .invokevirtual 122, 12, 0), (12, .ireturn, 13, 0)])])
theorem ok_X9_whistle : ev_ok mi_X9_whistle := ev_ok_of (by decide +kernel)
theorem pf_X9_whistle : plainName mi_X9_whistle.1.cls = true ∨ plainFor mi_X9_whistle.1 = true := Or.inl pn_X9
def mi_X9_told : MI := (yX9_told, prog_1_method_9_code, 3, (some .int), 1, 21, 9, [(70, [(0, .aload_n 0, 1, 0), (1, .getfield 22, 4, 0), (4, .iload_n 1, 5, 0), (5, .invokevirtual 126, 8, 0), (8, .ifCond .ne 7, 11, 15), (11, .sipush (-10000), 14, 0), (14, .ireturn, 15, 0), (15, .iload_n 2, 16, 0), (16, .tableswitch 124 0 6 #[44, 54, 64, 74, 92, 102, 112], 60, 0), (60, .aload_n 0, 61, 0), (61, .getfield 22, 64, 0), (64, .getfield 129, 67, 0), (67, .iload_n 1, 68, 0), (68, .iaload, 69, 0), (69, .ireturn, 70, 0), (70, .aload_n 0, 71, 0)]), (98, [(71, .getfield 22, 74, 0), (74, .getfield 133, 77, 0), (77, .iload_n 1, 78, 0), (78, .iaload, 79, 0), (79, .ireturn, 80, 0), (80, .aload_n 0, 81, 0), (81, .getfield 22, 84, 0), (84, .getfield 136, 87, 0), (87, .iload_n 1, 88, 0), (88, .iaload, 89, 0), (89, .ireturn, 90, 0), (90, .aload_n 0, 91, 0), (91, .getfield 22, 94, 0), (94, .getfield 139, 97, 0), (97, .iload_n 1, 98, 0), (98, .baload, 99, 0)]), (126, [(99, .ifCond .eq 7, 102, 106), (102, .iconst 1, 103, 0), (103, .goto 4, 106, 107), (106, .iconst 0, 107, 0), (107, .ireturn, 108, 0), (108, .aload_n 0, 109, 0), (109, .getfield 22, 112, 0), (112, .getfield 143, 115, 0), (115, .iload_n 1, 116, 0), (116, .iaload, 117, 0), (117, .ireturn, 118, 0), (118, .aload_n 0, 119, 0), (119, .getfield 22, 122, 0), (122, .getfield 146, 125, 0), (125, .iload_n 1, 126, 0), (126, .iaload, 127, 0)]), (143, [(127, .ireturn, 128, 0), (128, .aload_n 0, 129, 0), (129, .getfield 22, 132, 0), (132, .getfield 105, 135, 0), (135, .iload_n 1, 136, 0), (136, .ishr, 137, 0), (137, .iconst 1, 138, 0), (138, .iand, 139, 0), (139, .ireturn, 140, 0), (140, .sipush (-10000), 143, 0), (143, .ireturn, 144, 0)])])
theorem ok_X9_told : ev_ok mi_X9_told := ev_ok_of (by decide +kernel)
theorem pf_X9_told : plainName mi_X9_told.1.cls = true ∨ plainFor mi_X9_told.1 = true := Or.inl pn_X9
def mi_X9_stem : MI := (yX9_stem, prog_1_method_10_code, 4, (some .int), 2, 49, 9, [(33, [(0, .aload_n 0, 1, 0), (1, .getfield 22, 4, 0), (4, .iload_n 1, 5, 0), (5, .invokevirtual 126, 8, 0), (8, .ifCond .eq 14, 11, 22), (11, .iload_n 2, 12, 0), (12, .bipush (-100), 14, 0), (14, .bipush 100, 16, 0), (16, .invokestatic 75, 19, 0), (19, .ifCond .ne 7, 22, 26), (22, .sipush (-10000), 25, 0), (25, .ireturn, 26, 0), (26, .aload_n 0, 27, 0), (27, .getfield 22, 30, 0), (30, .getfield 139, 33, 0), (33, .iload_n 1, 34, 0)]), (65, [(34, .baload, 35, 0), (35, .ifCond .eq 7, 38, 42), (38, .sipush (-10002), 41, 0), (41, .ireturn, 42, 0), (42, .aload_n 0, 43, 0), (43, .getfield 29, 46, 0), (46, .aload_n 0, 47, 0), (47, .getfield 10, 50, 0), (50, .aload_n 0, 51, 0), (51, .getfield 22, 54, 0), (54, .invokevirtual 79, 57, 0), (57, .aload_n 0, 58, 0), (58, .getfield 22, 61, 0), (61, .getfield 143, 64, 0), (64, .iload_n 1, 65, 0), (65, .iaload, 66, 0)]), (78, [(66, .istore_n 3, 67, 0), (67, .aload_n 0, 68, 0), (68, .getfield 22, 71, 0), (71, .getfield 143, 74, 0), (74, .iload_n 1, 75, 0), (75, .iload_n 2, 76, 0), (76, .iastore, 77, 0), (77, .iload_n 3, 78, 0), (78, .ireturn, 79, 0)])])
theorem ok_X9_stem : ev_ok mi_X9_stem := ev_ok_of (by decide +kernel)
theorem pf_X9_stem : plainName mi_X9_stem.1.cls = true ∨ plainFor mi_X9_stem.1 = true := Or.inl pn_X9
def mi_X9_crack : MI := (yX9_crack, prog_1_method_11_code, 4, (some .int), 2, 49, 9, [(33, [(0, .aload_n 0, 1, 0), (1, .getfield 22, 4, 0), (4, .iload_n 1, 5, 0), (5, .invokevirtual 126, 8, 0), (8, .ifCond .eq 16, 11, 24), (11, .iload_n 2, 12, 0), (12, .sipush (-200), 15, 0), (15, .sipush 200, 18, 0), (18, .invokestatic 75, 21, 0), (21, .ifCond .ne 7, 24, 28), (24, .sipush (-10000), 27, 0), (27, .ireturn, 28, 0), (28, .aload_n 0, 29, 0), (29, .getfield 29, 32, 0), (32, .aload_n 0, 33, 0), (33, .getfield 10, 36, 0)]), (63, [(36, .aload_n 0, 37, 0), (37, .getfield 22, 40, 0), (40, .invokevirtual 79, 43, 0), (43, .aload_n 0, 44, 0), (44, .getfield 22, 47, 0), (47, .getfield 146, 50, 0), (50, .iload_n 1, 51, 0), (51, .iaload, 52, 0), (52, .istore_n 3, 53, 0), (53, .aload_n 0, 54, 0), (54, .getfield 22, 57, 0), (57, .getfield 146, 60, 0), (60, .iload_n 1, 61, 0), (61, .iload_n 2, 62, 0), (62, .iastore, 63, 0), (63, .iload_n 3, 64, 0)]), (64, [(64, .ireturn, 65, 0)])])
theorem ok_X9_crack : ev_ok mi_X9_crack := ev_ok_of (by decide +kernel)
theorem pf_X9_crack : plainName mi_X9_crack.1.cls = true ∨ plainFor mi_X9_crack.1 = true := Or.inl pn_X9
def mi_X9_leak : MI := (yX9_leak, prog_1_method_12_code, 4, (some .int), 2, 49, 9, [(29, [(0, .aload_n 0, 1, 0), (1, .getfield 22, 4, 0), (4, .iload_n 1, 5, 0), (5, .invokevirtual 126, 8, 0), (8, .ifCond .ne 5, 11, 13), (11, .iconst (-1), 12, 0), (12, .ireturn, 13, 0), (13, .aload_n 0, 14, 0), (14, .getfield 29, 17, 0), (17, .aload_n 0, 18, 0), (18, .getfield 10, 21, 0), (21, .aload_n 0, 22, 0), (22, .getfield 22, 25, 0), (25, .invokevirtual 79, 28, 0), (28, .aload_n 0, 29, 0), (29, .getfield 22, 32, 0)]), (57, [(32, .getfield 105, 35, 0), (35, .iload_n 1, 36, 0), (36, .ishr, 37, 0), (37, .iconst 1, 38, 0), (38, .iand, 39, 0), (39, .istore_n 3, 40, 0), (40, .aload_n 0, 41, 0), (41, .getfield 22, 44, 0), (44, .iload_n 2, 45, 0), (45, .ifCond .eq 17, 48, 62), (48, .aload_n 0, 49, 0), (49, .getfield 22, 52, 0), (52, .getfield 105, 55, 0), (55, .iconst 1, 56, 0), (56, .iload_n 1, 57, 0), (57, .ishl, 58, 0)]), (79, [(58, .ior, 59, 0), (59, .goto 16, 62, 75), (62, .aload_n 0, 63, 0), (63, .getfield 22, 66, 0), (66, .getfield 105, 69, 0), (69, .iconst 1, 70, 0), (70, .iload_n 1, 71, 0), (71, .ishl, 72, 0), (72, .iconst (-1), 73, 0), (73, .ixor, 74, 0), (74, .iand, 75, 0), (75, .putfield 105, 78, 0), (78, .iload_n 3, 79, 0), (79, .ireturn, 80, 0)])])
theorem ok_X9_leak : ev_ok mi_X9_leak := ev_ok_of (by decide +kernel)
theorem pf_X9_leak : plainName mi_X9_leak.1.cls = true ∨ plainFor mi_X9_leak.1 = true := Or.inl pn_X9
def mi_X9_pitch : MI := (yX9_pitch, prog_1_method_13_code, 3, (some .int), 3, 66, 9, [(33, [(0, .aload_n 0, 1, 0), (1, .getfield 22, 4, 0), (4, .iload_n 1, 5, 0), (5, .invokevirtual 126, 8, 0), (8, .ifCond .eq 14, 11, 22), (11, .iload_n 2, 12, 0), (12, .iconst 0, 13, 0), (13, .sipush 200, 16, 0), (16, .invokestatic 75, 19, 0), (19, .ifCond .ne 7, 22, 26), (22, .sipush (-10000), 25, 0), (25, .ireturn, 26, 0), (26, .aload_n 0, 27, 0), (27, .getfield 22, 30, 0), (30, .getfield 129, 33, 0), (33, .iload_n 1, 34, 0)]), (45, [(34, .iaload, 35, 0), (35, .aload_n 0, 36, 0), (36, .getfield 22, 39, 0), (39, .iload_n 1, 40, 0), (40, .iload_n 2, 41, 0), (41, .invokevirtual 149, 44, 0), (44, .iadd, 45, 0), (45, .ireturn, 46, 0)])])
theorem ok_X9_pitch : ev_ok mi_X9_pitch := ev_ok_of (by decide +kernel)
theorem pf_X9_pitch : plainName mi_X9_pitch.1.cls = true ∨ plainFor mi_X9_pitch.1 = true := Or.inl pn_X9
def mi_X9_holds : MI := (yX9_holds, prog_1_method_14_code, 5, (some .int), 4, 89, 9, [(28, [(0, .aload_n 0, 1, 0), (1, .getfield 22, 4, 0), (4, .iload_n 1, 5, 0), (5, .invokevirtual 126, 8, 0), (8, .ifCond .eq 14, 11, 22), (11, .iload_n 2, 12, 0), (12, .iconst 0, 13, 0), (13, .sipush 400, 16, 0), (16, .invokestatic 75, 19, 0), (19, .ifCond .ne 5, 22, 24), (22, .iconst (-1), 23, 0), (23, .ireturn, 24, 0), (24, .bipush (-4), 26, 0), (26, .istore_n 3, 27, 0), (27, .aload_n 0, 28, 0), (28, .getfield 10, 31, 0)]), (64, [(31, .getfield 96, 34, 0), (34, .istore 4, 36, 0), (36, .iload 4, 38, 0), (38, .ifCond .lt 26, 41, 64), (41, .aload_n 0, 42, 0), (42, .getfield 22, 45, 0), (45, .iload_n 1, 46, 0), (46, .iload 4, 48, 0), (48, .iload_n 2, 49, 0), (49, .invokevirtual 152, 52, 0), (52, .ifCond .eq 12, 55, 64), (55, .iload 4, 57, 0), (57, .istore_n 3, 58, 0), (58, .iinc 4 (-1), 61, 0), (61, .goto (-25), 64, 36), (64, .iload_n 3, 65, 0)]), (65, [(65, .ireturn, 66, 0)])])
theorem ok_X9_holds : ev_ok mi_X9_holds := ev_ok_of (by decide +kernel)
theorem pf_X9_holds : plainName mi_X9_holds.1.cls = true ∨ plainFor mi_X9_holds.1 = true := Or.inl pn_X9
def mi_X9_tuneAll : MI := (yX9_tuneAll, prog_1_method_15_code, 2, (some .int), 4, 89, 9, [(29, [(0, .iload_n 1, 1, 0), (1, .iconst 0, 2, 0), (2, .sipush 200, 5, 0), (5, .invokestatic 75, 8, 0), (8, .ifCond .ne 5, 11, 13), (11, .iconst (-1), 12, 0), (12, .ireturn, 13, 0), (13, .aload_n 0, 14, 0), (14, .getfield 29, 17, 0), (17, .aload_n 0, 18, 0), (18, .getfield 10, 21, 0), (21, .aload_n 0, 22, 0), (22, .getfield 22, 25, 0), (25, .invokevirtual 79, 28, 0), (28, .aload_n 0, 29, 0), (29, .getfield 22, 32, 0)]), (52, [(32, .iload_n 1, 33, 0), (33, .invokevirtual 155, 36, 0), (36, .aload_n 0, 37, 0), (37, .getfield 22, 40, 0), (40, .getfield 158, 43, 0), (43, .aload_n 0, 44, 0), (44, .getfield 22, 47, 0), (47, .iload_n 1, 48, 0), (48, .invokevirtual 161, 51, 0), (51, .isub, 52, 0), (52, .ireturn, 53, 0)])])
theorem ok_X9_tuneAll : ev_ok mi_X9_tuneAll := ev_ok_of (by decide +kernel)
theorem pf_X9_tuneAll : plainName mi_X9_tuneAll.1.cls = true ∨ plainFor mi_X9_tuneAll.1 = true := Or.inl pn_X9
def mi_X9_agree : MI := (yX9_agree, prog_1_method_16_code, 6, (some .int), 4, 90, 9, [(28, [(0, .iload_n 1, 1, 0), (1, .iconst 0, 2, 0), (2, .iconst 2, 3, 0), (3, .invokestatic 75, 6, 0), (6, .ifCond .ne 5, 9, 11), (9, .iconst (-1), 10, 0), (10, .ireturn, 11, 0), (11, .aload_n 0, 12, 0), (12, .getfield 22, 15, 0), (15, .getfield 158, 18, 0), (18, .ifCond .ne 6, 21, 24), (21, .bipush (-4), 23, 0), (23, .ireturn, 24, 0), (24, .aload_n 0, 25, 0), (25, .getfield 10, 28, 0), (28, .getfield 96, 31, 0)]), (59, [(31, .istore_n 2, 32, 0), (32, .aload_n 0, 33, 0), (33, .getfield 22, 36, 0), (36, .aload_n 0, 37, 0), (37, .getfield 22, 40, 0), (40, .invokevirtual 165, 43, 0), (43, .iload_n 2, 44, 0), (44, .invokevirtual 115, 47, 0), (47, .istore_n 3, 48, 0), (48, .aload_n 0, 49, 0), (49, .getfield 10, 52, 0), (52, .getfield 96, 55, 0), (55, .iconst 1, 56, 0), (56, .isub, 57, 0), (57, .istore 4, 59, 0), (59, .iload 4, 61, 0)]), (93, [(61, .ifCond .lt 39, 64, 100), (64, .aload_n 0, 65, 0), (65, .getfield 22, 68, 0), (68, .aload_n 0, 69, 0), (69, .getfield 22, 72, 0), (72, .invokevirtual 165, 75, 0), (75, .iload 4, 77, 0), (77, .invokevirtual 115, 80, 0), (80, .istore 5, 82, 0), (82, .iload 5, 84, 0), (84, .iload_n 3, 85, 0), (85, .if_icmp .ge 9, 88, 94), (88, .iload 5, 90, 0), (90, .istore_n 3, 91, 0), (91, .iload 4, 93, 0), (93, .istore_n 2, 94, 0)]), (123, [(94, .iinc 4 (-1), 97, 0), (97, .goto (-38), 100, 59), (100, .iload_n 1, 101, 0), (101, .ifCond .ne 5, 104, 106), (104, .iload_n 2, 105, 0), (105, .ireturn, 106, 0), (106, .iload_n 1, 107, 0), (107, .iconst 1, 108, 0), (108, .if_icmp .ne 7, 111, 115), (111, .iload_n 3, 112, 0), (112, .goto 11, 115, 123), (115, .aload_n 0, 116, 0), (116, .getfield 22, 119, 0), (119, .iload_n 2, 120, 0), (120, .invokevirtual 161, 123, 0), (123, .ireturn, 124, 0)])])
theorem ok_X9_agree : ev_ok mi_X9_agree := ev_ok_of (by decide +kernel)
theorem pf_X9_agree : plainName mi_X9_agree.1.cls = true ∨ plainFor mi_X9_agree.1 = true := Or.inl pn_X9
def mi_X9_feed : MI := (yX9_feed, prog_1_method_17_code, 3, (some .int), 1, 23, 9, [(23, [(0, .aload_n 0, 1, 0), (1, .getfield 36, 4, 0), (4, .lload_n 1, 5, 0), (5, .invokevirtual 169, 8, 0), (8, .ifCond .eq 13, 11, 21), (11, .aload_n 0, 12, 0), (12, .getfield 36, 15, 0), (15, .getfield 173, 18, 0), (18, .goto 5, 21, 23), (21, .bipush (-3), 23, 0), (23, .ireturn, 24, 0)])])
theorem ok_X9_feed : ev_ok mi_X9_feed := ev_ok_of (by decide +kernel)
theorem pf_X9_feed : plainName mi_X9_feed.1.cls = true ∨ plainFor mi_X9_feed.1 = true := Or.inl pn_X9
def mi_X9_end : MI := (yX9_end, prog_1_method_18_code, 3, (some .int), 1, 22, 9, [(29, [(0, .iload_n 1, 1, 0), (1, .iconst 0, 2, 0), (2, .aload_n 0, 3, 0), (3, .getfield 36, 6, 0), (6, .getfield 173, 9, 0), (9, .invokestatic 75, 12, 0), (12, .ifCond .ne 5, 15, 17), (15, .iconst (-1), 16, 0), (16, .ireturn, 17, 0), (17, .aload_n 0, 18, 0), (18, .getfield 36, 21, 0), (21, .getfield 173, 24, 0), (24, .istore_n 2, 25, 0), (25, .aload_n 0, 26, 0), (26, .getfield 36, 29, 0), (29, .iload_n 1, 30, 0)]), (34, [(30, .putfield 173, 33, 0), (33, .iload_n 2, 34, 0), (34, .ireturn, 35, 0)])])
theorem ok_X9_end : ev_ok mi_X9_end := ev_ok_of (by decide +kernel)
theorem pf_X9_end : plainName mi_X9_end.1.cls = true ∨ plainFor mi_X9_end.1 = true := Or.inl pn_X9
def mi_X9_tune : MI := (yX9_tune, prog_1_method_19_code, 1, (some .int), 5, 105, 9, [(31, [(0, .aload_n 0, 1, 0), (1, .getfield 43, 4, 0), (4, .getfield 176, 7, 0), (7, .bipush 6, 9, 0), (9, .if_icmp .lt 6, 12, 15), (12, .bipush (-3), 14, 0), (14, .ireturn, 15, 0), (15, .aload_n 0, 16, 0), (16, .getfield 36, 19, 0), (19, .invokevirtual 177, 22, 0), (22, .aload_n 0, 23, 0), (23, .getfield 36, 26, 0), (26, .iconst 0, 27, 0), (27, .putfield 173, 30, 0), (30, .aload_n 0, 31, 0), (31, .getfield 36, 34, 0)]), (66, [(34, .getfield 180, 37, 0), (37, .ifCond .eq 14, 40, 51), (40, .bipush (-10), 42, 0), (42, .aload_n 0, 43, 0), (43, .getfield 36, 46, 0), (46, .getfield 183, 49, 0), (49, .isub, 50, 0), (50, .ireturn, 51, 0), (51, .aload_n 0, 52, 0), (52, .getfield 43, 55, 0), (55, .aload_n 0, 56, 0), (56, .getfield 36, 59, 0), (59, .getfield 186, 62, 0), (62, .aload_n 0, 63, 0), (63, .getfield 36, 66, 0), (66, .getfield 189, 69, 0)]), (72, [(69, .invokevirtual 192, 72, 0), (72, .ireturn, 73, 0)])])
theorem ok_X9_tune : ev_ok mi_X9_tune := ev_ok_of (by decide +kernel)
theorem pf_X9_tune : plainName mi_X9_tune.1.cls = true ∨ plainFor mi_X9_tune.1 = true := Or.inl pn_X9
def mi_X9_fault : MI := (yX9_fault, prog_1_method_20_code, 1, (some .int), 0, 0, 9, [(7, [(0, .aload_n 0, 1, 0), (1, .getfield 36, 4, 0), (4, .getfield 180, 7, 0), (7, .ireturn, 8, 0)])])
theorem ok_X9_fault : ev_ok mi_X9_fault := ev_ok_of (by decide +kernel)
theorem pf_X9_fault : plainName mi_X9_fault.1.cls = true ∨ plainFor mi_X9_fault.1 = true := Or.inl pn_X9
def mi_X9_tuneOf : MI := (yX9_tuneOf, prog_1_method_21_code, 3, (some .int), 2, 44, 9, [(54, [(0, .aload_n 0, 1, 0), (1, .getfield 43, 4, 0), (4, .iload_n 1, 5, 0), (5, .invokevirtual 195, 8, 0), (8, .ifCond .ne 5, 11, 13), (11, .iconst (-1), 12, 0), (12, .ireturn, 13, 0), (13, .iload_n 2, 14, 0), (14, .tableswitch 73 0 3 #[30, 40, 49, 61], 44, 0), (44, .aload_n 0, 45, 0), (45, .getfield 43, 48, 0), (48, .getfield 196, 51, 0), (51, .iload_n 1, 52, 0), (52, .iaload, 53, 0), (53, .ireturn, 54, 0), (54, .aload_n 0, 55, 0)]), (86, [(55, .getfield 43, 58, 0), (58, .iload_n 1, 59, 0), (59, .invokevirtual 198, 62, 0), (62, .ireturn, 63, 0), (63, .aload_n 0, 64, 0), (64, .getfield 43, 67, 0), (67, .iload_n 1, 68, 0), (68, .invokevirtual 201, 71, 0), (71, .invokestatic 204, 74, 0), (74, .ireturn, 75, 0), (75, .aload_n 0, 76, 0), (76, .getfield 43, 79, 0), (79, .iload_n 1, 80, 0), (80, .invokevirtual 201, 83, 0), (83, .invokestatic 207, 86, 0), (86, .ireturn, 87, 0)]), (112, [(87, .aload_n 0, 88, 0), (88, .iload_n 1, 89, 0), (89, .iload_n 2, 90, 0), (90, .bipush 10, 92, 0), (92, .invokevirtual 210, 95, 0), (95, .ifCond .eq 20, 98, 115), (98, .aload_n 0, 99, 0), (99, .getfield 43, 102, 0), (102, .getfield 213, 105, 0), (105, .iload_n 1, 106, 0), (106, .aaload, 107, 0), (107, .iload_n 2, 108, 0), (108, .bipush 10, 110, 0), (110, .isub, 111, 0), (111, .iaload, 112, 0), (112, .goto 4, 115, 116)]), (116, [(115, .iconst (-1), 116, 0), (116, .ireturn, 117, 0)])])
theorem ok_X9_tuneOf : ev_ok mi_X9_tuneOf := ev_ok_of (by decide +kernel)
theorem pf_X9_tuneOf : plainName mi_X9_tuneOf.1.cls = true ∨ plainFor mi_X9_tuneOf.1 = true := Or.inl pn_X9
def mi_X9_play : MI := (yX9_play, prog_1_method_22_code, 5, (some .int), 5, 116, 9, [(26, [(0, .aload_n 0, 1, 0), (1, .iload_n 1, 2, 0), (2, .iload_n 2, 3, 0), (3, .invokevirtual 217, 6, 0), (6, .istore_n 3, 7, 0), (7, .iload_n 3, 8, 0), (8, .ifCond .ge 9, 11, 17), (11, .iload_n 3, 12, 0), (12, .bipush (-100), 14, 0), (14, .if_icmp .ge 7, 17, 21), (17, .iconst 1, 18, 0), (18, .goto 4, 21, 22), (21, .iconst 0, 22, 0), (22, .istore 4, 24, 0), (24, .iload 4, 26, 0), (26, .ifCond .eq 29, 29, 55)]), (56, [(29, .aload_n 0, 30, 0), (30, .getfield 29, 33, 0), (33, .aload_n 0, 34, 0), (34, .getfield 10, 37, 0), (37, .aload_n 0, 38, 0), (38, .getfield 22, 41, 0), (41, .invokevirtual 79, 44, 0), (44, .aload_n 0, 45, 0), (45, .getfield 10, 48, 0), (48, .aload_n 0, 49, 0), (49, .getfield 16, 52, 0), (52, .invokevirtual 220, 55, 0), (55, .iload_n 3, 56, 0), (56, .ireturn, 57, 0)])])
theorem ok_X9_play : ev_ok mi_X9_play := ev_ok_of (by decide +kernel)
theorem pf_X9_play : plainName mi_X9_play.1.cls = true ∨ plainFor mi_X9_play.1 = true := Or.inl pn_X9
def mi_X9_would : MI := (yX9_would, prog_1_method_23_code, 3, (some .int), 5, 116, 9, [(6, [(0, .aload_n 0, 1, 0), (1, .iload_n 1, 2, 0), (2, .iload_n 2, 3, 0), (3, .invokevirtual 217, 6, 0), (6, .ireturn, 7, 0)])])
theorem ok_X9_would : ev_ok mi_X9_would := ev_ok_of (by decide +kernel)
theorem pf_X9_would : plainName mi_X9_would.1.cls = true ∨ plainFor mi_X9_would.1 = true := Or.inl pn_X9
def mi_X9_key : MI := (yX9_key, prog_1_method_24_code, 10, (some .int), 5, 116, 9, [(27, [(0, .aload_n 0, 1, 0), (1, .getfield 43, 4, 0), (4, .iload_n 1, 5, 0), (5, .invokevirtual 195, 8, 0), (8, .ifCond .eq 12, 11, 20), (11, .iload_n 2, 12, 0), (12, .iconst 0, 13, 0), (13, .iconst 2, 14, 0), (14, .invokestatic 75, 17, 0), (17, .ifCond .ne 6, 20, 23), (20, .bipush (-100), 22, 0), (22, .ireturn, 23, 0), (23, .iconst 0, 24, 0), (24, .istore_n 3, 25, 0), (25, .bipush (-104), 27, 0), (27, .istore 4, 29, 0)]), (58, [(29, .bipush (-104), 31, 0), (31, .istore 5, 33, 0), (33, .bipush (-11), 35, 0), (35, .istore 6, 37, 0), (37, .iload 6, 39, 0), (39, .bipush 11, 41, 0), (41, .if_icmp .gt 104, 44, 145), (44, .aload_n 0, 45, 0), (45, .iload_n 1, 46, 0), (46, .iload 6, 48, 0), (48, .invokevirtual 217, 51, 0), (51, .istore 7, 53, 0), (53, .iload_n 3, 54, 0), (54, .iload 7, 56, 0), (56, .bipush (-2), 58, 0), (58, .if_icmp .ne 7, 61, 65)]), (89, [(61, .iconst 0, 62, 0), (62, .goto 4, 65, 66), (65, .iconst 1, 66, 0), (66, .iadd, 67, 0), (67, .istore_n 3, 68, 0), (68, .iload 4, 70, 0), (70, .bipush (-104), 72, 0), (72, .if_icmp .ne 7, 75, 79), (75, .iconst 1, 76, 0), (76, .goto 4, 79, 80), (79, .iconst 0, 80, 0), (80, .istore 8, 82, 0), (82, .iload 7, 84, 0), (84, .iload 5, 86, 0), (86, .if_icmp .ne 20, 89, 106), (89, .iload 6, 91, 0)]), (126, [(91, .invokestatic 224, 94, 0), (94, .iload 4, 96, 0), (96, .invokestatic 224, 99, 0), (99, .if_icmp .ge 7, 102, 106), (102, .iconst 1, 103, 0), (103, .goto 4, 106, 107), (106, .iconst 0, 107, 0), (107, .istore 9, 109, 0), (109, .iload 7, 111, 0), (111, .ifCond .lt 28, 114, 139), (114, .iload 8, 116, 0), (116, .ifCond .ne 15, 119, 131), (119, .iload 7, 121, 0), (121, .iload 5, 123, 0), (123, .if_icmp .lt 8, 126, 131), (126, .iload 9, 128, 0)]), (158, [(128, .ifCond .eq 11, 131, 139), (131, .iload 6, 133, 0), (133, .istore 4, 135, 0), (135, .iload 7, 137, 0), (137, .istore 5, 139, 0), (139, .iinc 6 1, 142, 0), (142, .goto (-105), 145, 37), (145, .iload_n 2, 146, 0), (146, .iconst 2, 147, 0), (147, .if_icmp .ne 5, 150, 152), (150, .iload_n 3, 151, 0), (151, .ireturn, 152, 0), (152, .iload_n 2, 153, 0), (153, .ifCond .ne 8, 156, 161), (156, .iload 4, 158, 0), (158, .goto 5, 161, 163)]), (163, [(161, .iload 5, 163, 0), (163, .ireturn, 164, 0)])])
theorem ok_X9_key : ev_ok mi_X9_key := ev_ok_of (by decide +kernel)
theorem pf_X9_key : plainName mi_X9_key.1.cls = true ∨ plainFor mi_X9_key.1 = true := Or.inl pn_X9
def mi_X9_set : MI := (yX9_set, prog_1_method_25_code, 7, (some .int), 6, 148, 9, [(28, [(0, .iload 5, 2, 0), (2, .iconst 0, 3, 0), (3, .iconst 2, 4, 0), (4, .invokestatic 75, 7, 0), (7, .ifCond .ne 27, 10, 34), (10, .aload_n 0, 11, 0), (11, .iload_n 1, 12, 0), (12, .iload 5, 14, 0), (14, .bipush 10, 16, 0), (16, .invokevirtual 210, 19, 0), (19, .ifCond .ne 15, 22, 34), (22, .aload_n 0, 23, 0), (23, .iload_n 1, 24, 0), (24, .iload 5, 26, 0), (26, .bipush 40, 28, 0), (28, .invokevirtual 210, 31, 0)]), (64, [(31, .ifCond .eq 7, 34, 38), (34, .iconst 1, 35, 0), (35, .goto 4, 38, 39), (38, .iconst 0, 39, 0), (39, .istore 6, 41, 0), (41, .aload_n 0, 42, 0), (42, .getfield 43, 45, 0), (45, .iload_n 1, 46, 0), (46, .invokevirtual 195, 49, 0), (49, .ifCond .eq 15, 52, 64), (52, .iload_n 2, 53, 0), (53, .invokestatic 227, 56, 0), (56, .ifCond .eq 8, 59, 64), (59, .iload 6, 61, 0), (61, .ifCond .ne 5, 64, 66), (64, .iconst (-1), 65, 0)]), (94, [(65, .ireturn, 66, 0), (66, .iload_n 3, 67, 0), (67, .iconst 0, 68, 0), (68, .sipush 400, 71, 0), (71, .invokestatic 75, 74, 0), (74, .ifCond .eq 14, 77, 88), (77, .iload 4, 79, 0), (79, .iconst 0, 80, 0), (80, .bipush 8, 82, 0), (82, .invokestatic 75, 85, 0), (85, .ifCond .ne 5, 88, 90), (88, .iconst (-1), 89, 0), (89, .ireturn, 90, 0), (90, .aload_n 0, 91, 0), (91, .getfield 43, 94, 0), (94, .iload_n 1, 95, 0)]), (122, [(95, .iload_n 2, 96, 0), (96, .aload_n 0, 97, 0), (97, .getfield 22, 100, 0), (100, .getfield 158, 103, 0), (103, .invokevirtual 230, 106, 0), (106, .ifCond .ne 6, 109, 112), (109, .bipush (-2), 111, 0), (111, .ireturn, 112, 0), (112, .aload_n 0, 113, 0), (113, .getfield 50, 116, 0), (116, .iload_n 1, 117, 0), (117, .iload_n 2, 118, 0), (118, .iload_n 3, 119, 0), (119, .iload 4, 121, 0), (121, .aload_n 0, 122, 0), (122, .getfield 29, 125, 0)]), (156, [(125, .getfield 233, 128, 0), (128, .invokevirtual 236, 131, 0), (131, .ifCond .ne 53, 134, 184), (134, .aload_n 0, 135, 0), (135, .getfield 50, 138, 0), (138, .aload_n 0, 139, 0), (139, .getfield 43, 142, 0), (142, .iload_n 1, 143, 0), (143, .iload_n 2, 144, 0), (144, .invokevirtual 240, 147, 0), (147, .aload_n 0, 148, 0), (148, .getfield 50, 151, 0), (151, .aload_n 0, 152, 0), (152, .getfield 10, 155, 0), (155, .aload_n 0, 156, 0), (156, .getfield 22, 159, 0)]), (188, [(159, .iload_n 3, 160, 0), (160, .iload 4, 162, 0), (162, .invokevirtual 244, 165, 0), (165, .aload_n 0, 166, 0), (166, .getfield 50, 169, 0), (169, .iload_n 1, 170, 0), (170, .iload_n 2, 171, 0), (171, .iload_n 3, 172, 0), (172, .iload 4, 174, 0), (174, .aload_n 0, 175, 0), (175, .getfield 29, 178, 0), (178, .getfield 233, 181, 0), (181, .invokevirtual 248, 184, 0), (184, .aload_n 0, 185, 0), (185, .getfield 50, 188, 0), (188, .iload 5, 190, 0)]), (193, [(190, .invokevirtual 252, 193, 0), (193, .ireturn, 194, 0)])])
theorem ok_X9_set : ev_ok mi_X9_set := ev_ok_of (by decide +kernel)
theorem pf_X9_set : plainName mi_X9_set.1.cls = true ∨ plainFor mi_X9_set.1 = true := Or.inl pn_X9
def mi_X9_blame : MI := (yX9_blame, prog_1_method_26_code, 10, (some .int), 5, 123, 9, [(32, [(0, .iload 7, 2, 0), (2, .iconst 0, 3, 0), (3, .iconst 2, 4, 0), (4, .invokestatic 75, 7, 0), (7, .ifCond .ne 25, 10, 32), (10, .iload 7, 12, 0), (12, .bipush 20, 14, 0), (14, .if_icmp .lt 22, 17, 36), (17, .aload_n 0, 18, 0), (18, .getfield 22, 21, 0), (21, .iload 7, 23, 0), (23, .bipush 20, 25, 0), (25, .isub, 26, 0), (26, .invokevirtual 126, 29, 0), (29, .ifCond .eq 7, 32, 36), (32, .iconst 1, 33, 0)]), (63, [(33, .goto 4, 36, 37), (36, .iconst 0, 37, 0), (37, .istore 8, 39, 0), (39, .aload_n 0, 40, 0), (40, .getfield 43, 43, 0), (43, .iload_n 1, 44, 0), (44, .invokevirtual 195, 47, 0), (47, .ifCond .eq 30, 50, 77), (50, .iload_n 2, 51, 0), (51, .invokestatic 227, 54, 0), (54, .ifCond .eq 23, 57, 77), (57, .iload_n 3, 58, 0), (58, .iconst 0, 59, 0), (59, .aload_n 0, 60, 0), (60, .getfield 10, 63, 0), (63, .getfield 96, 66, 0)]), (102, [(66, .invokestatic 75, 69, 0), (69, .ifCond .eq 8, 72, 77), (72, .iload 8, 74, 0), (74, .ifCond .ne 7, 77, 81), (77, .sipush (-1000), 80, 0), (80, .ireturn, 81, 0), (81, .aload_n 0, 82, 0), (82, .getfield 71, 85, 0), (85, .iload 4, 87, 0), (87, .invokevirtual 255, 90, 0), (90, .ifCond .eq 15, 93, 105), (93, .aload_n 0, 94, 0), (94, .getfield 71, 97, 0), (97, .iload 5, 99, 0), (99, .invokevirtual 256, 102, 0), (102, .ifCond .ne 7, 105, 109)]), (136, [(105, .sipush (-1000), 108, 0), (108, .ireturn, 109, 0), (109, .aload_n 0, 110, 0), (110, .getfield 43, 113, 0), (113, .iload_n 1, 114, 0), (114, .iload_n 2, 115, 0), (115, .aload_n 0, 116, 0), (116, .getfield 22, 119, 0), (119, .getfield 158, 122, 0), (122, .invokevirtual 230, 125, 0), (125, .ifCond .ne 7, 128, 132), (128, .sipush (-1002), 131, 0), (131, .ireturn, 132, 0), (132, .aload_n 0, 133, 0), (133, .getfield 71, 136, 0), (136, .iload 4, 138, 0)]), (170, [(138, .iload 5, 140, 0), (140, .invokevirtual 259, 143, 0), (143, .istore 9, 145, 0), (145, .iload 9, 147, 0), (147, .ifCond .ne 15, 150, 162), (150, .aload_n 0, 151, 0), (151, .iload_n 1, 152, 0), (152, .iload_n 2, 153, 0), (153, .iload 4, 155, 0), (155, .iload 6, 157, 0), (157, .invokevirtual 262, 160, 0), (160, .istore 9, 162, 0), (162, .iload 9, 164, 0), (164, .ifCond .eq 10, 167, 174), (167, .sipush (-1010), 170, 0), (170, .iload 9, 172, 0)]), (202, [(172, .isub, 173, 0), (173, .ireturn, 174, 0), (174, .aload_n 0, 175, 0), (175, .getfield 57, 178, 0), (178, .aload_n 0, 179, 0), (179, .getfield 10, 182, 0), (182, .aload_n 0, 183, 0), (183, .getfield 22, 186, 0), (186, .iload_n 3, 187, 0), (187, .invokevirtual 266, 190, 0), (190, .ifCond .eq 15, 193, 205), (193, .aload_n 0, 194, 0), (194, .getfield 57, 197, 0), (197, .iload 7, 199, 0), (199, .invokevirtual 270, 202, 0), (202, .goto 6, 205, 208)]), (208, [(205, .sipush (-1004), 208, 0), (208, .ireturn, 209, 0)])])
theorem ok_X9_blame : ev_ok mi_X9_blame := ev_ok_of (by decide +kernel)
theorem pf_X9_blame : plainName mi_X9_blame.1.cls = true ∨ plainFor mi_X9_blame.1 = true := Or.inl pn_X9
def mi_X9_boat : MI := (yX9_boat, prog_1_method_27_code, 3, (some .int), 2, 42, 9, [(28, [(0, .iload_n 1, 1, 0), (1, .invokestatic 271, 4, 0), (4, .ifCond .eq 13, 7, 17), (7, .iload_n 2, 8, 0), (8, .iconst 0, 9, 0), (9, .bipush 99, 11, 0), (11, .invokestatic 75, 14, 0), (14, .ifCond .ne 5, 17, 19), (17, .iconst (-1), 18, 0), (18, .ireturn, 19, 0), (19, .aload_n 0, 20, 0), (20, .getfield 64, 23, 0), (23, .iload_n 1, 24, 0), (24, .iload_n 2, 25, 0), (25, .invokevirtual 274, 28, 0), (28, .ireturn, 29, 0)])])
theorem ok_X9_boat : ev_ok mi_X9_boat := ev_ok_of (by decide +kernel)
theorem pf_X9_boat : plainName mi_X9_boat.1.cls = true ∨ plainFor mi_X9_boat.1 = true := Or.inl pn_X9
def mi_X9_bend : MI := (yX9_bend, prog_1_method_28_code, 3, (some .int), 2, 42, 9, [(30, [(0, .iload_n 1, 1, 0), (1, .invokestatic 271, 4, 0), (4, .ifCond .eq 24, 7, 28), (7, .iload_n 2, 8, 0), (8, .iconst 1, 9, 0), (9, .bipush 99, 11, 0), (11, .invokestatic 75, 14, 0), (14, .ifCond .eq 14, 17, 28), (17, .aload_n 0, 18, 0), (18, .getfield 64, 21, 0), (21, .iload_n 1, 22, 0), (22, .invokevirtual 277, 25, 0), (25, .ifCond .eq 5, 28, 30), (28, .iconst (-1), 29, 0), (29, .ireturn, 30, 0), (30, .aload_n 0, 31, 0)]), (39, [(31, .getfield 64, 34, 0), (34, .iload_n 1, 35, 0), (35, .iload_n 2, 36, 0), (36, .invokevirtual 280, 39, 0), (39, .ireturn, 40, 0)])])
theorem ok_X9_bend : ev_ok mi_X9_bend := ev_ok_of (by decide +kernel)
theorem pf_X9_bend : plainName mi_X9_bend.1.cls = true ∨ plainFor mi_X9_bend.1 = true := Or.inl pn_X9
def mi_X9_speed : MI := (yX9_speed, prog_1_method_29_code, 3, (some .int), 1, 22, 9, [(28, [(0, .iload_n 1, 1, 0), (1, .iconst 1, 2, 0), (2, .bipush 99, 4, 0), (4, .invokestatic 75, 7, 0), (7, .ifCond .ne 5, 10, 12), (10, .iconst (-1), 11, 0), (11, .ireturn, 12, 0), (12, .aload_n 0, 13, 0), (13, .getfield 64, 16, 0), (16, .getfield 283, 19, 0), (19, .istore_n 2, 20, 0), (20, .aload_n 0, 21, 0), (21, .getfield 64, 24, 0), (24, .iload_n 1, 25, 0), (25, .putfield 283, 28, 0), (28, .iload_n 2, 29, 0)]), (29, [(29, .ireturn, 30, 0)])])
theorem ok_X9_speed : ev_ok mi_X9_speed := ev_ok_of (by decide +kernel)
theorem pf_X9_speed : plainName mi_X9_speed.1.cls = true ∨ plainFor mi_X9_speed.1 = true := Or.inl pn_X9
def mi_X9_far : MI := (yX9_far, prog_1_method_30_code, 3, (some .int), 2, 47, 9, [(27, [(0, .iload_n 1, 1, 0), (1, .invokestatic 271, 4, 0), (4, .ifCond .eq 22, 7, 26), (7, .iload_n 2, 8, 0), (8, .invokestatic 271, 11, 0), (11, .ifCond .eq 15, 14, 26), (14, .aload_n 0, 15, 0), (15, .getfield 64, 18, 0), (18, .iload_n 1, 19, 0), (19, .iload_n 2, 20, 0), (20, .invokevirtual 286, 23, 0), (23, .goto 4, 26, 27), (26, .iconst (-1), 27, 0), (27, .ireturn, 28, 0)])])
theorem ok_X9_far : ev_ok mi_X9_far := ev_ok_of (by decide +kernel)
theorem pf_X9_far : plainName mi_X9_far.1.cls = true ∨ plainFor mi_X9_far.1 = true := Or.inl pn_X9
def mi_X9_heard : MI := (yX9_heard, prog_1_method_31_code, 4, (some .int), 3, 69, 9, [(30, [(0, .aload_n 0, 1, 0), (1, .getfield 64, 4, 0), (4, .iload_n 1, 5, 0), (5, .invokevirtual 289, 8, 0), (8, .ifCond .eq 20, 11, 28), (11, .iload_n 2, 12, 0), (12, .iconst 0, 13, 0), (13, .bipush 99, 15, 0), (15, .invokestatic 75, 18, 0), (18, .ifCond .eq 10, 21, 28), (21, .iload_n 3, 22, 0), (22, .invokestatic 271, 25, 0), (25, .ifCond .ne 5, 28, 30), (28, .iconst (-1), 29, 0), (29, .ireturn, 30, 0), (30, .iload_n 2, 31, 0)]), (41, [(31, .aload_n 0, 32, 0), (32, .getfield 64, 35, 0), (35, .iload_n 1, 36, 0), (36, .iload_n 3, 37, 0), (37, .invokevirtual 292, 40, 0), (40, .iadd, 41, 0), (41, .ireturn, 42, 0)])])
theorem ok_X9_heard : ev_ok mi_X9_heard := ev_ok_of (by decide +kernel)
theorem pf_X9_heard : plainName mi_X9_heard.1.cls = true ∨ plainFor mi_X9_heard.1 = true := Or.inl pn_X9
def mi_X9_step : MI := (yX9_step, prog_1_method_32_code, 4, (some .int), 4, 93, 9, [(29, [(0, .aload_n 0, 1, 0), (1, .getfield 64, 4, 0), (4, .iload_n 1, 5, 0), (5, .invokevirtual 289, 8, 0), (8, .ifCond .eq 28, 11, 36), (11, .aload_n 0, 12, 0), (12, .getfield 64, 15, 0), (15, .iload_n 2, 16, 0), (16, .invokevirtual 289, 19, 0), (19, .ifCond .eq 17, 22, 36), (22, .iload_n 1, 23, 0), (23, .iload_n 2, 24, 0), (24, .if_icmp .eq 12, 27, 36), (27, .iload_n 3, 28, 0), (28, .iconst 0, 29, 0), (29, .iconst 3, 30, 0)]), (84, [(30, .invokestatic 75, 33, 0), (33, .ifCond .ne 5, 36, 38), (36, .iconst (-1), 37, 0), (37, .ireturn, 38, 0), (38, .aload_n 0, 39, 0), (39, .getfield 64, 42, 0), (42, .iload_n 1, 43, 0), (43, .iload_n 2, 44, 0), (44, .invokevirtual 295, 47, 0), (47, .iload_n 3, 48, 0), (48, .tableswitch 52 0 2 #[28, 36, 44], 76, 0), (76, .aload_n 0, 77, 0), (77, .getfield 64, 80, 0), (80, .getfield 299, 83, 0), (83, .ireturn, 84, 0), (84, .aload_n 0, 85, 0)]), (107, [(85, .getfield 64, 88, 0), (88, .getfield 302, 91, 0), (91, .ireturn, 92, 0), (92, .aload_n 0, 93, 0), (93, .getfield 64, 96, 0), (96, .getfield 305, 99, 0), (99, .ireturn, 100, 0), (100, .aload_n 0, 101, 0), (101, .getfield 64, 104, 0), (104, .getfield 308, 107, 0), (107, .ireturn, 108, 0)])])
theorem ok_X9_step : ev_ok mi_X9_step := ev_ok_of (by decide +kernel)
theorem pf_X9_step : plainName mi_X9_step.1.cls = true ∨ plainFor mi_X9_step.1 = true := Or.inl pn_X9
def mi_X9_undo : MI := (yX9_undo, prog_1_method_33_code, 1, (some .int), 2, 49, 9, [(30, [(0, .aload_n 0, 1, 0), (1, .getfield 29, 4, 0), (4, .aload_n 0, 5, 0), (5, .getfield 10, 8, 0), (8, .aload_n 0, 9, 0), (9, .getfield 22, 12, 0), (12, .invokevirtual 311, 15, 0), (15, .ifCond .eq 13, 18, 28), (18, .aload_n 0, 19, 0), (19, .getfield 29, 22, 0), (22, .getfield 315, 25, 0), (25, .goto 5, 28, 30), (28, .bipush (-4), 30, 0), (30, .ireturn, 31, 0)])])
theorem ok_X9_undo : ev_ok mi_X9_undo := ev_ok_of (by decide +kernel)
theorem pf_X9_undo : plainName mi_X9_undo.1.cls = true ∨ plainFor mi_X9_undo.1 = true := Or.inl pn_X9
def mi_X9_sheet : MI := (yX9_sheet, prog_1_method_34_code, 4, (some .int), 2, 46, 9, [(30, [(0, .aload_n 0, 1, 0), (1, .getfield 71, 4, 0), (4, .iload_n 1, 5, 0), (5, .invokevirtual 255, 8, 0), (8, .ifCond .eq 20, 11, 28), (11, .aload_n 0, 12, 0), (12, .getfield 71, 15, 0), (15, .iload_n 2, 16, 0), (16, .invokevirtual 256, 19, 0), (19, .ifCond .eq 9, 22, 28), (22, .iload_n 3, 23, 0), (23, .bipush 60, 25, 0), (25, .if_icmp .le 5, 28, 30), (28, .iconst (-1), 29, 0), (29, .ireturn, 30, 0), (30, .iload_n 3, 31, 0)]), (48, [(31, .ifCond .ge 6, 34, 37), (34, .bipush (-14), 36, 0), (36, .ireturn, 37, 0), (37, .aload_n 0, 38, 0), (38, .getfield 71, 41, 0), (41, .iload_n 1, 42, 0), (42, .iload_n 2, 43, 0), (43, .iload_n 3, 44, 0), (44, .invokevirtual 318, 47, 0), (47, .iconst 1, 48, 0), (48, .ireturn, 49, 0)])])
theorem ok_X9_sheet : ev_ok mi_X9_sheet := ev_ok_of (by decide +kernel)
theorem pf_X9_sheet : plainName mi_X9_sheet.1.cls = true ∨ plainFor mi_X9_sheet.1 = true := Or.inl pn_X9
def mi_X9_lay : MI := (yX9_lay, prog_1_method_35_code, 4, (some .int), 1, 23, 9, [(28, [(0, .aload_n 0, 1, 0), (1, .getfield 71, 4, 0), (4, .iload_n 1, 5, 0), (5, .invokevirtual 255, 8, 0), (8, .ifCond .ne 5, 11, 13), (11, .iconst (-1), 12, 0), (12, .ireturn, 13, 0), (13, .aload_n 0, 14, 0), (14, .getfield 71, 17, 0), (17, .iload_n 1, 18, 0), (18, .invokevirtual 322, 21, 0), (21, .ifCond .eq 6, 24, 27), (24, .bipush (-11), 26, 0), (26, .ireturn, 27, 0), (27, .aload_n 0, 28, 0), (28, .getfield 71, 31, 0)]), (53, [(31, .iload_n 1, 32, 0), (32, .iload_n 2, 33, 0), (33, .invokevirtual 325, 36, 0), (36, .ifCond .ne 6, 39, 42), (39, .bipush (-12), 41, 0), (41, .ireturn, 42, 0), (42, .aload_n 0, 43, 0), (43, .getfield 71, 46, 0), (46, .iload_n 1, 47, 0), (47, .iload_n 2, 48, 0), (48, .iload_n 3, 49, 0), (49, .invokevirtual 329, 52, 0), (52, .iconst 1, 53, 0), (53, .ireturn, 54, 0)])])
theorem ok_X9_lay : ev_ok mi_X9_lay := ev_ok_of (by decide +kernel)
theorem pf_X9_lay : plainName mi_X9_lay.1.cls = true ∨ plainFor mi_X9_lay.1 = true := Or.inl pn_X9
def mi_X9_scan : MI := (yX9_scan, prog_1_method_36_code, 9, (some .int), 3, 70, 9, [(33, [(0, .aload_n 0, 1, 0), (1, .getfield 71, 4, 0), (4, .iload_n 1, 5, 0), (5, .invokevirtual 255, 8, 0), (8, .ifCond .eq 25, 11, 33), (11, .aload_n 0, 12, 0), (12, .getfield 71, 15, 0), (15, .iload_n 2, 16, 0), (16, .invokevirtual 256, 19, 0), (19, .ifCond .eq 14, 22, 33), (22, .iload 4, 24, 0), (24, .iconst 0, 25, 0), (25, .bipush 12, 27, 0), (27, .invokestatic 75, 30, 0), (30, .ifCond .ne 5, 33, 35), (33, .iconst (-1), 34, 0)]), (61, [(34, .ireturn, 35, 0), (35, .aload_n 0, 36, 0), (36, .getfield 71, 39, 0), (39, .iload_n 1, 40, 0), (40, .iload_n 2, 41, 0), (41, .invokevirtual 259, 44, 0), (44, .istore 5, 46, 0), (46, .iload 5, 48, 0), (48, .ifCond .eq 9, 51, 57), (51, .bipush (-10), 53, 0), (53, .iload 5, 55, 0), (55, .isub, 56, 0), (56, .ireturn, 57, 0), (57, .aload_n 0, 58, 0), (58, .getfield 22, 61, 0), (61, .getfield 158, 64, 0)]), (91, [(64, .istore 6, 66, 0), (66, .iload 6, 68, 0), (68, .istore 7, 70, 0), (70, .iconst 0, 71, 0), (71, .istore 8, 73, 0), (73, .iload 8, 75, 0), (75, .iload 4, 77, 0), (77, .if_icmp .ge 27, 80, 104), (80, .iload 7, 82, 0), (82, .ifCond .lt 22, 85, 104), (85, .aload_n 0, 86, 0), (86, .iload_n 1, 87, 0), (87, .iload_n 3, 88, 0), (88, .iconst 4, 89, 0), (89, .iload 8, 91, 0), (91, .imul, 92, 0)]), (120, [(92, .iadd, 93, 0), (93, .invokevirtual 332, 96, 0), (96, .istore 7, 98, 0), (98, .iinc 8 1, 101, 0), (101, .goto (-28), 104, 73), (104, .iload 7, 106, 0), (106, .ifCond .ge 12, 109, 118), (109, .aload_n 0, 110, 0), (110, .getfield 22, 113, 0), (113, .iload 6, 115, 0), (115, .putfield 158, 118, 0), (118, .iload 7, 120, 0), (120, .ireturn, 121, 0)])])
theorem ok_X9_scan : ev_ok mi_X9_scan := ev_ok_of (by decide +kernel)
theorem pf_X9_scan : plainName mi_X9_scan.1.cls = true ∨ plainFor mi_X9_scan.1 = true := Or.inl pn_X9
def mi_X9_count : MI := (yX9_count, prog_1_method_37_code, 2, (some .int), 1, 22, 9, [(77, [(0, .iload_n 1, 1, 0), (1, .tableswitch 144 0 8 #[51, 59, 67, 75, 83, 94, 102, 110, 118], 52, 0), (52, .aload_n 0, 53, 0), (53, .getfield 22, 56, 0), (56, .getfield 158, 59, 0), (59, .ireturn, 60, 0), (60, .aload_n 0, 61, 0), (61, .getfield 43, 64, 0), (64, .getfield 176, 67, 0), (67, .ireturn, 68, 0), (68, .aload_n 0, 69, 0), (69, .getfield 64, 72, 0), (72, .getfield 335, 75, 0), (75, .ireturn, 76, 0), (76, .aload_n 0, 77, 0), (77, .getfield 64, 80, 0)]), (111, [(80, .getfield 338, 83, 0), (83, .ireturn, 84, 0), (84, .aload_n 0, 85, 0), (85, .getfield 22, 88, 0), (88, .getfield 105, 91, 0), (91, .invokestatic 341, 94, 0), (94, .ireturn, 95, 0), (95, .aload_n 0, 96, 0), (96, .getfield 22, 99, 0), (99, .invokevirtual 346, 102, 0), (102, .ireturn, 103, 0), (103, .aload_n 0, 104, 0), (104, .getfield 29, 107, 0), (107, .getfield 315, 110, 0), (110, .ireturn, 111, 0), (111, .aload_n 0, 112, 0)]), (144, [(112, .getfield 36, 115, 0), (115, .getfield 173, 118, 0), (118, .ireturn, 119, 0), (119, .aload_n 0, 120, 0), (120, .getfield 71, 123, 0), (123, .iconst 0, 124, 0), (124, .invokevirtual 322, 127, 0), (127, .ifCond .eq 8, 130, 135), (130, .bipush (-4), 132, 0), (132, .goto 12, 135, 144), (135, .aload_n 0, 136, 0), (136, .getfield 71, 139, 0), (139, .getfield 349, 142, 0), (142, .iconst 0, 143, 0), (143, .iaload, 144, 0), (144, .ireturn, 145, 0)]), (146, [(145, .iconst (-1), 146, 0), (146, .ireturn, 147, 0)])])
theorem ok_X9_count : ev_ok mi_X9_count := ev_ok_of (by decide +kernel)
theorem pf_X9_count : plainName mi_X9_count.1.cls = true ∨ plainFor mi_X9_count.1 = true := Or.inl pn_X9
def mi_X9_tryOut : MI := (yX9_tryOut, prog_1_method_38_code, 7, (some .int), 4, 90, 9, [(27, [(0, .aload_n 0, 1, 0), (1, .getfield 43, 4, 0), (4, .iload_n 1, 5, 0), (5, .invokevirtual 195, 8, 0), (8, .ifCond .eq 10, 11, 18), (11, .iload_n 2, 12, 0), (12, .invokestatic 227, 15, 0), (15, .ifCond .ne 5, 18, 20), (18, .iconst (-1), 19, 0), (19, .ireturn, 20, 0), (20, .aload_n 0, 21, 0), (21, .getfield 43, 24, 0), (24, .iload_n 1, 25, 0), (25, .iload_n 2, 26, 0), (26, .aload_n 0, 27, 0), (27, .getfield 22, 30, 0)]), (60, [(30, .getfield 158, 33, 0), (33, .invokevirtual 230, 36, 0), (36, .ifCond .ne 6, 39, 42), (39, .bipush (-2), 41, 0), (41, .ireturn, 42, 0), (42, .aload_n 0, 43, 0), (43, .getfield 16, 46, 0), (46, .aload_n 0, 47, 0), (47, .getfield 10, 50, 0), (50, .invokevirtual 220, 53, 0), (53, .iconst 0, 54, 0), (54, .istore_n 3, 55, 0), (55, .iconst 0, 56, 0), (56, .istore 4, 58, 0), (58, .iload 4, 60, 0), (60, .aload_n 0, 61, 0)]), (91, [(61, .getfield 43, 64, 0), (64, .getfield 196, 67, 0), (67, .iload_n 1, 68, 0), (68, .iaload, 69, 0), (69, .if_icmp .ge 88, 72, 157), (72, .aload_n 0, 73, 0), (73, .getfield 43, 76, 0), (76, .iload_n 1, 77, 0), (77, .iload 4, 79, 0), (79, .iload_n 2, 80, 0), (80, .invokevirtual 352, 83, 0), (83, .istore 5, 85, 0), (85, .aload_n 0, 86, 0), (86, .getfield 22, 89, 0), (89, .iload 5, 91, 0), (91, .aload_n 0, 92, 0)]), (123, [(92, .getfield 22, 95, 0), (95, .getfield 105, 98, 0), (98, .invokevirtual 108, 101, 0), (101, .istore 6, 103, 0), (103, .iload 6, 105, 0), (105, .aload_n 0, 106, 0), (106, .getfield 16, 109, 0), (109, .getfield 87, 112, 0), (112, .if_icmp .le 9, 115, 121), (115, .bipush (-100), 117, 0), (117, .iload 4, 119, 0), (119, .isub, 120, 0), (120, .ireturn, 121, 0), (121, .iload_n 3, 122, 0), (122, .aload_n 0, 123, 0), (123, .getfield 22, 126, 0)]), (158, [(126, .iload 5, 128, 0), (128, .aload_n 0, 129, 0), (129, .getfield 16, 132, 0), (132, .getfield 99, 135, 0), (135, .invokevirtual 115, 138, 0), (138, .invokestatic 356, 141, 0), (141, .istore_n 3, 142, 0), (142, .aload_n 0, 143, 0), (143, .getfield 16, 146, 0), (146, .iload 6, 148, 0), (148, .invokevirtual 118, 151, 0), (151, .iinc 4 1, 154, 0), (154, .goto (-96), 157, 58), (157, .iload_n 3, 158, 0), (158, .ireturn, 159, 0)])])
theorem ok_X9_tryOut : ev_ok mi_X9_tryOut := ev_ok_of (by decide +kernel)
theorem pf_X9_tryOut : plainName mi_X9_tryOut.1.cls = true ∨ plainFor mi_X9_tryOut.1 = true := Or.inl pn_X9
def mi_X9_takeHeard : MI := (yX9_takeHeard, prog_1_method_39_code, 8, (some .int), 1, 24, 9, [(29, [(0, .aload_n 0, 1, 0), (1, .getfield 57, 4, 0), (4, .invokevirtual 359, 7, 0), (7, .iconst 0, 8, 0), (8, .istore 5, 10, 0), (10, .iload 5, 12, 0), (12, .aload_n 0, 13, 0), (13, .getfield 43, 16, 0), (16, .getfield 196, 19, 0), (19, .iload_n 1, 20, 0), (20, .iaload, 21, 0), (21, .if_icmp .ge 78, 24, 99), (24, .aload_n 0, 25, 0), (25, .getfield 43, 28, 0), (28, .iload_n 1, 29, 0), (29, .iload 5, 31, 0)]), (63, [(31, .iload_n 2, 32, 0), (32, .invokevirtual 352, 35, 0), (35, .istore 6, 37, 0), (37, .sipush (-32768), 40, 0), (40, .istore 7, 42, 0), (42, .iload 6, 44, 0), (44, .ifCond .eq 38, 47, 82), (47, .aload_n 0, 48, 0), (48, .getfield 71, 51, 0), (51, .iload_n 3, 52, 0), (52, .iload 4, 54, 0), (54, .iload 5, 56, 0), (56, .iadd, 57, 0), (57, .invokevirtual 325, 60, 0), (60, .ifCond .ne 5, 63, 65), (63, .iconst 2, 64, 0)]), (90, [(64, .ireturn, 65, 0), (65, .aload_n 0, 66, 0), (66, .getfield 71, 69, 0), (69, .getfield 362, 72, 0), (72, .iload_n 3, 73, 0), (73, .aaload, 74, 0), (74, .iload 4, 76, 0), (76, .iload 5, 78, 0), (78, .iadd, 79, 0), (79, .iaload, 80, 0), (80, .istore 7, 82, 0), (82, .aload_n 0, 83, 0), (83, .getfield 57, 86, 0), (86, .iload 6, 88, 0), (88, .iload 7, 90, 0), (90, .invokevirtual 365, 93, 0)]), (100, [(93, .iinc 5 1, 96, 0), (96, .goto (-86), 99, 10), (99, .iconst 0, 100, 0), (100, .ireturn, 101, 0)])])
theorem ok_X9_takeHeard : ev_ok mi_X9_takeHeard := ev_ok_of (by decide +kernel)
theorem pf_X9_takeHeard : plainName mi_X9_takeHeard.1.cls = true ∨ plainFor mi_X9_takeHeard.1 = true := Or.inl pn_X9
def mi_X9_scanOne : MI := (yX9_scanOne, prog_1_method_40_code, 5, (some .int), 2, 46, 9, [(24, [(0, .iconst 0, 1, 0), (1, .istore_n 3, 2, 0), (2, .iload_n 3, 3, 0), (3, .iconst 4, 4, 0), (4, .if_icmp .ge 26, 7, 30), (7, .aload_n 0, 8, 0), (8, .getfield 71, 11, 0), (11, .iload_n 1, 12, 0), (12, .iload_n 2, 13, 0), (13, .iload_n 3, 14, 0), (14, .iadd, 15, 0), (15, .invokevirtual 325, 18, 0), (18, .ifCond .ne 6, 21, 24), (21, .bipush (-12), 23, 0), (23, .ireturn, 24, 0), (24, .iinc 3 1, 27, 0)]), (50, [(27, .goto (-25), 30, 2), (30, .aload_n 0, 31, 0), (31, .getfield 71, 34, 0), (34, .getfield 362, 37, 0), (37, .iload_n 1, 38, 0), (38, .aaload, 39, 0), (39, .astore_n 3, 40, 0), (40, .aload_n 0, 41, 0), (41, .getfield 22, 44, 0), (44, .aload_n 3, 45, 0), (45, .iload_n 2, 46, 0), (46, .iaload, 47, 0), (47, .aload_n 3, 48, 0), (48, .iload_n 2, 49, 0), (49, .iconst 1, 50, 0), (50, .iadd, 51, 0)]), (70, [(51, .iaload, 52, 0), (52, .aload_n 3, 53, 0), (53, .iload_n 2, 54, 0), (54, .iconst 2, 55, 0), (55, .iadd, 56, 0), (56, .iaload, 57, 0), (57, .aload_n 3, 58, 0), (58, .iload_n 2, 59, 0), (59, .iconst 3, 60, 0), (60, .iadd, 61, 0), (61, .iaload, 62, 0), (62, .ifCond .eq 7, 65, 69), (65, .iconst 1, 66, 0), (66, .goto 4, 69, 70), (69, .iconst 0, 70, 0), (70, .invokevirtual 122, 73, 0)]), (95, [(73, .istore 4, 75, 0), (75, .iload 4, 77, 0), (77, .ifCond .ge 11, 80, 88), (80, .bipush (-20), 82, 0), (82, .iload 4, 84, 0), (84, .iadd, 85, 0), (85, .goto 10, 88, 95), (88, .aload_n 0, 89, 0), (89, .getfield 22, 92, 0), (92, .getfield 158, 95, 0), (95, .ireturn, 96, 0)])])
theorem ok_X9_scanOne : ev_ok mi_X9_scanOne := ev_ok_of (by decide +kernel)
theorem pf_X9_scanOne : plainName mi_X9_scanOne.1.cls = true ∨ plainFor mi_X9_scanOne.1 = true := Or.inl pn_X9
def mi_X9_isBeat : MI := (yX9_isBeat, prog_1_method_41_code, 4, (some .boolean), 1, 21, 9, [(27, [(0, .aload_n 0, 1, 0), (1, .getfield 43, 4, 0), (4, .iload_n 1, 5, 0), (5, .invokevirtual 195, 8, 0), (8, .ifCond .eq 27, 11, 35), (11, .iload_n 2, 12, 0), (12, .iload_n 3, 13, 0), (13, .if_icmp .lt 22, 16, 35), (16, .iload_n 2, 17, 0), (17, .iload_n 3, 18, 0), (18, .isub, 19, 0), (19, .aload_n 0, 20, 0), (20, .getfield 43, 23, 0), (23, .getfield 196, 26, 0), (26, .iload_n 1, 27, 0), (27, .iaload, 28, 0)]), (36, [(28, .if_icmp .ge 7, 31, 35), (31, .iconst 1, 32, 0), (32, .goto 4, 35, 36), (35, .iconst 0, 36, 0), (36, .ireturn, 37, 0)])])
theorem ok_X9_isBeat : ev_ok mi_X9_isBeat := ev_ok_of (by decide +kernel)
theorem pf_X9_isBeat : plainName mi_X9_isBeat.1.cls = true ∨ plainFor mi_X9_isBeat.1 = true := Or.inl pn_X9
def mi_X9_isKey : MI := (yX9_isKey, prog_1_method_42_code, 1, (some .boolean), 1, 22, 9, [(8, [(0, .iload_n 0, 1, 0), (1, .bipush (-11), 3, 0), (3, .bipush 11, 5, 0), (5, .invokestatic 75, 8, 0), (8, .ireturn, 9, 0)])])
theorem ok_X9_isKey : ev_ok mi_X9_isKey := ev_ok_of (by decide +kernel)
theorem pf_X9_isKey : plainName mi_X9_isKey.1.cls = true ∨ plainFor mi_X9_isKey.1 = true := Or.inl pn_X9
def mi_X9_isPlace : MI := (yX9_isPlace, prog_1_method_43_code, 1, (some .boolean), 1, 22, 9, [(8, [(0, .iload_n 0, 1, 0), (1, .iconst 0, 2, 0), (2, .sipush 999, 5, 0), (5, .invokestatic 75, 8, 0), (8, .ireturn, 9, 0)])])
theorem ok_X9_isPlace : ev_ok mi_X9_isPlace := ev_ok_of (by decide +kernel)
theorem pf_X9_isPlace : plainName mi_X9_isPlace.1.cls = true ∨ plainFor mi_X9_isPlace.1 = true := Or.inl pn_X9
def mi_X9_isWithin : MI := (yX9_isWithin, prog_1_method_44_code, 3, (some .boolean), 0, 0, 9, [(15, [(0, .iload_n 1, 1, 0), (1, .iload_n 0, 2, 0), (2, .if_icmp .gt 12, 5, 14), (5, .iload_n 0, 6, 0), (6, .iload_n 2, 7, 0), (7, .if_icmp .gt 7, 10, 14), (10, .iconst 1, 11, 0), (11, .goto 4, 14, 15), (14, .iconst 0, 15, 0), (15, .ireturn, 16, 0)])])
theorem ok_X9_isWithin : ev_ok mi_X9_isWithin := ev_ok_of (by decide +kernel)
theorem pf_X9_isWithin : plainName mi_X9_isWithin.1.cls = true ∨ plainFor mi_X9_isWithin.1 = true := Or.inl pn_X9
def mi_X9_leastOf : MI := (yX9_leastOf, prog_1_method_45_code, 1, (some .int), 1, 20, 9, [(18, [(0, .iload_n 0, 1, 0), (1, .ifCond .ne 8, 4, 9), (4, .bipush (-4), 6, 0), (6, .goto 12, 9, 18), (9, .iload_n 0, 10, 0), (10, .iload_n 0, 11, 0), (11, .ineg, 12, 0), (12, .iand, 13, 0), (13, .iconst 1, 14, 0), (14, .isub, 15, 0), (15, .invokestatic 341, 18, 0), (18, .ireturn, 19, 0)])])
theorem ok_X9_leastOf : ev_ok mi_X9_leastOf := ev_ok_of (by decide +kernel)
theorem pf_X9_leastOf : plainName mi_X9_leastOf.1.cls = true ∨ plainFor mi_X9_leastOf.1 = true := Or.inl pn_X9
def mi_X9_greatestOf : MI := (yX9_greatestOf, prog_1_method_46_code, 2, (some .int), 0, 0, 9, [(25, [(0, .bipush 11, 2, 0), (2, .istore_n 1, 3, 0), (3, .iload_n 1, 4, 0), (4, .ifCond .lt 19, 7, 23), (7, .iload_n 0, 8, 0), (8, .iload_n 1, 9, 0), (9, .ishr, 10, 0), (10, .iconst 1, 11, 0), (11, .iand, 12, 0), (12, .ifCond .eq 5, 15, 17), (15, .iload_n 1, 16, 0), (16, .ireturn, 17, 0), (17, .iinc 1 (-1), 20, 0), (20, .goto (-17), 23, 3), (23, .bipush (-4), 25, 0), (25, .ireturn, 26, 0)])])
theorem ok_X9_greatestOf : ev_ok mi_X9_greatestOf := ev_ok_of (by decide +kernel)
theorem pf_X9_greatestOf : plainName mi_X9_greatestOf.1.cls = true ∨ plainFor mi_X9_greatestOf.1 = true := Or.inl pn_X9
def mi_X10_init : MI := (yX10_init, prog_12_method_1_code, 2, none, 1, 12, 10, [(30, [(0, .aload_n 0, 1, 0), (1, .invokespecial 1, 4, 0), (4, .aload_n 0, 5, 0), (5, .bipush 100, 7, 0), (7, .putfield 7, 10, 0), (10, .aload_n 0, 11, 0), (11, .sipush 1000, 14, 0), (14, .putfield 13, 17, 0), (17, .aload_n 0, 18, 0), (18, .iconst 3, 19, 0), (19, .putfield 16, 22, 0), (22, .aload_n 0, 23, 0), (23, .sipush 150, 26, 0), (26, .putfield 19, 29, 0), (29, .aload_n 0, 30, 0), (30, .bipush 12, 32, 0)]), (62, [(32, .newarray .int, 34, 0), (34, .putfield 22, 37, 0), (37, .aload_n 0, 38, 0), (38, .bipush 12, 40, 0), (40, .newarray .int, 42, 0), (42, .putfield 26, 45, 0), (45, .aload_n 0, 46, 0), (46, .bipush 12, 48, 0), (48, .newarray .int, 50, 0), (50, .putfield 29, 53, 0), (53, .aload_n 0, 54, 0), (54, .bipush 12, 56, 0), (56, .newarray .boolean, 58, 0), (58, .putfield 32, 61, 0), (61, .aload_n 0, 62, 0), (62, .bipush 12, 64, 0)]), (95, [(64, .newarray .int, 66, 0), (66, .putfield 36, 69, 0), (69, .aload_n 0, 70, 0), (70, .bipush 12, 72, 0), (72, .newarray .int, 74, 0), (74, .putfield 39, 77, 0), (77, .aload_n 0, 78, 0), (78, .bipush 12, 80, 0), (80, .newarray .boolean, 82, 0), (82, .putfield 42, 85, 0), (85, .aload_n 0, 86, 0), (86, .sipush 420, 89, 0), (89, .newarray .int, 91, 0), (91, .putfield 45, 94, 0), (94, .aload_n 0, 95, 0), (95, .sipush 160, 98, 0)]), (129, [(98, .newarray .int, 100, 0), (100, .putfield 48, 103, 0), (103, .aload_n 0, 104, 0), (104, .bipush 6, 106, 0), (106, .newarray .int, 108, 0), (108, .putfield 51, 111, 0), (111, .aload_n 0, 112, 0), (112, .sipush 144, 115, 0), (115, .newarray .int, 117, 0), (117, .putfield 54, 120, 0), (120, .aload_n 0, 121, 0), (121, .bipush 64, 123, 0), (123, .newarray .int, 125, 0), (125, .putfield 57, 128, 0), (128, .aload_n 0, 129, 0), (129, .iconst 5, 130, 0)]), (159, [(130, .newarray .int, 132, 0), (132, .putfield 60, 135, 0), (135, .aload_n 0, 136, 0), (136, .iconst 5, 137, 0), (137, .newarray .int, 139, 0), (139, .putfield 63, 142, 0), (142, .aload_n 0, 143, 0), (143, .ldc 66, 145, 0), (145, .newarray .int, 147, 0), (147, .putfield 67, 150, 0), (150, .aload_n 0, 151, 0), (151, .bipush 24, 153, 0), (153, .newarray .int, 155, 0), (155, .putfield 70, 158, 0), (158, .aload_n 0, 159, 0), (159, .bipush 24, 161, 0)]), (194, [(161, .newarray .int, 163, 0), (163, .putfield 73, 166, 0), (166, .aload_n 0, 167, 0), (167, .sipush 201, 170, 0), (170, .newarray .int, 172, 0), (172, .putfield 76, 175, 0), (175, .aload_n 0, 176, 0), (176, .sipush 4096, 179, 0), (179, .newarray .int, 181, 0), (181, .putfield 79, 184, 0), (184, .aload_n 0, 185, 0), (185, .sipush 4096, 188, 0), (188, .newarray .int, 190, 0), (190, .putfield 82, 193, 0), (193, .aload_n 0, 194, 0), (194, .ldc 66, 196, 0)]), (226, [(196, .newarray .boolean, 198, 0), (198, .putfield 85, 201, 0), (201, .aload_n 0, 202, 0), (202, .bipush 12, 204, 0), (204, .newarray .int, 206, 0), (206, .putfield 88, 209, 0), (209, .aload_n 0, 210, 0), (210, .bipush 12, 212, 0), (212, .newarray .boolean, 214, 0), (214, .putfield 91, 217, 0), (217, .aload_n 0, 218, 0), (218, .bipush 12, 220, 0), (220, .newarray .int, 222, 0), (222, .putfield 94, 225, 0), (225, .aload_n 0, 226, 0), (226, .iconst 4, 227, 0)]), (256, [(227, .newarray .int, 229, 0), (229, .putfield 97, 232, 0), (232, .aload_n 0, 233, 0), (233, .iconst 4, 234, 0), (234, .newarray .int, 236, 0), (236, .putfield 100, 239, 0), (239, .aload_n 0, 240, 0), (240, .bipush 6, 242, 0), (242, .newarray .int, 244, 0), (244, .putfield 103, 247, 0), (247, .aload_n 0, 248, 0), (248, .bipush 6, 250, 0), (250, .newarray .int, 252, 0), (252, .putfield 106, 255, 0), (255, .aload_n 0, 256, 0), (256, .bipush 10, 258, 0)]), (286, [(258, .putfield 109, 261, 0), (261, .aload_n 0, 262, 0), (262, .iconst 4, 263, 0), (263, .newarray .int, 265, 0), (265, .putfield 112, 268, 0), (268, .aload_n 0, 269, 0), (269, .iconst 4, 270, 0), (270, .newarray .int, 272, 0), (272, .putfield 115, 275, 0), (275, .aload_n 0, 276, 0), (276, .sipush 240, 279, 0), (279, .newarray .int, 281, 0), (281, .putfield 118, 284, 0), (284, .iconst 0, 285, 0), (285, .istore_n 1, 286, 0), (286, .iload_n 1, 287, 0)]), (305, [(287, .iconst 4, 288, 0), (288, .if_icmp .ge 17, 291, 305), (291, .aload_n 0, 292, 0), (292, .getfield 112, 295, 0), (295, .iload_n 1, 296, 0), (296, .bipush (-4), 298, 0), (298, .iastore, 299, 0), (299, .iinc 1 1, 302, 0), (302, .goto (-16), 305, 286), (305, .return_, 306, 0)])])
theorem ok_X10_init : ev_ok mi_X10_init := ev_ok_of (by decide +kernel)
theorem pn_X10 : plainName RX10 = true := by decide +kernel
theorem pf_X10_init : plainName mi_X10_init.1.cls = true ∨ plainFor mi_X10_init.1 = true := Or.inl pn_X10
def mi_X10_in : MI := (yX10_in, prog_12_method_3_code, 6, (some .boolean), 0, 0, 10, [(18, [(0, .lload_n 0, 1, 0), (1, .lload_n 2, 2, 0), (2, .lcmp, 3, 0), (3, .ifCond .lt 14, 6, 17), (6, .lload_n 0, 7, 0), (7, .lload 4, 9, 0), (9, .lcmp, 10, 0), (10, .ifCond .gt 7, 13, 17), (13, .iconst 1, 14, 0), (14, .goto 4, 17, 18), (17, .iconst 0, 18, 0), (18, .ireturn, 19, 0)])])
theorem ok_X10_in : ev_ok mi_X10_in := ev_ok_of (by decide +kernel)
theorem pf_X10_in : plainName mi_X10_in.1.cls = true ∨ plainFor mi_X10_in.1 = true := Or.inl pn_X10
def mi_X10_down : MI := (yX10_down, prog_12_method_4_code, 3, (some .int), 0, 0, 10, [(17, [(0, .iload_n 0, 1, 0), (1, .iload_n 1, 2, 0), (2, .idiv, 3, 0), (3, .istore_n 2, 4, 0), (4, .iload_n 0, 5, 0), (5, .iload_n 1, 6, 0), (6, .irem, 7, 0), (7, .ifCond .ge 9, 10, 16), (10, .iload_n 2, 11, 0), (11, .iconst 1, 12, 0), (12, .isub, 13, 0), (13, .goto 4, 16, 17), (16, .iload_n 2, 17, 0), (17, .ireturn, 18, 0)])])
theorem ok_X10_down : ev_ok mi_X10_down := ev_ok_of (by decide +kernel)
theorem pf_X10_down : plainName mi_X10_down.1.cls = true ∨ plainFor mi_X10_down.1 = true := Or.inl pn_X10
def mi_X10_size : MI := (yX10_size, prog_12_method_5_code, 1, (some .int), 0, 0, 10, [(10, [(0, .iload_n 0, 1, 0), (1, .ifCond .ge 8, 4, 9), (4, .iload_n 0, 5, 0), (5, .ineg, 6, 0), (6, .goto 4, 9, 10), (9, .iload_n 0, 10, 0), (10, .ireturn, 11, 0)])])
theorem ok_X10_size : ev_ok mi_X10_size := ev_ok_of (by decide +kernel)
theorem pf_X10_size : plainName mi_X10_size.1.cls = true ∨ plainFor mi_X10_size.1 = true := Or.inl pn_X10
def mi_X10_isWhistle : MI := (yX10_isWhistle, prog_12_method_6_code, 2, (some .boolean), 1, 25, 10, [(13, [(0, .iload_n 1, 1, 0), (1, .i2l, 2, 0), (2, .lconst 0, 3, 0), (3, .aload_n 0, 4, 0), (4, .getfield 121, 7, 0), (7, .iconst 1, 8, 0), (8, .isub, 9, 0), (9, .i2l, 10, 0), (10, .invokestatic 124, 13, 0), (13, .ireturn, 14, 0)])])
theorem ok_X10_isWhistle : ev_ok mi_X10_isWhistle := ev_ok_of (by decide +kernel)
theorem pf_X10_isWhistle : plainName mi_X10_isWhistle.1.cls = true ∨ plainFor mi_X10_isWhistle.1 = true := Or.inl pn_X10
def mi_X10_keeps : MI := (yX10_keeps, prog_12_method_7_code, 3, none, 0, 0, 10, [(28, [(0, .aload_n 0, 1, 0), (1, .getfield 128, 4, 0), (4, .bipush 10, 6, 0), (6, .if_icmp .ne 44, 9, 50), (9, .bipush 42, 11, 0), (11, .istore_n 1, 12, 0), (12, .iload_n 1, 13, 0), (13, .sipush 420, 16, 0), (16, .if_icmp .ge 24, 19, 40), (19, .aload_n 0, 20, 0), (20, .getfield 45, 23, 0), (23, .iload_n 1, 24, 0), (24, .bipush 42, 26, 0), (26, .isub, 27, 0), (27, .aload_n 0, 28, 0), (28, .getfield 45, 31, 0)]), (57, [(31, .iload_n 1, 32, 0), (32, .iaload, 33, 0), (33, .iastore, 34, 0), (34, .iinc 1 1, 37, 0), (37, .goto (-25), 40, 12), (40, .aload_n 0, 41, 0), (41, .dup, 42, 0), (42, .getfield 128, 45, 0), (45, .iconst 1, 46, 0), (46, .isub, 47, 0), (47, .putfield 128, 50, 0), (50, .bipush 42, 52, 0), (52, .aload_n 0, 53, 0), (53, .getfield 128, 56, 0), (56, .imul, 57, 0), (57, .istore_n 1, 58, 0)]), (81, [(58, .aload_n 0, 59, 0), (59, .getfield 45, 62, 0), (62, .iload_n 1, 63, 0), (63, .aload_n 0, 64, 0), (64, .getfield 7, 67, 0), (67, .iastore, 68, 0), (68, .aload_n 0, 69, 0), (69, .getfield 45, 72, 0), (72, .iload_n 1, 73, 0), (73, .iconst 1, 74, 0), (74, .iadd, 75, 0), (75, .aload_n 0, 76, 0), (76, .getfield 13, 79, 0), (79, .iastore, 80, 0), (80, .aload_n 0, 81, 0), (81, .getfield 45, 84, 0)]), (105, [(84, .iload_n 1, 85, 0), (85, .iconst 2, 86, 0), (86, .iadd, 87, 0), (87, .aload_n 0, 88, 0), (88, .getfield 16, 91, 0), (91, .iastore, 92, 0), (92, .aload_n 0, 93, 0), (93, .getfield 45, 96, 0), (96, .iload_n 1, 97, 0), (97, .iconst 3, 98, 0), (98, .iadd, 99, 0), (99, .aload_n 0, 100, 0), (100, .getfield 19, 103, 0), (103, .iastore, 104, 0), (104, .aload_n 0, 105, 0), (105, .getfield 45, 108, 0)]), (129, [(108, .iload_n 1, 109, 0), (109, .iconst 4, 110, 0), (110, .iadd, 111, 0), (111, .aload_n 0, 112, 0), (112, .getfield 131, 115, 0), (115, .iastore, 116, 0), (116, .aload_n 0, 117, 0), (117, .getfield 45, 120, 0), (120, .iload_n 1, 121, 0), (121, .iconst 5, 122, 0), (122, .iadd, 123, 0), (123, .aload_n 0, 124, 0), (124, .getfield 121, 127, 0), (127, .iastore, 128, 0), (128, .iconst 0, 129, 0), (129, .istore_n 2, 130, 0)]), (153, [(130, .iload_n 2, 131, 0), (131, .bipush 12, 133, 0), (133, .if_icmp .ge 68, 136, 201), (136, .aload_n 0, 137, 0), (137, .getfield 45, 140, 0), (140, .iload_n 1, 141, 0), (141, .bipush 6, 143, 0), (143, .iadd, 144, 0), (144, .iload_n 2, 145, 0), (145, .iadd, 146, 0), (146, .aload_n 0, 147, 0), (147, .getfield 36, 150, 0), (150, .iload_n 2, 151, 0), (151, .iaload, 152, 0), (152, .iastore, 153, 0), (153, .aload_n 0, 154, 0)]), (177, [(154, .getfield 45, 157, 0), (157, .iload_n 1, 158, 0), (158, .bipush 18, 160, 0), (160, .iadd, 161, 0), (161, .iload_n 2, 162, 0), (162, .iadd, 163, 0), (163, .aload_n 0, 164, 0), (164, .getfield 39, 167, 0), (167, .iload_n 2, 168, 0), (168, .iaload, 169, 0), (169, .iastore, 170, 0), (170, .aload_n 0, 171, 0), (171, .getfield 45, 174, 0), (174, .iload_n 1, 175, 0), (175, .bipush 30, 177, 0), (177, .iadd, 178, 0)]), (203, [(178, .iload_n 2, 179, 0), (179, .iadd, 180, 0), (180, .aload_n 0, 181, 0), (181, .getfield 42, 184, 0), (184, .iload_n 2, 185, 0), (185, .baload, 186, 0), (186, .ifCond .eq 7, 189, 193), (189, .iconst 1, 190, 0), (190, .goto 4, 193, 194), (193, .iconst 0, 194, 0), (194, .iastore, 195, 0), (195, .iinc 2 1, 198, 0), (198, .goto (-68), 201, 130), (201, .aload_n 0, 202, 0), (202, .dup, 203, 0), (203, .getfield 128, 206, 0)]), (211, [(206, .iconst 1, 207, 0), (207, .iadd, 208, 0), (208, .putfield 128, 211, 0), (211, .return_, 212, 0)])])
theorem ok_X10_keeps : ev_ok mi_X10_keeps := ev_ok_of (by decide +kernel)
theorem pf_X10_keeps : plainName mi_X10_keeps.1.cls = true ∨ plainFor mi_X10_keeps.1 = true := Or.inl pn_X10
def mi_X10_undo : MI := (yX10_undo, prog_12_method_8_code, 3, (some .int), 0, 0, 10, [(27, [(0, .aload_n 0, 1, 0), (1, .getfield 128, 4, 0), (4, .ifCond .ne 6, 7, 10), (7, .bipush (-4), 9, 0), (9, .ireturn, 10, 0), (10, .aload_n 0, 11, 0), (11, .dup, 12, 0), (12, .getfield 128, 15, 0), (15, .iconst 1, 16, 0), (16, .isub, 17, 0), (17, .putfield 128, 20, 0), (20, .bipush 42, 22, 0), (22, .aload_n 0, 23, 0), (23, .getfield 128, 26, 0), (26, .imul, 27, 0), (27, .istore_n 1, 28, 0)]), (51, [(28, .aload_n 0, 29, 0), (29, .aload_n 0, 30, 0), (30, .getfield 45, 33, 0), (33, .iload_n 1, 34, 0), (34, .iaload, 35, 0), (35, .putfield 7, 38, 0), (38, .aload_n 0, 39, 0), (39, .aload_n 0, 40, 0), (40, .getfield 45, 43, 0), (43, .iload_n 1, 44, 0), (44, .iconst 1, 45, 0), (45, .iadd, 46, 0), (46, .iaload, 47, 0), (47, .putfield 13, 50, 0), (50, .aload_n 0, 51, 0), (51, .aload_n 0, 52, 0)]), (75, [(52, .getfield 45, 55, 0), (55, .iload_n 1, 56, 0), (56, .iconst 2, 57, 0), (57, .iadd, 58, 0), (58, .iaload, 59, 0), (59, .putfield 16, 62, 0), (62, .aload_n 0, 63, 0), (63, .aload_n 0, 64, 0), (64, .getfield 45, 67, 0), (67, .iload_n 1, 68, 0), (68, .iconst 3, 69, 0), (69, .iadd, 70, 0), (70, .iaload, 71, 0), (71, .putfield 19, 74, 0), (74, .aload_n 0, 75, 0), (75, .aload_n 0, 76, 0)]), (97, [(76, .getfield 45, 79, 0), (79, .iload_n 1, 80, 0), (80, .iconst 4, 81, 0), (81, .iadd, 82, 0), (82, .iaload, 83, 0), (83, .putfield 131, 86, 0), (86, .iconst 0, 87, 0), (87, .istore_n 2, 88, 0), (88, .iload_n 2, 89, 0), (89, .aload_n 0, 90, 0), (90, .getfield 45, 93, 0), (93, .iload_n 1, 94, 0), (94, .iconst 5, 95, 0), (95, .iadd, 96, 0), (96, .iaload, 97, 0), (97, .if_icmp .ge 69, 100, 166)]), (122, [(100, .aload_n 0, 101, 0), (101, .getfield 36, 104, 0), (104, .iload_n 2, 105, 0), (105, .aload_n 0, 106, 0), (106, .getfield 45, 109, 0), (109, .iload_n 1, 110, 0), (110, .bipush 6, 112, 0), (112, .iadd, 113, 0), (113, .iload_n 2, 114, 0), (114, .iadd, 115, 0), (115, .iaload, 116, 0), (116, .iastore, 117, 0), (117, .aload_n 0, 118, 0), (118, .getfield 39, 121, 0), (121, .iload_n 2, 122, 0), (122, .aload_n 0, 123, 0)]), (146, [(123, .getfield 45, 126, 0), (126, .iload_n 1, 127, 0), (127, .bipush 18, 129, 0), (129, .iadd, 130, 0), (130, .iload_n 2, 131, 0), (131, .iadd, 132, 0), (132, .iaload, 133, 0), (133, .iastore, 134, 0), (134, .aload_n 0, 135, 0), (135, .getfield 42, 138, 0), (138, .iload_n 2, 139, 0), (139, .aload_n 0, 140, 0), (140, .getfield 45, 143, 0), (143, .iload_n 1, 144, 0), (144, .bipush 30, 146, 0), (146, .iadd, 147, 0)]), (170, [(147, .iload_n 2, 148, 0), (148, .iadd, 149, 0), (149, .iaload, 150, 0), (150, .iconst 1, 151, 0), (151, .if_icmp .ne 7, 154, 158), (154, .iconst 1, 155, 0), (155, .goto 4, 158, 159), (158, .iconst 0, 159, 0), (159, .bastore, 160, 0), (160, .iinc 2 1, 163, 0), (163, .goto (-75), 166, 88), (166, .aload_n 0, 167, 0), (167, .getfield 128, 170, 0), (170, .ireturn, 171, 0)])])
theorem ok_X10_undo : ev_ok mi_X10_undo := ev_ok_of (by decide +kernel)
theorem pf_X10_undo : plainName mi_X10_undo.1.cls = true ∨ plainFor mi_X10_undo.1 = true := Or.inl pn_X10
def mi_X10_fire : MI := (yX10_fire, prog_12_method_9_code, 3, (some .int), 1, 25, 10, [(25, [(0, .iload_n 1, 1, 0), (1, .i2l, 2, 0), (2, .lconst 0, 3, 0), (3, .ldc2_w 134, 6, 0), (6, .invokestatic 124, 9, 0), (9, .ifCond .ne 5, 12, 14), (12, .iconst (-1), 13, 0), (13, .ireturn, 14, 0), (14, .aload_n 0, 15, 0), (15, .invokevirtual 136, 18, 0), (18, .aload_n 0, 19, 0), (19, .getfield 16, 22, 0), (22, .istore_n 2, 23, 0), (23, .aload_n 0, 24, 0), (24, .iload_n 1, 25, 0), (25, .putfield 16, 28, 0)]), (29, [(28, .iload_n 2, 29, 0), (29, .ireturn, 30, 0)])])
theorem ok_X10_fire : ev_ok mi_X10_fire := ev_ok_of (by decide +kernel)
theorem pf_X10_fire : plainName mi_X10_fire.1.cls = true ∨ plainFor mi_X10_fire.1 = true := Or.inl pn_X10
def mi_X10_water : MI := (yX10_water, prog_12_method_10_code, 2, (some .int), 1, 25, 10, [(25, [(0, .iload_n 1, 1, 0), (1, .i2l, 2, 0), (2, .lconst 1, 3, 0), (3, .ldc2_w 139, 6, 0), (6, .invokestatic 124, 9, 0), (9, .ifCond .ne 5, 12, 14), (12, .iconst (-1), 13, 0), (13, .ireturn, 14, 0), (14, .aload_n 0, 15, 0), (15, .invokevirtual 136, 18, 0), (18, .aload_n 0, 19, 0), (19, .aload_n 0, 20, 0), (20, .getfield 13, 23, 0), (23, .iload_n 1, 24, 0), (24, .iadd, 25, 0), (25, .sipush 9999, 28, 0)]), (50, [(28, .if_icmp .le 9, 31, 37), (31, .sipush 9999, 34, 0), (34, .goto 9, 37, 43), (37, .aload_n 0, 38, 0), (38, .getfield 13, 41, 0), (41, .iload_n 1, 42, 0), (42, .iadd, 43, 0), (43, .putfield 13, 46, 0), (46, .aload_n 0, 47, 0), (47, .getfield 13, 50, 0), (50, .ireturn, 51, 0)])])
theorem ok_X10_water : ev_ok mi_X10_water := ev_ok_of (by decide +kernel)
theorem pf_X10_water : plainName mi_X10_water.1.cls = true ∨ plainFor mi_X10_water.1 = true := Or.inl pn_X10
def mi_X10_valve : MI := (yX10_valve, prog_12_method_11_code, 3, (some .int), 1, 25, 10, [(27, [(0, .iload_n 1, 1, 0), (1, .i2l, 2, 0), (2, .ldc2_w 141, 5, 0), (5, .ldc2_w 143, 8, 0), (8, .invokestatic 124, 11, 0), (11, .ifCond .ne 5, 14, 16), (14, .iconst (-1), 15, 0), (15, .ireturn, 16, 0), (16, .aload_n 0, 17, 0), (17, .invokevirtual 136, 20, 0), (20, .aload_n 0, 21, 0), (21, .getfield 19, 24, 0), (24, .istore_n 2, 25, 0), (25, .aload_n 0, 26, 0), (26, .iload_n 1, 27, 0), (27, .putfield 19, 30, 0)]), (51, [(30, .aload_n 0, 31, 0), (31, .aload_n 0, 32, 0), (32, .getfield 7, 35, 0), (35, .iload_n 1, 36, 0), (36, .if_icmp .le 7, 39, 43), (39, .iload_n 1, 40, 0), (40, .goto 7, 43, 47), (43, .aload_n 0, 44, 0), (44, .getfield 7, 47, 0), (47, .putfield 7, 50, 0), (50, .iload_n 2, 51, 0), (51, .ireturn, 52, 0)])])
theorem ok_X10_valve : ev_ok mi_X10_valve := ev_ok_of (by decide +kernel)
theorem pf_X10_valve : plainName mi_X10_valve.1.cls = true ∨ plainFor mi_X10_valve.1 = true := Or.inl pn_X10
def mi_X10_pressure : MI := (yX10_pressure, prog_12_method_12_code, 3, (some .int), 1, 25, 10, [(25, [(0, .iload_n 1, 1, 0), (1, .i2l, 2, 0), (2, .lconst 0, 3, 0), (3, .aload_n 0, 4, 0), (4, .getfield 19, 7, 0), (7, .i2l, 8, 0), (8, .invokestatic 124, 11, 0), (11, .ifCond .ne 5, 14, 16), (14, .iconst (-1), 15, 0), (15, .ireturn, 16, 0), (16, .aload_n 0, 17, 0), (17, .invokevirtual 136, 20, 0), (20, .aload_n 0, 21, 0), (21, .getfield 7, 24, 0), (24, .istore_n 2, 25, 0), (25, .aload_n 0, 26, 0)]), (31, [(26, .iload_n 1, 27, 0), (27, .putfield 7, 30, 0), (30, .iload_n 2, 31, 0), (31, .ireturn, 32, 0)])])
theorem ok_X10_pressure : ev_ok mi_X10_pressure := ev_ok_of (by decide +kernel)
theorem pf_X10_pressure : plainName mi_X10_pressure.1.cls = true ∨ plainFor mi_X10_pressure.1 = true := Or.inl pn_X10
def mi_X10_drawn : MI := (yX10_drawn, prog_12_method_13_code, 4, (some .int), 0, 0, 10, [(19, [(0, .iconst 0, 1, 0), (1, .istore_n 2, 2, 0), (2, .iconst 0, 3, 0), (3, .istore_n 3, 4, 0), (4, .iload_n 3, 5, 0), (5, .aload_n 0, 6, 0), (6, .getfield 121, 9, 0), (9, .if_icmp .ge 51, 12, 60), (12, .iload_n 2, 13, 0), (13, .iload_n 1, 14, 0), (14, .iload_n 3, 15, 0), (15, .ishr, 16, 0), (16, .iconst 1, 17, 0), (17, .iand, 18, 0), (18, .iconst 1, 19, 0), (19, .if_icmp .ne 12, 22, 31)]), (47, [(22, .aload_n 0, 23, 0), (23, .getfield 26, 26, 0), (26, .iload_n 3, 27, 0), (27, .iaload, 28, 0), (28, .goto 24, 31, 52), (31, .aload_n 0, 32, 0), (32, .getfield 42, 35, 0), (35, .iload_n 3, 36, 0), (36, .baload, 37, 0), (37, .ifCond .eq 14, 40, 51), (40, .aload_n 0, 41, 0), (41, .getfield 26, 44, 0), (44, .iload_n 3, 45, 0), (45, .iaload, 46, 0), (46, .iconst 2, 47, 0), (47, .idiv, 48, 0)]), (61, [(48, .goto 4, 51, 52), (51, .iconst 0, 52, 0), (52, .iadd, 53, 0), (53, .istore_n 2, 54, 0), (54, .iinc 3 1, 57, 0), (57, .goto (-53), 60, 4), (60, .iload_n 2, 61, 0), (61, .ireturn, 62, 0)])])
theorem ok_X10_drawn : ev_ok mi_X10_drawn := ev_ok_of (by decide +kernel)
theorem pf_X10_drawn : plainName mi_X10_drawn.1.cls = true ∨ plainFor mi_X10_drawn.1 = true := Or.inl pn_X10
def mi_X10_boiler : MI := (yX10_boiler, prog_12_method_14_code, 2, (some .int), 1, 23, 10, [(29, [(0, .iload_n 1, 1, 0), (1, .ifCond .ne 10, 4, 11), (4, .aload_n 0, 5, 0), (5, .getfield 7, 8, 0), (8, .goto 65, 11, 73), (11, .iload_n 1, 12, 0), (12, .iconst 1, 13, 0), (13, .if_icmp .ne 10, 16, 23), (16, .aload_n 0, 17, 0), (17, .getfield 13, 20, 0), (20, .goto 53, 23, 73), (23, .iload_n 1, 24, 0), (24, .iconst 2, 25, 0), (25, .if_icmp .ne 10, 28, 35), (28, .aload_n 0, 29, 0), (29, .getfield 16, 32, 0)]), (61, [(32, .goto 41, 35, 73), (35, .iload_n 1, 36, 0), (36, .iconst 3, 37, 0), (37, .if_icmp .ne 10, 40, 47), (40, .aload_n 0, 41, 0), (41, .getfield 19, 44, 0), (44, .goto 29, 47, 73), (47, .iload_n 1, 48, 0), (48, .iconst 4, 49, 0), (49, .if_icmp .ne 10, 52, 59), (52, .aload_n 0, 53, 0), (53, .getfield 131, 56, 0), (56, .goto 17, 59, 73), (59, .iload_n 1, 60, 0), (60, .iconst 5, 61, 0), (61, .if_icmp .ne 11, 64, 72)]), (73, [(64, .aload_n 0, 65, 0), (65, .iconst 0, 66, 0), (66, .invokevirtual 145, 69, 0), (69, .goto 4, 72, 73), (72, .iconst (-1), 73, 0), (73, .ireturn, 74, 0)])])
theorem ok_X10_boiler : ev_ok mi_X10_boiler := ev_ok_of (by decide +kernel)
theorem pf_X10_boiler : plainName mi_X10_boiler.1.cls = true ∨ plainFor mi_X10_boiler.1 = true := Or.inl pn_X10
def mi_X10_off : MI := (yX10_off, prog_12_method_15_code, 3, (some .int), 1, 22, 10, [(22, [(0, .aload_n 0, 1, 0), (1, .getfield 36, 4, 0), (4, .iload_n 1, 5, 0), (5, .iaload, 6, 0), (6, .aload_n 0, 7, 0), (7, .getfield 39, 10, 0), (10, .iload_n 1, 11, 0), (11, .iaload, 12, 0), (12, .iadd, 13, 0), (13, .aload_n 0, 14, 0), (14, .getfield 29, 17, 0), (17, .iload_n 1, 18, 0), (18, .iaload, 19, 0), (19, .iload_n 2, 20, 0), (20, .bipush 100, 22, 0), (22, .isub, 23, 0)]), (30, [(23, .imul, 24, 0), (24, .bipush 10, 26, 0), (26, .invokestatic 149, 29, 0), (29, .iadd, 30, 0), (30, .ireturn, 31, 0)])])
theorem ok_X10_off : ev_ok mi_X10_off := ev_ok_of (by decide +kernel)
theorem pf_X10_off : plainName mi_X10_off.1.cls = true ∨ plainFor mi_X10_off.1 = true := Or.inl pn_X10
def mi_X10_strayOf : MI := (yX10_strayOf, prog_12_method_16_code, 6, (some .int), 2, 44, 10, [(24, [(0, .iconst 0, 1, 0), (1, .istore_n 3, 2, 0), (2, .iconst 0, 3, 0), (3, .istore 4, 5, 0), (5, .iload 4, 7, 0), (7, .aload_n 0, 8, 0), (8, .getfield 121, 11, 0), (11, .if_icmp .ge 48, 14, 59), (14, .iload_n 1, 15, 0), (15, .iload 4, 17, 0), (17, .ishr, 18, 0), (18, .iconst 1, 19, 0), (19, .iand, 20, 0), (20, .iconst 1, 21, 0), (21, .if_icmp .ne 16, 24, 37), (24, .aload_n 0, 25, 0)]), (56, [(25, .iload 4, 27, 0), (27, .iload_n 2, 28, 0), (28, .invokevirtual 153, 31, 0), (31, .invokestatic 156, 34, 0), (34, .goto 4, 37, 38), (37, .iconst 0, 38, 0), (38, .istore 5, 40, 0), (40, .iload 5, 42, 0), (42, .iload_n 3, 43, 0), (43, .if_icmp .le 8, 46, 51), (46, .iload 5, 48, 0), (48, .goto 4, 51, 52), (51, .iload_n 3, 52, 0), (52, .istore_n 3, 53, 0), (53, .iinc 4 1, 56, 0), (56, .goto (-51), 59, 5)]), (60, [(59, .iload_n 3, 60, 0), (60, .ireturn, 61, 0)])])
theorem ok_X10_strayOf : ev_ok mi_X10_strayOf := ev_ok_of (by decide +kernel)
theorem pf_X10_strayOf : plainName mi_X10_strayOf.1.cls = true ∨ plainFor mi_X10_strayOf.1 = true := Or.inl pn_X10
def mi_X10_goes : MI := (yX10_goes, prog_12_method_17_code, 4, (some .int), 3, 69, 10, [(26, [(0, .aload_n 0, 1, 0), (1, .iload_n 1, 2, 0), (2, .invokevirtual 145, 5, 0), (5, .istore_n 2, 6, 0), (6, .iload_n 2, 7, 0), (7, .aload_n 0, 8, 0), (8, .getfield 13, 11, 0), (11, .if_icmp .le 6, 14, 17), (14, .bipush (-5), 16, 0), (16, .ireturn, 17, 0), (17, .aload_n 0, 18, 0), (18, .iload_n 1, 19, 0), (19, .aload_n 0, 20, 0), (20, .getfield 7, 23, 0), (23, .invokevirtual 159, 26, 0), (26, .istore_n 3, 27, 0)]), (54, [(27, .aload_n 0, 28, 0), (28, .dup, 29, 0), (29, .getfield 13, 32, 0), (32, .iload_n 2, 33, 0), (33, .isub, 34, 0), (34, .putfield 13, 37, 0), (37, .aload_n 0, 38, 0), (38, .dup, 39, 0), (39, .getfield 7, 42, 0), (42, .aload_n 0, 43, 0), (43, .getfield 13, 46, 0), (46, .ifCond .le 12, 49, 58), (49, .iconst 2, 50, 0), (50, .aload_n 0, 51, 0), (51, .getfield 16, 54, 0), (54, .imul, 55, 0)]), (84, [(55, .goto 4, 58, 59), (58, .iconst 0, 59, 0), (59, .iload_n 2, 60, 0), (60, .isub, 61, 0), (61, .iadd, 62, 0), (62, .putfield 7, 65, 0), (65, .aload_n 0, 66, 0), (66, .aload_n 0, 67, 0), (67, .getfield 7, 70, 0), (70, .ifCond .ge 7, 73, 77), (73, .iconst 0, 74, 0), (74, .goto 7, 77, 81), (77, .aload_n 0, 78, 0), (78, .getfield 7, 81, 0), (81, .putfield 7, 84, 0), (84, .aload_n 0, 85, 0)]), (116, [(85, .getfield 7, 88, 0), (88, .aload_n 0, 89, 0), (89, .getfield 19, 92, 0), (92, .if_icmp .le 59, 95, 151), (95, .aload_n 0, 96, 0), (96, .aload_n 0, 97, 0), (97, .getfield 13, 100, 0), (100, .aload_n 0, 101, 0), (101, .getfield 7, 104, 0), (104, .aload_n 0, 105, 0), (105, .getfield 19, 108, 0), (108, .isub, 109, 0), (109, .if_icmp .ge 7, 112, 116), (112, .iconst 0, 113, 0), (113, .goto 17, 116, 130), (116, .aload_n 0, 117, 0)]), (146, [(117, .getfield 13, 120, 0), (120, .aload_n 0, 121, 0), (121, .getfield 7, 124, 0), (124, .aload_n 0, 125, 0), (125, .getfield 19, 128, 0), (128, .isub, 129, 0), (129, .isub, 130, 0), (130, .putfield 13, 133, 0), (133, .aload_n 0, 134, 0), (134, .aload_n 0, 135, 0), (135, .getfield 19, 138, 0), (138, .putfield 7, 141, 0), (141, .aload_n 0, 142, 0), (142, .dup, 143, 0), (143, .getfield 131, 146, 0), (146, .iconst 1, 147, 0)]), (152, [(147, .iadd, 148, 0), (148, .putfield 131, 151, 0), (151, .iload_n 3, 152, 0), (152, .ireturn, 153, 0)])])
theorem ok_X10_goes : ev_ok mi_X10_goes := ev_ok_of (by decide +kernel)
theorem pf_X10_goes : plainName mi_X10_goes.1.cls = true ∨ plainFor mi_X10_goes.1 = true := Or.inl pn_X10
def mi_X10_beat : MI := (yX10_beat, prog_12_method_18_code, 2, (some .int), 4, 92, 10, [(21, [(0, .iload_n 1, 1, 0), (1, .i2l, 2, 0), (2, .lconst 0, 3, 0), (3, .iconst 1, 4, 0), (4, .aload_n 0, 5, 0), (5, .getfield 121, 8, 0), (8, .ishl, 9, 0), (9, .iconst 1, 10, 0), (10, .isub, 11, 0), (11, .i2l, 12, 0), (12, .invokestatic 124, 15, 0), (15, .ifCond .ne 5, 18, 20), (18, .iconst (-1), 19, 0), (19, .ireturn, 20, 0), (20, .aload_n 0, 21, 0), (21, .iload_n 1, 22, 0)]), (44, [(22, .invokevirtual 145, 25, 0), (25, .aload_n 0, 26, 0), (26, .getfield 13, 29, 0), (29, .if_icmp .le 6, 32, 35), (32, .bipush (-5), 34, 0), (34, .ireturn, 35, 0), (35, .aload_n 0, 36, 0), (36, .invokevirtual 136, 39, 0), (39, .aload_n 0, 40, 0), (40, .iload_n 1, 41, 0), (41, .invokevirtual 162, 44, 0), (44, .ireturn, 45, 0)])])
theorem ok_X10_beat : ev_ok mi_X10_beat := ev_ok_of (by decide +kernel)
theorem pf_X10_beat : plainName mi_X10_beat.1.cls = true ∨ plainFor mi_X10_beat.1 = true := Or.inl pn_X10
def mi_X10_whistle : MI := (yX10_whistle, prog_12_method_19_code, 5, (some .int), 1, 25, 10, [(27, [(0, .iload_n 1, 1, 0), (1, .i2l, 2, 0), (2, .lconst 0, 3, 0), (3, .ldc2_w 165, 6, 0), (6, .invokestatic 124, 9, 0), (9, .ifCond .eq 27, 12, 36), (12, .iload_n 2, 13, 0), (13, .i2l, 14, 0), (14, .lconst 1, 15, 0), (15, .ldc2_w 134, 18, 0), (18, .invokestatic 124, 21, 0), (21, .ifCond .eq 15, 24, 36), (24, .iload_n 3, 25, 0), (25, .i2l, 26, 0), (26, .lconst 0, 27, 0), (27, .ldc2_w 167, 30, 0)]), (59, [(30, .invokestatic 124, 33, 0), (33, .ifCond .ne 5, 36, 38), (36, .iconst (-1), 37, 0), (37, .ireturn, 38, 0), (38, .aload_n 0, 39, 0), (39, .getfield 121, 42, 0), (42, .bipush 12, 44, 0), (44, .if_icmp .ne 6, 47, 50), (47, .bipush (-3), 49, 0), (49, .ireturn, 50, 0), (50, .aload_n 0, 51, 0), (51, .getfield 22, 54, 0), (54, .aload_n 0, 55, 0), (55, .getfield 121, 58, 0), (58, .iload_n 1, 59, 0), (59, .iastore, 60, 0)]), (85, [(60, .aload_n 0, 61, 0), (61, .getfield 26, 64, 0), (64, .aload_n 0, 65, 0), (65, .getfield 121, 68, 0), (68, .iload_n 2, 69, 0), (69, .iastore, 70, 0), (70, .aload_n 0, 71, 0), (71, .getfield 29, 74, 0), (74, .aload_n 0, 75, 0), (75, .getfield 121, 78, 0), (78, .iload_n 3, 79, 0), (79, .iastore, 80, 0), (80, .aload_n 0, 81, 0), (81, .getfield 32, 84, 0), (84, .aload_n 0, 85, 0), (85, .getfield 121, 88, 0)]), (112, [(88, .iload 4, 90, 0), (90, .bastore, 91, 0), (91, .aload_n 0, 92, 0), (92, .getfield 36, 95, 0), (95, .aload_n 0, 96, 0), (96, .getfield 121, 99, 0), (99, .iconst 0, 100, 0), (100, .iastore, 101, 0), (101, .aload_n 0, 102, 0), (102, .getfield 39, 105, 0), (105, .aload_n 0, 106, 0), (106, .getfield 121, 109, 0), (109, .iconst 0, 110, 0), (110, .iastore, 111, 0), (111, .aload_n 0, 112, 0), (112, .getfield 42, 115, 0)]), (137, [(115, .aload_n 0, 116, 0), (116, .getfield 121, 119, 0), (119, .iconst 0, 120, 0), (120, .bastore, 121, 0), (121, .aload_n 0, 122, 0), (122, .dup, 123, 0), (123, .getfield 121, 126, 0), (126, .iconst 1, 127, 0), (127, .iadd, 128, 0), (128, .putfield 121, 131, 0), (131, .aload_n 0, 132, 0), (132, .getfield 121, 135, 0), (135, .iconst 1, 136, 0), (136, .isub, 137, 0), (137, .ireturn, 138, 0)])])
theorem ok_X10_whistle : ev_ok mi_X10_whistle := ev_ok_of (by decide +kernel)
theorem pf_X10_whistle : plainName mi_X10_whistle.1.cls = true ∨ plainFor mi_X10_whistle.1 = true := Or.inl pn_X10
def mi_X10_told : MI := (yX10_told, prog_12_method_20_code, 3, (some .int), 2, 46, 10, [(65, [(0, .aload_n 0, 1, 0), (1, .iload_n 1, 2, 0), (2, .invokevirtual 169, 5, 0), (5, .ifCond .eq 15, 8, 20), (8, .iload_n 2, 9, 0), (9, .i2l, 10, 0), (10, .lconst 0, 11, 0), (11, .ldc2_w 173, 14, 0), (14, .invokestatic 124, 17, 0), (17, .ifCond .ne 7, 20, 24), (20, .sipush (-10000), 23, 0), (23, .ireturn, 24, 0), (24, .iload_n 2, 25, 0), (25, .tableswitch 89 0 5 #[39, 46, 53, 60, 75, 82], 64, 0), (64, .aload_n 0, 65, 0), (65, .getfield 22, 68, 0)]), (89, [(68, .iload_n 1, 69, 0), (69, .iaload, 70, 0), (70, .ireturn, 71, 0), (71, .aload_n 0, 72, 0), (72, .getfield 26, 75, 0), (75, .iload_n 1, 76, 0), (76, .iaload, 77, 0), (77, .ireturn, 78, 0), (78, .aload_n 0, 79, 0), (79, .getfield 29, 82, 0), (82, .iload_n 1, 83, 0), (83, .iaload, 84, 0), (84, .ireturn, 85, 0), (85, .aload_n 0, 86, 0), (86, .getfield 32, 89, 0), (89, .iload_n 1, 90, 0)]), (113, [(90, .baload, 91, 0), (91, .ifCond .eq 7, 94, 98), (94, .iconst 1, 95, 0), (95, .goto 4, 98, 99), (98, .iconst 0, 99, 0), (99, .ireturn, 100, 0), (100, .aload_n 0, 101, 0), (101, .getfield 36, 104, 0), (104, .iload_n 1, 105, 0), (105, .iaload, 106, 0), (106, .ireturn, 107, 0), (107, .aload_n 0, 108, 0), (108, .getfield 39, 111, 0), (111, .iload_n 1, 112, 0), (112, .iaload, 113, 0), (113, .ireturn, 114, 0)]), (128, [(114, .aload_n 0, 115, 0), (115, .getfield 42, 118, 0), (118, .iload_n 1, 119, 0), (119, .baload, 120, 0), (120, .ifCond .eq 7, 123, 127), (123, .iconst 1, 124, 0), (124, .goto 4, 127, 128), (127, .iconst 0, 128, 0), (128, .ireturn, 129, 0)])])
theorem ok_X10_told : ev_ok mi_X10_told := ev_ok_of (by decide +kernel)
theorem pf_X10_told : plainName mi_X10_told.1.cls = true ∨ plainFor mi_X10_told.1 = true := Or.inl pn_X10
def mi_X10_stem : MI := (yX10_stem, prog_12_method_21_code, 4, (some .int), 2, 46, 10, [(31, [(0, .aload_n 0, 1, 0), (1, .iload_n 1, 2, 0), (2, .invokevirtual 169, 5, 0), (5, .ifCond .eq 17, 8, 22), (8, .iload_n 2, 9, 0), (9, .i2l, 10, 0), (10, .ldc2_w 175, 13, 0), (13, .ldc2_w 177, 16, 0), (16, .invokestatic 124, 19, 0), (19, .ifCond .ne 7, 22, 26), (22, .sipush (-10000), 25, 0), (25, .ireturn, 26, 0), (26, .aload_n 0, 27, 0), (27, .getfield 32, 30, 0), (30, .iload_n 1, 31, 0), (31, .baload, 32, 0)]), (57, [(32, .ifCond .eq 7, 35, 39), (35, .sipush (-10002), 38, 0), (38, .ireturn, 39, 0), (39, .aload_n 0, 40, 0), (40, .invokevirtual 136, 43, 0), (43, .aload_n 0, 44, 0), (44, .getfield 36, 47, 0), (47, .iload_n 1, 48, 0), (48, .iaload, 49, 0), (49, .istore_n 3, 50, 0), (50, .aload_n 0, 51, 0), (51, .getfield 36, 54, 0), (54, .iload_n 1, 55, 0), (55, .iload_n 2, 56, 0), (56, .iastore, 57, 0), (57, .iload_n 3, 58, 0)]), (58, [(58, .ireturn, 59, 0)])])
theorem ok_X10_stem : ev_ok mi_X10_stem := ev_ok_of (by decide +kernel)
theorem pf_X10_stem : plainName mi_X10_stem.1.cls = true ∨ plainFor mi_X10_stem.1 = true := Or.inl pn_X10
def mi_X10_crack : MI := (yX10_crack, prog_12_method_22_code, 4, (some .int), 2, 46, 10, [(31, [(0, .aload_n 0, 1, 0), (1, .iload_n 1, 2, 0), (2, .invokevirtual 169, 5, 0), (5, .ifCond .eq 17, 8, 22), (8, .iload_n 2, 9, 0), (9, .i2l, 10, 0), (10, .ldc2_w 179, 13, 0), (13, .ldc2_w 143, 16, 0), (16, .invokestatic 124, 19, 0), (19, .ifCond .ne 7, 22, 26), (22, .sipush (-10000), 25, 0), (25, .ireturn, 26, 0), (26, .aload_n 0, 27, 0), (27, .invokevirtual 136, 30, 0), (30, .aload_n 0, 31, 0), (31, .getfield 39, 34, 0)]), (45, [(34, .iload_n 1, 35, 0), (35, .iaload, 36, 0), (36, .istore_n 3, 37, 0), (37, .aload_n 0, 38, 0), (38, .getfield 39, 41, 0), (41, .iload_n 1, 42, 0), (42, .iload_n 2, 43, 0), (43, .iastore, 44, 0), (44, .iload_n 3, 45, 0), (45, .ireturn, 46, 0)])])
theorem ok_X10_crack : ev_ok mi_X10_crack := ev_ok_of (by decide +kernel)
theorem pf_X10_crack : plainName mi_X10_crack.1.cls = true ∨ plainFor mi_X10_crack.1 = true := Or.inl pn_X10
def mi_X10_leak : MI := (yX10_leak, prog_12_method_23_code, 4, (some .int), 2, 46, 10, [(27, [(0, .aload_n 0, 1, 0), (1, .iload_n 1, 2, 0), (2, .invokevirtual 169, 5, 0), (5, .ifCond .ne 5, 8, 10), (8, .iconst (-1), 9, 0), (9, .ireturn, 10, 0), (10, .aload_n 0, 11, 0), (11, .invokevirtual 136, 14, 0), (14, .aload_n 0, 15, 0), (15, .getfield 42, 18, 0), (18, .iload_n 1, 19, 0), (19, .baload, 20, 0), (20, .ifCond .eq 7, 23, 27), (23, .iconst 1, 24, 0), (24, .goto 4, 27, 28), (27, .iconst 0, 28, 0)]), (37, [(28, .istore_n 3, 29, 0), (29, .aload_n 0, 30, 0), (30, .getfield 42, 33, 0), (33, .iload_n 1, 34, 0), (34, .iload_n 2, 35, 0), (35, .bastore, 36, 0), (36, .iload_n 3, 37, 0), (37, .ireturn, 38, 0)])])
theorem ok_X10_leak : ev_ok mi_X10_leak := ev_ok_of (by decide +kernel)
theorem pf_X10_leak : plainName mi_X10_leak.1.cls = true ∨ plainFor mi_X10_leak.1 = true := Or.inl pn_X10
def mi_X10_pitch : MI := (yX10_pitch, prog_12_method_24_code, 3, (some .int), 2, 46, 10, [(27, [(0, .aload_n 0, 1, 0), (1, .iload_n 1, 2, 0), (2, .invokevirtual 169, 5, 0), (5, .ifCond .eq 31, 8, 36), (8, .iload_n 2, 9, 0), (9, .i2l, 10, 0), (10, .lconst 0, 11, 0), (11, .ldc2_w 143, 14, 0), (14, .invokestatic 124, 17, 0), (17, .ifCond .eq 19, 20, 36), (20, .aload_n 0, 21, 0), (21, .getfield 22, 24, 0), (24, .iload_n 1, 25, 0), (25, .iaload, 26, 0), (26, .aload_n 0, 27, 0), (27, .iload_n 1, 28, 0)]), (39, [(28, .iload_n 2, 29, 0), (29, .invokevirtual 153, 32, 0), (32, .iadd, 33, 0), (33, .goto 6, 36, 39), (36, .sipush (-10000), 39, 0), (39, .ireturn, 40, 0)])])
theorem ok_X10_pitch : ev_ok mi_X10_pitch := ev_ok_of (by decide +kernel)
theorem pf_X10_pitch : plainName mi_X10_pitch.1.cls = true ∨ plainFor mi_X10_pitch.1 = true := Or.inl pn_X10
def mi_X10_holds : MI := (yX10_holds, prog_12_method_25_code, 4, (some .int), 2, 46, 10, [(27, [(0, .aload_n 0, 1, 0), (1, .iload_n 1, 2, 0), (2, .invokevirtual 169, 5, 0), (5, .ifCond .eq 15, 8, 20), (8, .iload_n 2, 9, 0), (9, .i2l, 10, 0), (10, .lconst 0, 11, 0), (11, .ldc2_w 181, 14, 0), (14, .invokestatic 124, 17, 0), (17, .ifCond .ne 5, 20, 22), (20, .iconst (-1), 21, 0), (21, .ireturn, 22, 0), (22, .aload_n 0, 23, 0), (23, .getfield 19, 26, 0), (26, .iconst 1, 27, 0), (27, .iadd, 28, 0)]), (55, [(28, .istore_n 3, 29, 0), (29, .iload_n 3, 30, 0), (30, .ifCond .le 24, 33, 54), (33, .aload_n 0, 34, 0), (34, .iload_n 1, 35, 0), (35, .iload_n 3, 36, 0), (36, .iconst 1, 37, 0), (37, .isub, 38, 0), (38, .invokevirtual 153, 41, 0), (41, .invokestatic 156, 44, 0), (44, .iload_n 2, 45, 0), (45, .if_icmp .gt 9, 48, 54), (48, .iinc 3 (-1), 51, 0), (51, .goto (-22), 54, 29), (54, .iload_n 3, 55, 0), (55, .aload_n 0, 56, 0)]), (68, [(56, .getfield 19, 59, 0), (59, .if_icmp .le 8, 62, 67), (62, .bipush (-4), 64, 0), (64, .goto 4, 67, 68), (67, .iload_n 3, 68, 0), (68, .ireturn, 69, 0)])])
theorem ok_X10_holds : ev_ok mi_X10_holds := ev_ok_of (by decide +kernel)
theorem pf_X10_holds : plainName mi_X10_holds.1.cls = true ∨ plainFor mi_X10_holds.1 = true := Or.inl pn_X10
def mi_X10_tuneAll : MI := (yX10_tuneAll, prog_12_method_26_code, 5, (some .int), 2, 44, 10, [(23, [(0, .iload_n 1, 1, 0), (1, .i2l, 2, 0), (2, .lconst 0, 3, 0), (3, .ldc2_w 143, 6, 0), (6, .invokestatic 124, 9, 0), (9, .ifCond .ne 5, 12, 14), (12, .iconst (-1), 13, 0), (13, .ireturn, 14, 0), (14, .aload_n 0, 15, 0), (15, .invokevirtual 136, 18, 0), (18, .iconst 0, 19, 0), (19, .istore_n 2, 20, 0), (20, .iconst 0, 21, 0), (21, .istore_n 3, 22, 0), (22, .iload_n 3, 23, 0), (23, .aload_n 0, 24, 0)]), (51, [(24, .getfield 121, 27, 0), (27, .if_icmp .ge 82, 30, 109), (30, .aload_n 0, 31, 0), (31, .getfield 32, 34, 0), (34, .iload_n 3, 35, 0), (35, .baload, 36, 0), (36, .ifCond .ne 50, 39, 86), (39, .aload_n 0, 40, 0), (40, .getfield 36, 43, 0), (43, .iload_n 3, 44, 0), (44, .iaload, 45, 0), (45, .aload_n 0, 46, 0), (46, .iload_n 3, 47, 0), (47, .iload_n 1, 48, 0), (48, .invokevirtual 153, 51, 0), (51, .isub, 52, 0)]), (85, [(52, .istore 4, 54, 0), (54, .aload_n 0, 55, 0), (55, .getfield 36, 58, 0), (58, .iload_n 3, 59, 0), (59, .iload 4, 61, 0), (61, .bipush 100, 63, 0), (63, .if_icmp .le 8, 66, 71), (66, .bipush 100, 68, 0), (68, .goto 17, 71, 85), (71, .iload 4, 73, 0), (73, .bipush (-100), 75, 0), (75, .if_icmp .ge 8, 78, 83), (78, .bipush (-100), 80, 0), (80, .goto 5, 83, 85), (83, .iload 4, 85, 0), (85, .iastore, 86, 0)]), (110, [(86, .iload_n 2, 87, 0), (87, .aload_n 0, 88, 0), (88, .iload_n 3, 89, 0), (89, .iload_n 1, 90, 0), (90, .invokevirtual 153, 93, 0), (93, .ifCond .ne 7, 96, 100), (96, .iconst 0, 97, 0), (97, .goto 4, 100, 101), (100, .iconst 1, 101, 0), (101, .iadd, 102, 0), (102, .istore_n 2, 103, 0), (103, .iinc 3 1, 106, 0), (106, .goto (-84), 109, 22), (109, .iload_n 2, 110, 0), (110, .ireturn, 111, 0)])])
theorem ok_X10_tuneAll : ev_ok mi_X10_tuneAll := ev_ok_of (by decide +kernel)
theorem pf_X10_tuneAll : plainName mi_X10_tuneAll.1.cls = true ∨ plainFor mi_X10_tuneAll.1 = true := Or.inl pn_X10
def mi_X10_agree : MI := (yX10_agree, prog_12_method_27_code, 6, (some .int), 3, 69, 10, [(26, [(0, .iload_n 1, 1, 0), (1, .i2l, 2, 0), (2, .lconst 0, 3, 0), (3, .ldc2_w 183, 6, 0), (6, .invokestatic 124, 9, 0), (9, .ifCond .ne 5, 12, 14), (12, .iconst (-1), 13, 0), (13, .ireturn, 14, 0), (14, .aload_n 0, 15, 0), (15, .getfield 121, 18, 0), (18, .ifCond .ne 6, 21, 24), (21, .bipush (-4), 23, 0), (23, .ireturn, 24, 0), (24, .iconst 0, 25, 0), (25, .istore_n 2, 26, 0), (26, .ldc 185, 28, 0)]), (52, [(28, .istore_n 3, 29, 0), (29, .iconst 0, 30, 0), (30, .istore 4, 32, 0), (32, .iload 4, 34, 0), (34, .aload_n 0, 35, 0), (35, .getfield 19, 38, 0), (38, .if_icmp .gt 37, 41, 75), (41, .aload_n 0, 42, 0), (42, .iconst 1, 43, 0), (43, .aload_n 0, 44, 0), (44, .getfield 121, 47, 0), (47, .ishl, 48, 0), (48, .iconst 1, 49, 0), (49, .isub, 50, 0), (50, .iload 4, 52, 0), (52, .invokevirtual 159, 55, 0)]), (83, [(55, .istore 5, 57, 0), (57, .iload 5, 59, 0), (59, .iload_n 3, 60, 0), (60, .if_icmp .gt 9, 63, 69), (63, .iload 4, 65, 0), (65, .istore_n 2, 66, 0), (66, .iload 5, 68, 0), (68, .istore_n 3, 69, 0), (69, .iinc 4 1, 72, 0), (72, .goto (-40), 75, 32), (75, .iconst 0, 76, 0), (76, .istore 4, 78, 0), (78, .iconst 0, 79, 0), (79, .istore 5, 81, 0), (81, .iload 5, 83, 0), (83, .aload_n 0, 84, 0)]), (116, [(84, .getfield 121, 87, 0), (87, .if_icmp .ge 29, 90, 116), (90, .iload 4, 92, 0), (92, .aload_n 0, 93, 0), (93, .iload 5, 95, 0), (95, .iload_n 2, 96, 0), (96, .invokevirtual 153, 99, 0), (99, .ifCond .ne 7, 102, 106), (102, .iconst 1, 103, 0), (103, .goto 4, 106, 107), (106, .iconst 0, 107, 0), (107, .iadd, 108, 0), (108, .istore 4, 110, 0), (110, .iinc 5 1, 113, 0), (113, .goto (-32), 116, 81), (116, .iload_n 1, 117, 0)]), (135, [(117, .ifCond .ne 7, 120, 124), (120, .iload_n 2, 121, 0), (121, .goto 14, 124, 135), (124, .iload_n 1, 125, 0), (125, .iconst 1, 126, 0), (126, .if_icmp .ne 7, 129, 133), (129, .iload_n 3, 130, 0), (130, .goto 5, 133, 135), (133, .iload 4, 135, 0), (135, .ireturn, 136, 0)])])
theorem ok_X10_agree : ev_ok mi_X10_agree := ev_ok_of (by decide +kernel)
theorem pf_X10_agree : plainName mi_X10_agree.1.cls = true ∨ plainFor mi_X10_agree.1 = true := Or.inl pn_X10
def mi_X10_feed : MI := (yX10_feed, prog_12_method_28_code, 4, (some .int), 0, 0, 10, [(28, [(0, .aload_n 0, 1, 0), (1, .getfield 186, 4, 0), (4, .bipush 8, 6, 0), (6, .iadd, 7, 0), (7, .sipush 160, 10, 0), (10, .if_icmp .le 6, 13, 16), (13, .bipush (-3), 15, 0), (15, .ireturn, 16, 0), (16, .bipush 56, 18, 0), (18, .istore_n 3, 19, 0), (19, .iload_n 3, 20, 0), (20, .ifCond .lt 36, 23, 56), (23, .aload_n 0, 24, 0), (24, .getfield 48, 27, 0), (27, .aload_n 0, 28, 0), (28, .getfield 186, 31, 0)]), (56, [(31, .lload_n 1, 32, 0), (32, .iload_n 3, 33, 0), (33, .lshr, 34, 0), (34, .ldc2_w 189, 37, 0), (37, .land, 38, 0), (38, .l2i, 39, 0), (39, .iastore, 40, 0), (40, .aload_n 0, 41, 0), (41, .dup, 42, 0), (42, .getfield 186, 45, 0), (45, .iconst 1, 46, 0), (46, .iadd, 47, 0), (47, .putfield 186, 50, 0), (50, .iinc 3 (-8), 53, 0), (53, .goto (-34), 56, 19), (56, .aload_n 0, 57, 0)]), (60, [(57, .getfield 186, 60, 0), (60, .ireturn, 61, 0)])])
theorem ok_X10_feed : ev_ok mi_X10_feed := ev_ok_of (by decide +kernel)
theorem pf_X10_feed : plainName mi_X10_feed.1.cls = true ∨ plainFor mi_X10_feed.1 = true := Or.inl pn_X10
def mi_X10_end : MI := (yX10_end, prog_12_method_29_code, 3, (some .int), 1, 25, 10, [(23, [(0, .iload_n 1, 1, 0), (1, .i2l, 2, 0), (2, .lconst 0, 3, 0), (3, .aload_n 0, 4, 0), (4, .getfield 186, 7, 0), (7, .i2l, 8, 0), (8, .invokestatic 124, 11, 0), (11, .ifCond .ne 5, 14, 16), (14, .iconst (-1), 15, 0), (15, .ireturn, 16, 0), (16, .aload_n 0, 17, 0), (17, .getfield 186, 20, 0), (20, .istore_n 2, 21, 0), (21, .aload_n 0, 22, 0), (22, .iload_n 1, 23, 0), (23, .putfield 186, 26, 0)]), (27, [(26, .iload_n 2, 27, 0), (27, .ireturn, 28, 0)])])
theorem ok_X10_end : ev_ok mi_X10_end := ev_ok_of (by decide +kernel)
theorem pf_X10_end : plainName mi_X10_end.1.cls = true ∨ plainFor mi_X10_end.1 = true := Or.inl pn_X10
def mi_X10_fails : MI := (yX10_fails, prog_12_method_30_code, 3, none, 0, 0, 10, [(17, [(0, .aload_n 0, 1, 0), (1, .getfield 191, 4, 0), (4, .ifCond .ne 13, 7, 17), (7, .aload_n 0, 8, 0), (8, .iload_n 1, 9, 0), (9, .putfield 191, 12, 0), (12, .aload_n 0, 13, 0), (13, .iload_n 2, 14, 0), (14, .putfield 194, 17, 0), (17, .return_, 18, 0)])])
theorem ok_X10_fails : ev_ok mi_X10_fails := ev_ok_of (by decide +kernel)
theorem pf_X10_fails : plainName mi_X10_fails.1.cls = true ∨ plainFor mi_X10_fails.1 = true := Or.inl pn_X10
def mi_X10_wants : MI := (yX10_wants, prog_12_method_31_code, 3, none, 1, 22, 10, [(13, [(0, .iload_n 1, 1, 0), (1, .ifCond .ne 12, 4, 13), (4, .aload_n 0, 5, 0), (5, .iload_n 2, 6, 0), (6, .aload_n 0, 7, 0), (7, .getfield 197, 10, 0), (10, .invokevirtual 200, 13, 0), (13, .return_, 14, 0)])])
theorem ok_X10_wants : ev_ok mi_X10_wants := ev_ok_of (by decide +kernel)
theorem pf_X10_wants : plainName mi_X10_wants.1.cls = true ∨ plainFor mi_X10_wants.1 = true := Or.inl pn_X10
def mi_X10_look : MI := (yX10_look, prog_12_method_32_code, 2, (some .int), 0, 0, 10, [(18, [(0, .iload_n 1, 1, 0), (1, .aload_n 0, 2, 0), (2, .getfield 186, 5, 0), (5, .if_icmp .ge 12, 8, 17), (8, .aload_n 0, 9, 0), (9, .getfield 48, 12, 0), (12, .iload_n 1, 13, 0), (13, .iaload, 14, 0), (14, .goto 4, 17, 18), (17, .iconst (-1), 18, 0), (18, .ireturn, 19, 0)])])
theorem ok_X10_look : ev_ok mi_X10_look := ev_ok_of (by decide +kernel)
theorem pf_X10_look : plainName mi_X10_look.1.cls = true ∨ plainFor mi_X10_look.1 = true := Or.inl pn_X10
def mi_X10_bits : MI := (yX10_bits, prog_12_method_33_code, 3, (some .int), 0, 0, 10, [(18, [(0, .iconst 0, 1, 0), (1, .istore_n 1, 2, 0), (2, .iconst 0, 3, 0), (3, .istore_n 2, 4, 0), (4, .iload_n 2, 5, 0), (5, .bipush 12, 7, 0), (7, .if_icmp .ge 17, 10, 24), (10, .iload_n 1, 11, 0), (11, .iload_n 0, 12, 0), (12, .iload_n 2, 13, 0), (13, .ishr, 14, 0), (14, .iconst 1, 15, 0), (15, .iand, 16, 0), (16, .iadd, 17, 0), (17, .istore_n 1, 18, 0), (18, .iinc 2 1, 21, 0)]), (25, [(21, .goto (-17), 24, 4), (24, .iload_n 1, 25, 0), (25, .ireturn, 26, 0)])])
theorem ok_X10_bits : ev_ok mi_X10_bits := ev_ok_of (by decide +kernel)
theorem pf_X10_bits : plainName mi_X10_bits.1.cls = true ∨ plainFor mi_X10_bits.1 = true := Or.inl pn_X10
def mi_X10_readChord : MI := (yX10_readChord, prog_12_method_34_code, 2, none, 1, 25, 10, [(31, [(0, .aload_n 0, 1, 0), (1, .iconst 1, 2, 0), (2, .putfield 204, 5, 0), (5, .aload_n 0, 6, 0), (6, .iconst 0, 7, 0), (7, .putfield 207, 10, 0), (10, .aload_n 0, 11, 0), (11, .aload_n 0, 12, 0), (12, .getfield 210, 15, 0), (15, .invokevirtual 213, 18, 0), (18, .i2l, 19, 0), (19, .ldc2_w 216, 22, 0), (22, .ldc2_w 218, 25, 0), (25, .invokestatic 124, 28, 0), (28, .ifCond .eq 100, 31, 128), (31, .aload_n 0, 32, 0)]), (59, [(32, .getfield 191, 35, 0), (35, .ifCond .ne 93, 38, 128), (38, .aload_n 0, 39, 0), (39, .aload_n 0, 40, 0), (40, .getfield 210, 43, 0), (43, .invokevirtual 213, 46, 0), (46, .bipush 97, 48, 0), (48, .isub, 49, 0), (49, .istore_n 1, 50, 0), (50, .iload_n 1, 51, 0), (51, .bipush 11, 53, 0), (53, .if_icmp .le 15, 56, 68), (56, .aload_n 0, 57, 0), (57, .iconst 1, 58, 0), (58, .aload_n 0, 59, 0), (59, .getfield 210, 62, 0)]), (91, [(62, .invokevirtual 200, 65, 0), (65, .goto 50, 68, 115), (68, .aload_n 0, 69, 0), (69, .getfield 207, 72, 0), (72, .iload_n 1, 73, 0), (73, .ishr, 74, 0), (74, .iconst 1, 75, 0), (75, .iand, 76, 0), (76, .iconst 1, 77, 0), (77, .if_icmp .eq 14, 80, 91), (80, .aload_n 0, 81, 0), (81, .getfield 207, 84, 0), (84, .invokestatic 220, 87, 0), (87, .iconst 5, 88, 0), (88, .if_icmp .ne 15, 91, 103), (91, .aload_n 0, 92, 0)]), (117, [(92, .iconst 4, 93, 0), (93, .aload_n 0, 94, 0), (94, .getfield 210, 97, 0), (97, .invokevirtual 200, 100, 0), (100, .goto 15, 103, 115), (103, .aload_n 0, 104, 0), (104, .dup, 105, 0), (105, .getfield 207, 108, 0), (108, .iconst 1, 109, 0), (109, .iload_n 1, 110, 0), (110, .ishl, 111, 0), (111, .ior, 112, 0), (112, .putfield 207, 115, 0), (115, .aload_n 0, 116, 0), (116, .dup, 117, 0), (117, .getfield 210, 120, 0)]), (128, [(120, .iconst 1, 121, 0), (121, .iadd, 122, 0), (122, .putfield 210, 125, 0), (125, .goto (-115), 128, 10), (128, .return_, 129, 0)])])
theorem ok_X10_readChord : ev_ok mi_X10_readChord := ev_ok_of (by decide +kernel)
theorem pf_X10_readChord : plainName mi_X10_readChord.1.cls = true ∨ plainFor mi_X10_readChord.1 = true := Or.inl pn_X10
def mi_X10_next : MI := (yX10_next, prog_12_method_35_code, 2, none, 2, 46, 10, [(28, [(0, .aload_n 0, 1, 0), (1, .getfield 191, 4, 0), (4, .ifCond .le 4, 7, 8), (7, .return_, 8, 0), (8, .aload_n 0, 9, 0), (9, .aload_n 0, 10, 0), (10, .getfield 210, 13, 0), (13, .invokevirtual 213, 16, 0), (16, .bipush 32, 18, 0), (18, .if_icmp .ne 16, 21, 34), (21, .aload_n 0, 22, 0), (22, .dup, 23, 0), (23, .getfield 210, 26, 0), (26, .iconst 1, 27, 0), (27, .iadd, 28, 0), (28, .putfield 210, 31, 0)]), (60, [(31, .goto (-23), 34, 8), (34, .aload_n 0, 35, 0), (35, .aload_n 0, 36, 0), (36, .getfield 210, 39, 0), (39, .putfield 197, 42, 0), (42, .aload_n 0, 43, 0), (43, .aload_n 0, 44, 0), (44, .getfield 210, 47, 0), (47, .invokevirtual 213, 50, 0), (50, .istore_n 1, 51, 0), (51, .iload_n 1, 52, 0), (52, .ifCond .ge 11, 55, 63), (55, .aload_n 0, 56, 0), (56, .iconst 0, 57, 0), (57, .putfield 204, 60, 0), (60, .goto 199, 63, 259)]), (98, [(63, .iload_n 1, 64, 0), (64, .i2l, 65, 0), (65, .ldc2_w 216, 68, 0), (68, .ldc2_w 218, 71, 0), (71, .invokestatic 124, 74, 0), (74, .ifCond .eq 10, 77, 84), (77, .aload_n 0, 78, 0), (78, .invokevirtual 223, 81, 0), (81, .goto 178, 84, 259), (84, .iload_n 1, 85, 0), (85, .i2l, 86, 0), (86, .ldc2_w 226, 89, 0), (89, .ldc2_w 228, 92, 0), (92, .invokestatic 124, 95, 0), (95, .ifCond .eq 116, 98, 211), (98, .aload_n 0, 99, 0)]), (130, [(99, .iconst 2, 100, 0), (100, .putfield 204, 103, 0), (103, .aload_n 0, 104, 0), (104, .iconst 0, 105, 0), (105, .putfield 207, 108, 0), (108, .aload_n 0, 109, 0), (109, .aload_n 0, 110, 0), (110, .getfield 210, 113, 0), (113, .invokevirtual 213, 116, 0), (116, .i2l, 117, 0), (117, .ldc2_w 226, 120, 0), (120, .ldc2_w 228, 123, 0), (123, .invokestatic 124, 126, 0), (126, .ifCond .eq 59, 129, 185), (129, .aload_n 0, 130, 0), (130, .aload_n 0, 131, 0)]), (159, [(131, .getfield 210, 134, 0), (134, .aload_n 0, 135, 0), (135, .getfield 197, 138, 0), (138, .isub, 139, 0), (139, .iconst 2, 140, 0), (140, .if_icmp .ge 25, 143, 165), (143, .bipush 10, 145, 0), (145, .aload_n 0, 146, 0), (146, .getfield 207, 149, 0), (149, .imul, 150, 0), (150, .aload_n 0, 151, 0), (151, .aload_n 0, 152, 0), (152, .getfield 210, 155, 0), (155, .invokevirtual 213, 158, 0), (158, .iadd, 159, 0), (159, .bipush 48, 161, 0)]), (190, [(161, .isub, 162, 0), (162, .goto 7, 165, 169), (165, .aload_n 0, 166, 0), (166, .getfield 207, 169, 0), (169, .putfield 207, 172, 0), (172, .aload_n 0, 173, 0), (173, .dup, 174, 0), (174, .getfield 210, 177, 0), (177, .iconst 1, 178, 0), (178, .iadd, 179, 0), (179, .putfield 210, 182, 0), (182, .goto (-74), 185, 108), (185, .aload_n 0, 186, 0), (186, .aload_n 0, 187, 0), (187, .getfield 210, 190, 0), (190, .aload_n 0, 191, 0)]), (218, [(191, .getfield 197, 194, 0), (194, .isub, 195, 0), (195, .iconst 2, 196, 0), (196, .if_icmp .gt 7, 199, 203), (199, .iconst 1, 200, 0), (200, .goto 4, 203, 204), (203, .iconst 0, 204, 0), (204, .iconst 1, 205, 0), (205, .invokevirtual 230, 208, 0), (208, .goto 51, 211, 259), (211, .aload_n 0, 212, 0), (212, .iconst 3, 213, 0), (213, .putfield 204, 216, 0), (216, .aload_n 0, 217, 0), (217, .iload_n 1, 218, 0), (218, .putfield 207, 221, 0)]), (249, [(221, .aload_n 0, 222, 0), (222, .iload_n 1, 223, 0), (223, .bipush 40, 225, 0), (225, .if_icmp .eq 15, 228, 240), (228, .iload_n 1, 229, 0), (229, .bipush 41, 231, 0), (231, .if_icmp .eq 9, 234, 240), (234, .iload_n 1, 235, 0), (235, .bipush 46, 237, 0), (237, .if_icmp .ne 7, 240, 244), (240, .iconst 1, 241, 0), (241, .goto 4, 244, 245), (244, .iconst 0, 245, 0), (245, .iconst 1, 246, 0), (246, .invokevirtual 230, 249, 0), (249, .aload_n 0, 250, 0)]), (259, [(250, .dup, 251, 0), (251, .getfield 210, 254, 0), (254, .iconst 1, 255, 0), (255, .iadd, 256, 0), (256, .putfield 210, 259, 0), (259, .return_, 260, 0)])])
theorem ok_X10_next : ev_ok mi_X10_next := ev_ok_of (by decide +kernel)
theorem pf_X10_next : plainName mi_X10_next.1.cls = true ∨ plainFor mi_X10_next.1 = true := Or.inl pn_X10
def mi_X10_isSign : MI := (yX10_isSign, prog_12_method_36_code, 2, (some .boolean), 0, 0, 10, [(21, [(0, .aload_n 0, 1, 0), (1, .getfield 204, 4, 0), (4, .iconst 3, 5, 0), (5, .if_icmp .ne 15, 8, 20), (8, .aload_n 0, 9, 0), (9, .getfield 207, 12, 0), (12, .iload_n 1, 13, 0), (13, .if_icmp .ne 7, 16, 20), (16, .iconst 1, 17, 0), (17, .goto 4, 20, 21), (20, .iconst 0, 21, 0), (21, .ireturn, 22, 0)])])
theorem ok_X10_isSign : ev_ok mi_X10_isSign := ev_ok_of (by decide +kernel)
theorem pf_X10_isSign : plainName mi_X10_isSign.1.cls = true ∨ plainFor mi_X10_isSign.1 = true := Or.inl pn_X10
def mi_X10_beatRead : MI := (yX10_beatRead, prog_12_method_37_code, 2, none, 0, 0, 10, [(28, [(0, .aload_n 0, 1, 0), (1, .getfield 234, 4, 0), (4, .bipush 60, 6, 0), (6, .if_icmp .lt 11, 9, 17), (9, .aload_n 0, 10, 0), (10, .iconst 1, 11, 0), (11, .putfield 237, 14, 0), (14, .goto 23, 17, 37), (17, .aload_n 0, 18, 0), (18, .getfield 57, 21, 0), (21, .aload_n 0, 22, 0), (22, .getfield 234, 25, 0), (25, .iload_n 1, 26, 0), (26, .iastore, 27, 0), (27, .aload_n 0, 28, 0), (28, .dup, 29, 0)]), (37, [(29, .getfield 234, 32, 0), (32, .iconst 1, 33, 0), (33, .iadd, 34, 0), (34, .putfield 234, 37, 0), (37, .return_, 38, 0)])])
theorem ok_X10_beatRead : ev_ok mi_X10_beatRead := ev_ok_of (by decide +kernel)
theorem pf_X10_beatRead : plainName mi_X10_beatRead.1.cls = true ∨ plainFor mi_X10_beatRead.1 = true := Or.inl pn_X10
def mi_X10_closes : MI := (yX10_closes, prog_12_method_38_code, 4, none, 0, 0, 10, [(25, [(0, .aload_n 0, 1, 0), (1, .dup, 2, 0), (2, .getfield 241, 5, 0), (5, .iconst 1, 6, 0), (6, .isub, 7, 0), (7, .putfield 241, 10, 0), (10, .aload_n 0, 11, 0), (11, .getfield 60, 14, 0), (14, .aload_n 0, 15, 0), (15, .getfield 241, 18, 0), (18, .iaload, 19, 0), (19, .istore_n 1, 20, 0), (20, .aload_n 0, 21, 0), (21, .getfield 234, 24, 0), (24, .iload_n 1, 25, 0), (25, .isub, 26, 0)]), (50, [(26, .istore_n 2, 27, 0), (27, .iload_n 2, 28, 0), (28, .aload_n 0, 29, 0), (29, .getfield 63, 32, 0), (32, .aload_n 0, 33, 0), (33, .getfield 241, 36, 0), (36, .iaload, 37, 0), (37, .imul, 38, 0), (38, .iload_n 1, 39, 0), (39, .iadd, 40, 0), (40, .bipush 24, 42, 0), (42, .if_icmp .le 11, 45, 53), (45, .aload_n 0, 46, 0), (46, .iconst 1, 47, 0), (47, .putfield 237, 50, 0), (50, .goto 61, 53, 111)]), (76, [(53, .iload_n 2, 54, 0), (54, .istore_n 3, 55, 0), (55, .iload_n 3, 56, 0), (56, .iload_n 2, 57, 0), (57, .aload_n 0, 58, 0), (58, .getfield 63, 61, 0), (61, .aload_n 0, 62, 0), (62, .getfield 241, 65, 0), (65, .iaload, 66, 0), (66, .imul, 67, 0), (67, .if_icmp .ge 27, 70, 94), (70, .aload_n 0, 71, 0), (71, .getfield 57, 74, 0), (74, .iload_n 1, 75, 0), (75, .iload_n 3, 76, 0), (76, .iadd, 77, 0)]), (98, [(77, .aload_n 0, 78, 0), (78, .getfield 57, 81, 0), (81, .iload_n 1, 82, 0), (82, .iload_n 3, 83, 0), (83, .iadd, 84, 0), (84, .iload_n 2, 85, 0), (85, .isub, 86, 0), (86, .iaload, 87, 0), (87, .iastore, 88, 0), (88, .iinc 3 1, 91, 0), (91, .goto (-36), 94, 55), (94, .aload_n 0, 95, 0), (95, .iload_n 1, 96, 0), (96, .iload_n 2, 97, 0), (97, .aload_n 0, 98, 0), (98, .getfield 63, 101, 0)]), (111, [(101, .aload_n 0, 102, 0), (102, .getfield 241, 105, 0), (105, .iaload, 106, 0), (106, .imul, 107, 0), (107, .iadd, 108, 0), (108, .putfield 234, 111, 0), (111, .return_, 112, 0)])])
theorem ok_X10_closes : ev_ok mi_X10_closes := ev_ok_of (by decide +kernel)
theorem pf_X10_closes : plainName mi_X10_closes.1.cls = true ∨ plainFor mi_X10_closes.1 = true := Or.inl pn_X10
def mi_X10_readTune : MI := (yX10_readTune, prog_12_method_39_code, 4, none, 3, 67, 10, [(23, [(0, .iconst 1, 1, 0), (1, .istore_n 1, 2, 0), (2, .aload_n 0, 3, 0), (3, .iconst 0, 4, 0), (4, .putfield 241, 7, 0), (7, .aload_n 0, 8, 0), (8, .iconst 0, 9, 0), (9, .putfield 234, 12, 0), (12, .aload_n 0, 13, 0), (13, .iconst 0, 14, 0), (14, .putfield 237, 17, 0), (17, .iconst 1, 18, 0), (18, .istore_n 2, 19, 0), (19, .iload_n 2, 20, 0), (20, .ifCond .eq 232, 23, 252), (23, .aload_n 0, 24, 0)]), (56, [(24, .getfield 191, 27, 0), (27, .ifCond .ne 225, 30, 252), (30, .aload_n 0, 31, 0), (31, .getfield 204, 34, 0), (34, .iconst 1, 35, 0), (35, .if_icmp .eq 12, 38, 47), (38, .aload_n 0, 39, 0), (39, .bipush 46, 41, 0), (41, .invokevirtual 244, 44, 0), (44, .ifCond .eq 32, 47, 76), (47, .aload_n 0, 48, 0), (48, .aload_n 0, 49, 0), (49, .getfield 204, 52, 0), (52, .iconst 1, 53, 0), (53, .if_icmp .ne 10, 56, 63), (56, .aload_n 0, 57, 0)]), (86, [(57, .getfield 207, 60, 0), (60, .goto 4, 63, 64), (63, .iconst 0, 64, 0), (64, .invokevirtual 247, 67, 0), (67, .iconst 0, 68, 0), (68, .istore_n 1, 69, 0), (69, .aload_n 0, 70, 0), (70, .invokevirtual 251, 73, 0), (73, .goto (-54), 76, 19), (76, .aload_n 0, 77, 0), (77, .getfield 204, 80, 0), (80, .iconst 2, 81, 0), (81, .if_icmp .ne 107, 84, 188), (84, .aload_n 0, 85, 0), (85, .aload_n 0, 86, 0), (86, .getfield 207, 89, 0)]), (117, [(89, .i2l, 90, 0), (90, .lconst 1, 91, 0), (91, .ldc2_w 167, 94, 0), (94, .invokestatic 124, 97, 0), (97, .iconst 3, 98, 0), (98, .invokevirtual 230, 101, 0), (101, .aload_n 0, 102, 0), (102, .getfield 207, 105, 0), (105, .istore_n 3, 106, 0), (106, .aload_n 0, 107, 0), (107, .invokevirtual 251, 110, 0), (110, .aload_n 0, 111, 0), (111, .aload_n 0, 112, 0), (112, .bipush 40, 114, 0), (114, .invokevirtual 244, 117, 0), (117, .iconst 2, 118, 0)]), (147, [(118, .invokevirtual 230, 121, 0), (121, .aload_n 0, 122, 0), (122, .aload_n 0, 123, 0), (123, .getfield 241, 126, 0), (126, .iconst 4, 127, 0), (127, .if_icmp .ge 7, 130, 134), (130, .iconst 1, 131, 0), (131, .goto 4, 134, 135), (134, .iconst 0, 135, 0), (135, .iconst 5, 136, 0), (136, .invokevirtual 230, 139, 0), (139, .aload_n 0, 140, 0), (140, .getfield 191, 143, 0), (143, .ifCond .ne 38, 146, 181), (146, .aload_n 0, 147, 0), (147, .getfield 60, 150, 0)]), (175, [(150, .aload_n 0, 151, 0), (151, .getfield 241, 154, 0), (154, .aload_n 0, 155, 0), (155, .getfield 234, 158, 0), (158, .iastore, 159, 0), (159, .aload_n 0, 160, 0), (160, .getfield 63, 163, 0), (163, .aload_n 0, 164, 0), (164, .getfield 241, 167, 0), (167, .iload_n 3, 168, 0), (168, .iastore, 169, 0), (169, .aload_n 0, 170, 0), (170, .dup, 171, 0), (171, .getfield 241, 174, 0), (174, .iconst 1, 175, 0), (175, .iadd, 176, 0)]), (208, [(176, .putfield 241, 179, 0), (179, .iconst 1, 180, 0), (180, .istore_n 1, 181, 0), (181, .aload_n 0, 182, 0), (182, .invokevirtual 251, 185, 0), (185, .goto (-166), 188, 19), (188, .aload_n 0, 189, 0), (189, .bipush 41, 191, 0), (191, .invokevirtual 244, 194, 0), (194, .ifCond .eq 25, 197, 219), (197, .aload_n 0, 198, 0), (198, .getfield 241, 201, 0), (201, .ifCond .le 18, 204, 219), (204, .iload_n 1, 205, 0), (205, .ifCond .ne 14, 208, 219), (208, .aload_n 0, 209, 0)]), (242, [(209, .invokevirtual 254, 212, 0), (212, .aload_n 0, 213, 0), (213, .invokevirtual 251, 216, 0), (216, .goto (-197), 219, 19), (219, .aload_n 0, 220, 0), (220, .aload_n 0, 221, 0), (221, .getfield 204, 224, 0), (224, .ifCond .ne 18, 227, 242), (227, .aload_n 0, 228, 0), (228, .getfield 241, 231, 0), (231, .ifCond .ne 11, 234, 242), (234, .iload_n 1, 235, 0), (235, .ifCond .ne 7, 238, 242), (238, .iconst 1, 239, 0), (239, .goto 4, 242, 243), (242, .iconst 0, 243, 0)]), (275, [(243, .iconst 2, 244, 0), (244, .invokevirtual 230, 247, 0), (247, .iconst 0, 248, 0), (248, .istore_n 2, 249, 0), (249, .goto (-230), 252, 19), (252, .aload_n 0, 253, 0), (253, .getfield 191, 256, 0), (256, .ifCond .ne 26, 259, 282), (259, .aload_n 0, 260, 0), (260, .getfield 237, 263, 0), (263, .ifCond .ne 12, 266, 275), (266, .aload_n 0, 267, 0), (267, .getfield 234, 270, 0), (270, .bipush 24, 272, 0), (272, .if_icmp .le 10, 275, 282), (275, .aload_n 0, 276, 0)]), (282, [(276, .bipush 6, 278, 0), (278, .iconst 0, 279, 0), (279, .invokevirtual 200, 282, 0), (282, .return_, 283, 0)])])
theorem ok_X10_readTune : ev_ok mi_X10_readTune := ev_ok_of (by decide +kernel)
theorem pf_X10_readTune : plainName mi_X10_readTune.1.cls = true ∨ plainFor mi_X10_readTune.1 = true := Or.inl pn_X10
def mi_X10_tune : MI := (yX10_tune, prog_12_method_40_code, 2, (some .int), 4, 90, 10, [(27, [(0, .aload_n 0, 1, 0), (1, .getfield 257, 4, 0), (4, .bipush 6, 6, 0), (6, .if_icmp .ne 6, 9, 12), (9, .bipush (-3), 11, 0), (11, .ireturn, 12, 0), (12, .aload_n 0, 13, 0), (13, .iconst 0, 14, 0), (14, .putfield 191, 17, 0), (17, .aload_n 0, 18, 0), (18, .iconst 0, 19, 0), (19, .putfield 210, 22, 0), (22, .aload_n 0, 23, 0), (23, .invokevirtual 251, 26, 0), (26, .aload_n 0, 27, 0), (27, .invokevirtual 260, 30, 0)]), (54, [(30, .aload_n 0, 31, 0), (31, .iconst 0, 32, 0), (32, .putfield 186, 35, 0), (35, .aload_n 0, 36, 0), (36, .getfield 191, 39, 0), (39, .ifCond .le 11, 42, 50), (42, .bipush (-10), 44, 0), (44, .aload_n 0, 45, 0), (45, .getfield 194, 48, 0), (48, .isub, 49, 0), (49, .ireturn, 50, 0), (50, .iconst 0, 51, 0), (51, .istore_n 1, 52, 0), (52, .iload_n 1, 53, 0), (53, .aload_n 0, 54, 0), (54, .getfield 234, 57, 0)]), (83, [(57, .if_icmp .ge 29, 60, 86), (60, .aload_n 0, 61, 0), (61, .getfield 54, 64, 0), (64, .bipush 24, 66, 0), (66, .aload_n 0, 67, 0), (67, .getfield 257, 70, 0), (70, .imul, 71, 0), (71, .iload_n 1, 72, 0), (72, .iadd, 73, 0), (73, .aload_n 0, 74, 0), (74, .getfield 57, 77, 0), (77, .iload_n 1, 78, 0), (78, .iaload, 79, 0), (79, .iastore, 80, 0), (80, .iinc 1 1, 83, 0), (83, .goto (-31), 86, 52)]), (113, [(86, .aload_n 0, 87, 0), (87, .getfield 51, 90, 0), (90, .aload_n 0, 91, 0), (91, .getfield 257, 94, 0), (94, .aload_n 0, 95, 0), (95, .getfield 234, 98, 0), (98, .iastore, 99, 0), (99, .aload_n 0, 100, 0), (100, .dup, 101, 0), (101, .getfield 257, 104, 0), (104, .iconst 1, 105, 0), (105, .iadd, 106, 0), (106, .putfield 257, 109, 0), (109, .aload_n 0, 110, 0), (110, .getfield 257, 113, 0), (113, .iconst 1, 114, 0)]), (115, [(114, .isub, 115, 0), (115, .ireturn, 116, 0)])])
theorem ok_X10_tune : ev_ok mi_X10_tune := ev_ok_of (by decide +kernel)
theorem pf_X10_tune : plainName mi_X10_tune.1.cls = true ∨ plainFor mi_X10_tune.1 = true := Or.inl pn_X10
def mi_X10_fault : MI := (yX10_fault, prog_12_method_41_code, 1, (some .int), 0, 0, 10, [(4, [(0, .aload_n 0, 1, 0), (1, .getfield 191, 4, 0), (4, .ireturn, 5, 0)])])
theorem ok_X10_fault : ev_ok mi_X10_fault := ev_ok_of (by decide +kernel)
theorem pf_X10_fault : plainName mi_X10_fault.1.cls = true ∨ plainFor mi_X10_fault.1 = true := Or.inl pn_X10
def mi_X10_isTune : MI := (yX10_isTune, prog_12_method_42_code, 2, (some .boolean), 1, 25, 10, [(13, [(0, .iload_n 1, 1, 0), (1, .i2l, 2, 0), (2, .lconst 0, 3, 0), (3, .aload_n 0, 4, 0), (4, .getfield 257, 7, 0), (7, .iconst 1, 8, 0), (8, .isub, 9, 0), (9, .i2l, 10, 0), (10, .invokestatic 124, 13, 0), (13, .ireturn, 14, 0)])])
theorem ok_X10_isTune : ev_ok mi_X10_isTune := ev_ok_of (by decide +kernel)
theorem pf_X10_isTune : plainName mi_X10_isTune.1.cls = true ∨ plainFor mi_X10_isTune.1 = true := Or.inl pn_X10
def mi_X10_chordAt : MI := (yX10_chordAt, prog_12_method_43_code, 3, (some .int), 0, 0, 10, [(11, [(0, .aload_n 0, 1, 0), (1, .getfield 54, 4, 0), (4, .bipush 24, 6, 0), (6, .iload_n 1, 7, 0), (7, .imul, 8, 0), (8, .iload_n 2, 9, 0), (9, .iadd, 10, 0), (10, .iaload, 11, 0), (11, .ireturn, 12, 0)])])
theorem ok_X10_chordAt : ev_ok mi_X10_chordAt := ev_ok_of (by decide +kernel)
theorem pf_X10_chordAt : plainName mi_X10_chordAt.1.cls = true ∨ plainFor mi_X10_chordAt.1 = true := Or.inl pn_X10
def mi_X10_allOf : MI := (yX10_allOf, prog_12_method_44_code, 4, (some .int), 1, 22, 10, [(21, [(0, .iconst 0, 1, 0), (1, .istore_n 2, 2, 0), (2, .iconst 0, 3, 0), (3, .istore_n 3, 4, 0), (4, .iload_n 3, 5, 0), (5, .aload_n 0, 6, 0), (6, .getfield 51, 9, 0), (9, .iload_n 1, 10, 0), (10, .iaload, 11, 0), (11, .if_icmp .ge 18, 14, 29), (14, .iload_n 2, 15, 0), (15, .aload_n 0, 16, 0), (16, .iload_n 1, 17, 0), (17, .iload_n 3, 18, 0), (18, .invokevirtual 263, 21, 0), (21, .ior, 22, 0)]), (30, [(22, .istore_n 2, 23, 0), (23, .iinc 3 1, 26, 0), (26, .goto (-22), 29, 4), (29, .iload_n 2, 30, 0), (30, .ireturn, 31, 0)])])
theorem ok_X10_allOf : ev_ok mi_X10_allOf := ev_ok_of (by decide +kernel)
theorem pf_X10_allOf : plainName mi_X10_allOf.1.cls = true ∨ plainFor mi_X10_allOf.1 = true := Or.inl pn_X10
def mi_X10_tuneOf : MI := (yX10_tuneOf, prog_12_method_45_code, 7, (some .int), 2, 46, 10, [(28, [(0, .aload_n 0, 1, 0), (1, .iload_n 1, 2, 0), (2, .invokevirtual 266, 5, 0), (5, .ifCond .eq 36, 8, 41), (8, .iload_n 2, 9, 0), (9, .i2l, 10, 0), (10, .lconst 0, 11, 0), (11, .ldc2_w 269, 14, 0), (14, .invokestatic 124, 17, 0), (17, .ifCond .ne 26, 20, 43), (20, .iload_n 2, 21, 0), (21, .i2l, 22, 0), (22, .ldc2_w 271, 25, 0), (25, .bipush 9, 27, 0), (27, .aload_n 0, 28, 0), (28, .getfield 51, 31, 0)]), (54, [(31, .iload_n 1, 32, 0), (32, .iaload, 33, 0), (33, .iadd, 34, 0), (34, .i2l, 35, 0), (35, .invokestatic 124, 38, 0), (38, .ifCond .ne 5, 41, 43), (41, .iconst (-1), 42, 0), (42, .ireturn, 43, 0), (43, .iconst 0, 44, 0), (44, .istore_n 3, 45, 0), (45, .iconst 0, 46, 0), (46, .istore 4, 48, 0), (48, .iload 4, 50, 0), (50, .aload_n 0, 51, 0), (51, .getfield 51, 54, 0), (54, .iload_n 1, 55, 0)]), (84, [(55, .iaload, 56, 0), (56, .if_icmp .ge 22, 59, 78), (59, .iload_n 3, 60, 0), (60, .aload_n 0, 61, 0), (61, .iload_n 1, 62, 0), (62, .iload 4, 64, 0), (64, .invokevirtual 263, 67, 0), (67, .invokestatic 220, 70, 0), (70, .iadd, 71, 0), (71, .istore_n 3, 72, 0), (72, .iinc 4 1, 75, 0), (75, .goto (-27), 78, 48), (78, .bipush (-4), 80, 0), (80, .istore 4, 82, 0), (82, .bipush (-4), 84, 0), (84, .istore 5, 86, 0)]), (112, [(86, .iconst 0, 87, 0), (87, .istore 6, 89, 0), (89, .iload 6, 91, 0), (91, .bipush 12, 93, 0), (93, .if_icmp .ge 43, 96, 136), (96, .aload_n 0, 97, 0), (97, .iload_n 1, 98, 0), (98, .invokevirtual 273, 101, 0), (101, .iload 6, 103, 0), (103, .ishr, 104, 0), (104, .iconst 1, 105, 0), (105, .iand, 106, 0), (106, .iconst 1, 107, 0), (107, .if_icmp .ne 23, 110, 130), (110, .iload 4, 112, 0), (112, .bipush (-4), 114, 0)]), (146, [(114, .if_icmp .ne 8, 117, 122), (117, .iload 6, 119, 0), (119, .goto 5, 122, 124), (122, .iload 4, 124, 0), (124, .istore 4, 126, 0), (126, .iload 6, 128, 0), (128, .istore 5, 130, 0), (130, .iinc 6 1, 133, 0), (133, .goto (-44), 136, 89), (136, .iload_n 2, 137, 0), (137, .ifCond .ne 12, 140, 149), (140, .aload_n 0, 141, 0), (141, .getfield 51, 144, 0), (144, .iload_n 1, 145, 0), (145, .iaload, 146, 0), (146, .goto 41, 149, 187)]), (178, [(149, .iload_n 2, 150, 0), (150, .iconst 1, 151, 0), (151, .if_icmp .ne 7, 154, 158), (154, .iload_n 3, 155, 0), (155, .goto 32, 158, 187), (158, .iload_n 2, 159, 0), (159, .iconst 2, 160, 0), (160, .if_icmp .ne 8, 163, 168), (163, .iload 4, 165, 0), (165, .goto 22, 168, 187), (168, .iload_n 2, 169, 0), (169, .iconst 3, 170, 0), (170, .if_icmp .ne 8, 173, 178), (173, .iload 5, 175, 0), (175, .goto 12, 178, 187), (178, .aload_n 0, 179, 0)]), (187, [(179, .iload_n 1, 180, 0), (180, .iload_n 2, 181, 0), (181, .bipush 10, 183, 0), (183, .isub, 184, 0), (184, .invokevirtual 263, 187, 0), (187, .ireturn, 188, 0)])])
theorem ok_X10_tuneOf : ev_ok mi_X10_tuneOf := ev_ok_of (by decide +kernel)
theorem pf_X10_tuneOf : plainName mi_X10_tuneOf.1.cls = true ∨ plainFor mi_X10_tuneOf.1 = true := Or.inl pn_X10
def mi_X10_isIn : MI := (yX10_isIn, prog_12_method_46_code, 6, (some .boolean), 2, 46, 10, [(27, [(0, .aload_n 0, 1, 0), (1, .iload_n 1, 2, 0), (2, .invokevirtual 273, 5, 0), (5, .istore_n 3, 6, 0), (6, .iconst 1, 7, 0), (7, .istore 4, 9, 0), (9, .iconst 0, 10, 0), (10, .istore 5, 12, 0), (12, .iload 5, 14, 0), (14, .bipush 12, 16, 0), (16, .if_icmp .ge 41, 19, 57), (19, .iload 4, 21, 0), (21, .ifCond .eq 27, 24, 48), (24, .iload_n 3, 25, 0), (25, .iload 5, 27, 0), (27, .ishr, 28, 0)]), (57, [(28, .iconst 1, 29, 0), (29, .iand, 30, 0), (30, .ifCond .eq 14, 33, 44), (33, .aload_n 0, 34, 0), (34, .iload 5, 36, 0), (36, .iload_n 2, 37, 0), (37, .iadd, 38, 0), (38, .invokevirtual 169, 41, 0), (41, .ifCond .eq 7, 44, 48), (44, .iconst 1, 45, 0), (45, .goto 4, 48, 49), (48, .iconst 0, 49, 0), (49, .istore 4, 51, 0), (51, .iinc 5 1, 54, 0), (54, .goto (-42), 57, 12), (57, .iload 4, 59, 0)]), (59, [(59, .ireturn, 60, 0)])])
theorem ok_X10_isIn : ev_ok mi_X10_isIn := ev_ok_of (by decide +kernel)
theorem pf_X10_isIn : plainName mi_X10_isIn.1.cls = true ∨ plainFor mi_X10_isIn.1 = true := Or.inl pn_X10
def mi_X10_moved : MI := (yX10_moved, prog_12_method_47_code, 3, (some .int), 0, 0, 10, [(14, [(0, .iload_n 2, 1, 0), (1, .ifCond .ge 10, 4, 11), (4, .iload_n 1, 5, 0), (5, .iload_n 2, 6, 0), (6, .ineg, 7, 0), (7, .ishr, 8, 0), (8, .goto 6, 11, 14), (11, .iload_n 1, 12, 0), (12, .iload_n 2, 13, 0), (13, .ishl, 14, 0), (14, .ireturn, 15, 0)])])
theorem ok_X10_moved : ev_ok mi_X10_moved := ev_ok_of (by decide +kernel)
theorem pf_X10_moved : plainName mi_X10_moved.1.cls = true ∨ plainFor mi_X10_moved.1 = true := Or.inl pn_X10
def mi_X10_goesAll : MI := (yX10_goesAll, prog_12_method_48_code, 6, (some .int), 4, 92, 10, [(22, [(0, .iconst 0, 1, 0), (1, .istore_n 3, 2, 0), (2, .iconst 0, 3, 0), (3, .istore 4, 5, 0), (5, .iload 4, 7, 0), (7, .aload_n 0, 8, 0), (8, .getfield 51, 11, 0), (11, .iload_n 1, 12, 0), (12, .iaload, 13, 0), (13, .if_icmp .ge 53, 16, 66), (16, .aload_n 0, 17, 0), (17, .aload_n 0, 18, 0), (18, .aload_n 0, 19, 0), (19, .iload_n 1, 20, 0), (20, .iload 4, 22, 0), (22, .invokevirtual 263, 25, 0)]), (55, [(25, .iload_n 2, 26, 0), (26, .invokevirtual 276, 29, 0), (29, .invokevirtual 162, 32, 0), (32, .istore 5, 34, 0), (34, .iload 5, 36, 0), (36, .bipush (-5), 38, 0), (38, .if_icmp .ne 9, 41, 47), (41, .bipush (-100), 43, 0), (43, .iload 4, 45, 0), (45, .isub, 46, 0), (46, .ireturn, 47, 0), (47, .iload 5, 49, 0), (49, .iload_n 3, 50, 0), (50, .if_icmp .le 8, 53, 58), (53, .iload 5, 55, 0), (55, .goto 4, 58, 59)]), (67, [(58, .iload_n 3, 59, 0), (59, .istore_n 3, 60, 0), (60, .iinc 4 1, 63, 0), (63, .goto (-58), 66, 5), (66, .iload_n 3, 67, 0), (67, .ireturn, 68, 0)])])
theorem ok_X10_goesAll : ev_ok mi_X10_goesAll := ev_ok_of (by decide +kernel)
theorem pf_X10_goesAll : plainName mi_X10_goesAll.1.cls = true ∨ plainFor mi_X10_goesAll.1 = true := Or.inl pn_X10
def mi_X10_tried : MI := (yX10_tried, prog_12_method_49_code, 7, (some .int), 5, 117, 10, [(26, [(0, .aload_n 0, 1, 0), (1, .getfield 7, 4, 0), (4, .istore_n 3, 5, 0), (5, .aload_n 0, 6, 0), (6, .getfield 13, 9, 0), (9, .istore 4, 11, 0), (11, .aload_n 0, 12, 0), (12, .getfield 131, 15, 0), (15, .istore 5, 17, 0), (17, .aload_n 0, 18, 0), (18, .iload_n 1, 19, 0), (19, .iload_n 2, 20, 0), (20, .invokevirtual 279, 23, 0), (23, .istore 6, 25, 0), (25, .aload_n 0, 26, 0), (26, .iload_n 3, 27, 0)]), (44, [(27, .putfield 7, 30, 0), (30, .aload_n 0, 31, 0), (31, .iload 4, 33, 0), (33, .putfield 13, 36, 0), (36, .aload_n 0, 37, 0), (37, .iload 5, 39, 0), (39, .putfield 131, 42, 0), (42, .iload 6, 44, 0), (44, .ireturn, 45, 0)])])
theorem ok_X10_tried : ev_ok mi_X10_tried := ev_ok_of (by decide +kernel)
theorem pf_X10_tried : plainName mi_X10_tried.1.cls = true ∨ plainFor mi_X10_tried.1 = true := Or.inl pn_X10
def mi_X10_play : MI := (yX10_play, prog_12_method_50_code, 3, (some .int), 6, 143, 10, [(27, [(0, .aload_n 0, 1, 0), (1, .iload_n 1, 2, 0), (2, .invokevirtual 266, 5, 0), (5, .ifCond .eq 17, 8, 22), (8, .iload_n 2, 9, 0), (9, .i2l, 10, 0), (10, .ldc2_w 282, 13, 0), (13, .ldc2_w 284, 16, 0), (16, .invokestatic 124, 19, 0), (19, .ifCond .ne 5, 22, 24), (22, .iconst (-1), 23, 0), (23, .ireturn, 24, 0), (24, .aload_n 0, 25, 0), (25, .iload_n 1, 26, 0), (26, .iload_n 2, 27, 0), (27, .invokevirtual 286, 30, 0)]), (56, [(30, .ifCond .ne 6, 33, 36), (33, .bipush (-2), 35, 0), (35, .ireturn, 36, 0), (36, .aload_n 0, 37, 0), (37, .iload_n 1, 38, 0), (38, .iload_n 2, 39, 0), (39, .invokevirtual 290, 42, 0), (42, .bipush (-100), 44, 0), (44, .if_icmp .ne 6, 47, 50), (47, .bipush (-100), 49, 0), (49, .ireturn, 50, 0), (50, .aload_n 0, 51, 0), (51, .invokevirtual 136, 54, 0), (54, .aload_n 0, 55, 0), (55, .iload_n 1, 56, 0), (56, .iload_n 2, 57, 0)]), (60, [(57, .invokevirtual 279, 60, 0), (60, .ireturn, 61, 0)])])
theorem ok_X10_play : ev_ok mi_X10_play := ev_ok_of (by decide +kernel)
theorem pf_X10_play : plainName mi_X10_play.1.cls = true ∨ plainFor mi_X10_play.1 = true := Or.inl pn_X10
def mi_X10_would : MI := (yX10_would, prog_12_method_51_code, 3, (some .int), 6, 143, 10, [(27, [(0, .aload_n 0, 1, 0), (1, .iload_n 1, 2, 0), (2, .invokevirtual 266, 5, 0), (5, .ifCond .eq 17, 8, 22), (8, .iload_n 2, 9, 0), (9, .i2l, 10, 0), (10, .ldc2_w 282, 13, 0), (13, .ldc2_w 284, 16, 0), (16, .invokestatic 124, 19, 0), (19, .ifCond .ne 5, 22, 24), (22, .iconst (-1), 23, 0), (23, .ireturn, 24, 0), (24, .aload_n 0, 25, 0), (25, .iload_n 1, 26, 0), (26, .iload_n 2, 27, 0), (27, .invokevirtual 286, 30, 0)]), (44, [(30, .ifCond .eq 12, 33, 42), (33, .aload_n 0, 34, 0), (34, .iload_n 1, 35, 0), (35, .iload_n 2, 36, 0), (36, .invokevirtual 290, 39, 0), (39, .goto 5, 42, 44), (42, .bipush (-2), 44, 0), (44, .ireturn, 45, 0)])])
theorem ok_X10_would : ev_ok mi_X10_would := ev_ok_of (by decide +kernel)
theorem pf_X10_would : plainName mi_X10_would.1.cls = true ∨ plainFor mi_X10_would.1 = true := Or.inl pn_X10
def mi_X10_key : MI := (yX10_key, prog_12_method_52_code, 9, (some .int), 6, 143, 10, [(27, [(0, .aload_n 0, 1, 0), (1, .iload_n 1, 2, 0), (2, .invokevirtual 266, 5, 0), (5, .ifCond .eq 15, 8, 20), (8, .iload_n 2, 9, 0), (9, .i2l, 10, 0), (10, .lconst 0, 11, 0), (11, .ldc2_w 183, 14, 0), (14, .invokestatic 124, 17, 0), (17, .ifCond .ne 6, 20, 23), (20, .bipush (-100), 22, 0), (22, .ireturn, 23, 0), (23, .bipush (-104), 25, 0), (25, .istore_n 3, 26, 0), (26, .iconst 0, 27, 0), (27, .istore 4, 29, 0)]), (54, [(29, .iconst 0, 30, 0), (30, .istore 5, 32, 0), (32, .iconst 0, 33, 0), (33, .istore 6, 35, 0), (35, .iload 6, 37, 0), (37, .bipush 23, 39, 0), (39, .if_icmp .ge 80, 42, 119), (42, .iload 6, 44, 0), (44, .iconst 2, 45, 0), (45, .irem, 46, 0), (46, .iconst 1, 47, 0), (47, .if_icmp .ne 13, 50, 60), (50, .iload 6, 52, 0), (52, .iconst 1, 53, 0), (53, .iadd, 54, 0), (54, .ineg, 55, 0)]), (81, [(55, .iconst 2, 56, 0), (56, .idiv, 57, 0), (57, .goto 7, 60, 64), (60, .iload 6, 62, 0), (62, .iconst 2, 63, 0), (63, .idiv, 64, 0), (64, .istore 7, 66, 0), (66, .aload_n 0, 67, 0), (67, .iload_n 1, 68, 0), (68, .iload 7, 70, 0), (70, .invokevirtual 286, 73, 0), (73, .ifCond .eq 40, 76, 113), (76, .iinc 5 1, 79, 0), (79, .aload_n 0, 80, 0), (80, .iload_n 1, 81, 0), (81, .iload 7, 83, 0)]), (116, [(83, .invokevirtual 290, 86, 0), (86, .istore 8, 88, 0), (88, .iload 8, 90, 0), (90, .ifCond .lt 23, 93, 113), (93, .iload_n 3, 94, 0), (94, .bipush (-104), 96, 0), (96, .if_icmp .eq 10, 99, 106), (99, .iload 8, 101, 0), (101, .iload 4, 103, 0), (103, .if_icmp .ge 10, 106, 113), (106, .iload 7, 108, 0), (108, .istore_n 3, 109, 0), (109, .iload 8, 111, 0), (111, .istore 4, 113, 0), (113, .iinc 6 1, 116, 0), (116, .goto (-81), 119, 35)]), (150, [(119, .iload_n 2, 120, 0), (120, .iconst 2, 121, 0), (121, .if_icmp .ne 8, 124, 129), (124, .iload 5, 126, 0), (126, .goto 24, 129, 150), (129, .iload_n 3, 130, 0), (130, .bipush (-104), 132, 0), (132, .if_icmp .ne 8, 135, 140), (135, .bipush (-104), 137, 0), (137, .goto 13, 140, 150), (140, .iload_n 2, 141, 0), (141, .ifCond .ne 7, 144, 148), (144, .iload_n 3, 145, 0), (145, .goto 5, 148, 150), (148, .iload 4, 150, 0), (150, .ireturn, 151, 0)])])
theorem ok_X10_key : ev_ok mi_X10_key := ev_ok_of (by decide +kernel)
theorem pf_X10_key : plainName mi_X10_key.1.cls = true ∨ plainFor mi_X10_key.1 = true := Or.inl pn_X10
def mi_X10_spot : MI := (yX10_spot, prog_12_method_53_code, 4, (some .int), 0, 0, 10, [(13, [(0, .sipush 1809, 3, 0), (3, .iload_n 1, 4, 0), (4, .imul, 5, 0), (5, .sipush 201, 8, 0), (8, .iload_n 2, 9, 0), (9, .imul, 10, 0), (10, .iadd, 11, 0), (11, .iload_n 3, 12, 0), (12, .iadd, 13, 0), (13, .ireturn, 14, 0)])])
theorem ok_X10_spot : ev_ok mi_X10_spot := ev_ok_of (by decide +kernel)
theorem pf_X10_spot : plainName mi_X10_spot.1.cls = true ∨ plainFor mi_X10_spot.1 = true := Or.inl pn_X10
def mi_X10_then : MI := (yX10_then, prog_12_method_54_code, 4, (some .int), 0, 0, 10, [(21, [(0, .iload_n 1, 1, 0), (1, .iconst 2, 2, 0), (2, .aload_n 0, 3, 0), (3, .getfield 16, 6, 0), (6, .imul, 7, 0), (7, .iadd, 8, 0), (8, .iload_n 2, 9, 0), (9, .isub, 10, 0), (10, .istore_n 3, 11, 0), (11, .iload_n 3, 12, 0), (12, .ifCond .ge 7, 15, 19), (15, .iconst 0, 16, 0), (16, .goto 19, 19, 35), (19, .iload_n 3, 20, 0), (20, .aload_n 0, 21, 0), (21, .getfield 19, 24, 0)]), (35, [(24, .if_icmp .le 10, 27, 34), (27, .aload_n 0, 28, 0), (28, .getfield 19, 31, 0), (31, .goto 4, 34, 35), (34, .iload_n 3, 35, 0), (35, .ireturn, 36, 0)])])
theorem ok_X10_then : ev_ok mi_X10_then := ev_ok_of (by decide +kernel)
theorem pf_X10_then : plainName mi_X10_then.1.cls = true ∨ plainFor mi_X10_then.1 = true := Or.inl pn_X10
def mi_X10_prepares : MI := (yX10_prepares, prog_12_method_55_code, 5, none, 2, 44, 10, [(21, [(0, .iconst 0, 1, 0), (1, .istore_n 2, 2, 0), (2, .iload_n 2, 3, 0), (3, .aload_n 0, 4, 0), (4, .getfield 19, 7, 0), (7, .if_icmp .gt 61, 10, 68), (10, .aload_n 0, 11, 0), (11, .getfield 76, 14, 0), (14, .iload_n 2, 15, 0), (15, .iconst 0, 16, 0), (16, .iastore, 17, 0), (17, .iconst 0, 18, 0), (18, .istore_n 3, 19, 0), (19, .iload_n 3, 20, 0), (20, .aload_n 0, 21, 0), (21, .getfield 121, 24, 0)]), (49, [(24, .if_icmp .ge 38, 27, 62), (27, .aload_n 0, 28, 0), (28, .getfield 76, 31, 0), (31, .iload_n 2, 32, 0), (32, .dup2, 33, 0), (33, .iaload, 34, 0), (34, .aload_n 0, 35, 0), (35, .iload_n 3, 36, 0), (36, .iload_n 2, 37, 0), (37, .invokevirtual 153, 40, 0), (40, .invokestatic 156, 43, 0), (43, .iload_n 1, 44, 0), (44, .if_icmp .gt 9, 47, 53), (47, .iconst 1, 48, 0), (48, .iload_n 3, 49, 0), (49, .ishl, 50, 0)]), (79, [(50, .goto 4, 53, 54), (53, .iconst 0, 54, 0), (54, .ior, 55, 0), (55, .iastore, 56, 0), (56, .iinc 3 1, 59, 0), (59, .goto (-40), 62, 19), (62, .iinc 2 1, 65, 0), (65, .goto (-63), 68, 2), (68, .aload_n 0, 69, 0), (69, .getfield 79, 72, 0), (72, .iconst 0, 73, 0), (73, .aload_n 0, 74, 0), (74, .iconst 0, 75, 0), (75, .invokevirtual 145, 78, 0), (78, .iastore, 79, 0), (79, .aload_n 0, 80, 0)]), (103, [(80, .getfield 82, 83, 0), (83, .iconst 0, 84, 0), (84, .iconst 0, 85, 0), (85, .iastore, 86, 0), (86, .iconst 0, 87, 0), (87, .istore_n 2, 88, 0), (88, .iload_n 2, 89, 0), (89, .aload_n 0, 90, 0), (90, .getfield 121, 93, 0), (93, .if_icmp .ge 95, 96, 188), (96, .aload_n 0, 97, 0), (97, .getfield 26, 100, 0), (100, .iload_n 2, 101, 0), (101, .iaload, 102, 0), (102, .aload_n 0, 103, 0), (103, .getfield 42, 106, 0)]), (128, [(106, .iload_n 2, 107, 0), (107, .baload, 108, 0), (108, .ifCond .eq 14, 111, 122), (111, .aload_n 0, 112, 0), (112, .getfield 26, 115, 0), (115, .iload_n 2, 116, 0), (116, .iaload, 117, 0), (117, .iconst 2, 118, 0), (118, .idiv, 119, 0), (119, .goto 4, 122, 123), (122, .iconst 0, 123, 0), (123, .isub, 124, 0), (124, .istore_n 3, 125, 0), (125, .iconst 0, 126, 0), (126, .istore 4, 128, 0), (128, .iload 4, 130, 0)]), (153, [(130, .iconst 1, 131, 0), (131, .iload_n 2, 132, 0), (132, .ishl, 133, 0), (133, .if_icmp .ge 49, 136, 182), (136, .aload_n 0, 137, 0), (137, .getfield 79, 140, 0), (140, .iload 4, 142, 0), (142, .iconst 1, 143, 0), (143, .iload_n 2, 144, 0), (144, .ishl, 145, 0), (145, .ior, 146, 0), (146, .aload_n 0, 147, 0), (147, .getfield 79, 150, 0), (150, .iload 4, 152, 0), (152, .iaload, 153, 0), (153, .iload_n 3, 154, 0)]), (175, [(154, .iadd, 155, 0), (155, .iastore, 156, 0), (156, .aload_n 0, 157, 0), (157, .getfield 82, 160, 0), (160, .iload 4, 162, 0), (162, .iconst 1, 163, 0), (163, .iload_n 2, 164, 0), (164, .ishl, 165, 0), (165, .ior, 166, 0), (166, .aload_n 0, 167, 0), (167, .getfield 82, 170, 0), (170, .iload 4, 172, 0), (172, .iaload, 173, 0), (173, .iconst 1, 174, 0), (174, .iadd, 175, 0), (175, .iastore, 176, 0)]), (188, [(176, .iinc 4 1, 179, 0), (179, .goto (-51), 182, 128), (182, .iinc 2 1, 185, 0), (185, .goto (-97), 188, 88), (188, .return_, 189, 0)])])
theorem ok_X10_prepares : ev_ok mi_X10_prepares := ev_ok_of (by decide +kernel)
theorem pf_X10_prepares : plainName mi_X10_prepares.1.cls = true ∨ plainFor mi_X10_prepares.1 = true := Or.inl pn_X10
def mi_X10_meets : MI := (yX10_meets, prog_12_method_56_code, 12, none, 1, 23, 10, [(25, [(0, .aload_n 0, 1, 0), (1, .getfield 51, 4, 0), (4, .iload_n 1, 5, 0), (5, .iaload, 6, 0), (6, .istore 4, 8, 0), (8, .iconst 0, 9, 0), (9, .istore 5, 11, 0), (11, .iload 5, 13, 0), (13, .sipush 1809, 16, 0), (16, .iload 4, 18, 0), (18, .iconst 1, 19, 0), (19, .iadd, 20, 0), (20, .imul, 21, 0), (21, .if_icmp .ge 17, 24, 38), (24, .aload_n 0, 25, 0), (25, .getfield 85, 28, 0)]), (54, [(28, .iload 5, 30, 0), (30, .iconst 0, 31, 0), (31, .bastore, 32, 0), (32, .iinc 5 1, 35, 0), (35, .goto (-24), 38, 11), (38, .aload_n 0, 39, 0), (39, .getfield 85, 42, 0), (42, .aload_n 0, 43, 0), (43, .iconst 0, 44, 0), (44, .iload_n 3, 45, 0), (45, .aload_n 0, 46, 0), (46, .getfield 7, 49, 0), (49, .invokevirtual 293, 52, 0), (52, .iconst 1, 53, 0), (53, .bastore, 54, 0), (54, .iconst 0, 55, 0)]), (83, [(55, .istore 5, 57, 0), (57, .iload 5, 59, 0), (59, .iload 4, 61, 0), (61, .if_icmp .ge 183, 64, 244), (64, .aload_n 0, 65, 0), (65, .aload_n 0, 66, 0), (66, .iload_n 1, 67, 0), (67, .iload 5, 69, 0), (69, .invokevirtual 263, 72, 0), (72, .iload_n 2, 73, 0), (73, .invokevirtual 276, 76, 0), (76, .istore 6, 78, 0), (78, .iload_n 3, 79, 0), (79, .istore 7, 81, 0), (81, .iload 7, 83, 0), (83, .ifCond .lt 155, 86, 238)]), (116, [(86, .iconst 0, 87, 0), (87, .istore 8, 89, 0), (89, .iload 8, 91, 0), (91, .aload_n 0, 92, 0), (92, .getfield 19, 95, 0), (95, .if_icmp .gt 137, 98, 232), (98, .aload_n 0, 99, 0), (99, .getfield 85, 102, 0), (102, .aload_n 0, 103, 0), (103, .iload 5, 105, 0), (105, .iload 7, 107, 0), (107, .iload 8, 109, 0), (109, .invokevirtual 293, 112, 0), (112, .baload, 113, 0), (113, .ifCond .eq 113, 116, 226), (116, .iload 7, 118, 0)]), (144, [(118, .ifCond .le 31, 121, 149), (121, .aload_n 0, 122, 0), (122, .getfield 85, 125, 0), (125, .aload_n 0, 126, 0), (126, .iload 5, 128, 0), (128, .iload 7, 130, 0), (130, .iconst 1, 131, 0), (131, .isub, 132, 0), (132, .aload_n 0, 133, 0), (133, .iload 8, 135, 0), (135, .aload_n 0, 136, 0), (136, .getfield 79, 139, 0), (139, .iconst 0, 140, 0), (140, .iaload, 141, 0), (141, .invokevirtual 297, 144, 0), (144, .invokevirtual 293, 147, 0)]), (173, [(147, .iconst 1, 148, 0), (148, .bastore, 149, 0), (149, .iload 6, 151, 0), (151, .aload_n 0, 152, 0), (152, .getfield 76, 155, 0), (155, .iload 8, 157, 0), (157, .iaload, 158, 0), (158, .iand, 159, 0), (159, .istore 9, 161, 0), (161, .iload 9, 163, 0), (163, .istore 10, 165, 0), (165, .iconst 1, 166, 0), (166, .istore 11, 168, 0), (168, .iload 11, 170, 0), (170, .ifCond .eq 56, 173, 226), (173, .aload_n 0, 174, 0)]), (201, [(174, .getfield 85, 177, 0), (177, .aload_n 0, 178, 0), (178, .iload 5, 180, 0), (180, .iconst 1, 181, 0), (181, .iadd, 182, 0), (182, .iload 7, 184, 0), (184, .aload_n 0, 185, 0), (185, .iload 8, 187, 0), (187, .aload_n 0, 188, 0), (188, .getfield 79, 191, 0), (191, .iload 10, 193, 0), (193, .iaload, 194, 0), (194, .invokevirtual 297, 197, 0), (197, .invokevirtual 293, 200, 0), (200, .iconst 1, 201, 0), (201, .bastore, 202, 0)]), (232, [(202, .iload 10, 204, 0), (204, .ifCond .eq 7, 207, 211), (207, .iconst 1, 208, 0), (208, .goto 4, 211, 212), (211, .iconst 0, 212, 0), (212, .istore 11, 214, 0), (214, .iload 10, 216, 0), (216, .iconst 1, 217, 0), (217, .isub, 218, 0), (218, .iload 9, 220, 0), (220, .iand, 221, 0), (221, .istore 10, 223, 0), (223, .goto (-55), 226, 168), (226, .iinc 8 1, 229, 0), (229, .goto (-140), 232, 89), (232, .iinc 7 (-1), 235, 0)]), (244, [(235, .goto (-154), 238, 81), (238, .iinc 5 1, 241, 0), (241, .goto (-184), 244, 57), (244, .return_, 245, 0)])])
theorem ok_X10_meets : ev_ok mi_X10_meets := ev_ok_of (by decide +kernel)
theorem pf_X10_meets : plainName mi_X10_meets.1.cls = true ∨ plainFor mi_X10_meets.1 = true := Or.inl pn_X10
def mi_X10_bestSound : MI := (yX10_bestSound, prog_12_method_57_code, 10, (some .int), 1, 23, 10, [(28, [(0, .ldc_w 300, 3, 0), (3, .istore 5, 5, 0), (5, .iload_n 1, 6, 0), (6, .aload_n 0, 7, 0), (7, .getfield 76, 10, 0), (10, .iload 4, 12, 0), (12, .iaload, 13, 0), (13, .iand, 14, 0), (14, .istore 6, 16, 0), (16, .iload 6, 18, 0), (18, .istore 7, 20, 0), (20, .iconst 1, 21, 0), (21, .istore 8, 23, 0), (23, .iload 8, 25, 0), (25, .ifCond .eq 83, 28, 108), (28, .bipush 16, 30, 0)]), (51, [(30, .aload_n 0, 31, 0), (31, .getfield 82, 34, 0), (34, .iload 7, 36, 0), (36, .iaload, 37, 0), (37, .imul, 38, 0), (38, .aload_n 0, 39, 0), (39, .getfield 67, 42, 0), (42, .aload_n 0, 43, 0), (43, .iload_n 2, 44, 0), (44, .iconst 1, 45, 0), (45, .iadd, 46, 0), (46, .iload_n 3, 47, 0), (47, .aload_n 0, 48, 0), (48, .iload 4, 50, 0), (50, .aload_n 0, 51, 0), (51, .getfield 79, 54, 0)]), (84, [(54, .iload 7, 56, 0), (56, .iaload, 57, 0), (57, .invokevirtual 297, 60, 0), (60, .invokevirtual 293, 63, 0), (63, .iaload, 64, 0), (64, .iadd, 65, 0), (65, .istore 9, 67, 0), (67, .iload 9, 69, 0), (69, .iload 5, 71, 0), (71, .if_icmp .le 13, 74, 84), (74, .iload 9, 76, 0), (76, .istore 5, 78, 0), (78, .aload_n 0, 79, 0), (79, .iload 7, 81, 0), (81, .putfield 301, 84, 0), (84, .iload 7, 86, 0)]), (110, [(86, .ifCond .eq 7, 89, 93), (89, .iconst 1, 90, 0), (90, .goto 4, 93, 94), (93, .iconst 0, 94, 0), (94, .istore 8, 96, 0), (96, .iload 7, 98, 0), (98, .iconst 1, 99, 0), (99, .isub, 100, 0), (100, .iload 6, 102, 0), (102, .iand, 103, 0), (103, .istore 7, 105, 0), (105, .goto (-82), 108, 23), (108, .iload 5, 110, 0), (110, .ireturn, 111, 0)])])
theorem ok_X10_bestSound : ev_ok mi_X10_bestSound := ev_ok_of (by decide +kernel)
theorem pf_X10_bestSound : plainName mi_X10_bestSound.1.cls = true ∨ plainFor mi_X10_bestSound.1 = true := Or.inl pn_X10
def mi_X10_fills : MI := (yX10_fills, prog_12_method_58_code, 12, none, 3, 68, 10, [(24, [(0, .aload_n 0, 1, 0), (1, .getfield 51, 4, 0), (4, .iload_n 1, 5, 0), (5, .iaload, 6, 0), (6, .istore 5, 8, 0), (8, .aload_n 0, 9, 0), (9, .iload_n 3, 10, 0), (10, .invokevirtual 304, 13, 0), (13, .aload_n 0, 14, 0), (14, .iload_n 1, 15, 0), (15, .iload_n 2, 16, 0), (16, .iload 4, 18, 0), (18, .invokevirtual 307, 21, 0), (21, .iconst 0, 22, 0), (22, .istore 6, 24, 0), (24, .iload 6, 26, 0)]), (56, [(26, .sipush 1809, 29, 0), (29, .if_icmp .ge 24, 32, 53), (32, .aload_n 0, 33, 0), (33, .getfield 67, 36, 0), (36, .sipush 1809, 39, 0), (39, .iload 5, 41, 0), (41, .imul, 42, 0), (42, .iload 6, 44, 0), (44, .iadd, 45, 0), (45, .iconst 0, 46, 0), (46, .iastore, 47, 0), (47, .iinc 6 1, 50, 0), (50, .goto (-26), 53, 24), (53, .iload 5, 55, 0), (55, .iconst 1, 56, 0), (56, .isub, 57, 0)]), (85, [(57, .istore 6, 59, 0), (59, .iload 6, 61, 0), (61, .ifCond .lt 159, 64, 220), (64, .aload_n 0, 65, 0), (65, .aload_n 0, 66, 0), (66, .iload_n 1, 67, 0), (67, .iload 6, 69, 0), (69, .invokevirtual 263, 72, 0), (72, .iload_n 2, 73, 0), (73, .invokevirtual 276, 76, 0), (76, .istore 7, 78, 0), (78, .iconst 0, 79, 0), (79, .istore 8, 81, 0), (81, .iload 8, 83, 0), (83, .iload 4, 85, 0), (85, .if_icmp .gt 129, 88, 214)]), (118, [(88, .iconst 0, 89, 0), (89, .istore 9, 91, 0), (91, .iload 9, 93, 0), (93, .aload_n 0, 94, 0), (94, .getfield 19, 97, 0), (97, .if_icmp .gt 111, 100, 208), (100, .aload_n 0, 101, 0), (101, .getfield 85, 104, 0), (104, .aload_n 0, 105, 0), (105, .iload 6, 107, 0), (107, .iload 8, 109, 0), (109, .iload 9, 111, 0), (111, .invokevirtual 293, 114, 0), (114, .baload, 115, 0), (115, .ifCond .eq 87, 118, 202), (118, .aload_n 0, 119, 0)]), (148, [(119, .iload 7, 121, 0), (121, .iload 6, 123, 0), (123, .iload 8, 125, 0), (125, .iload 9, 127, 0), (127, .invokevirtual 311, 130, 0), (130, .istore 10, 132, 0), (132, .iload 8, 134, 0), (134, .ifCond .le 35, 137, 169), (137, .aload_n 0, 138, 0), (138, .getfield 67, 141, 0), (141, .aload_n 0, 142, 0), (142, .iload 6, 144, 0), (144, .iload 8, 146, 0), (146, .iconst 1, 147, 0), (147, .isub, 148, 0), (148, .aload_n 0, 149, 0)]), (177, [(149, .iload 9, 151, 0), (151, .aload_n 0, 152, 0), (152, .getfield 79, 155, 0), (155, .iconst 0, 156, 0), (156, .iaload, 157, 0), (157, .invokevirtual 297, 160, 0), (160, .invokevirtual 293, 163, 0), (163, .iaload, 164, 0), (164, .iconst 1, 165, 0), (165, .isub, 166, 0), (166, .goto 5, 169, 171), (169, .iload 10, 171, 0), (171, .istore 11, 173, 0), (173, .aload_n 0, 174, 0), (174, .getfield 67, 177, 0), (177, .aload_n 0, 178, 0)]), (214, [(178, .iload 6, 180, 0), (180, .iload 8, 182, 0), (182, .iload 9, 184, 0), (184, .invokevirtual 293, 187, 0), (187, .iload 11, 189, 0), (189, .iload 10, 191, 0), (191, .if_icmp .le 8, 194, 199), (194, .iload 11, 196, 0), (196, .goto 5, 199, 201), (199, .iload 10, 201, 0), (201, .iastore, 202, 0), (202, .iinc 9 1, 205, 0), (205, .goto (-114), 208, 91), (208, .iinc 8 1, 211, 0), (211, .goto (-130), 214, 81), (214, .iinc 6 (-1), 217, 0)]), (246, [(217, .goto (-158), 220, 59), (220, .aload_n 0, 221, 0), (221, .getfield 7, 224, 0), (224, .istore 6, 226, 0), (226, .iload 4, 228, 0), (228, .istore 7, 230, 0), (230, .aload_n 0, 231, 0), (231, .iconst 0, 232, 0), (232, .putfield 315, 235, 0), (235, .iconst 0, 236, 0), (236, .istore 8, 238, 0), (238, .iload 8, 240, 0), (240, .iload 5, 242, 0), (242, .if_icmp .ge 138, 245, 380), (245, .aload_n 0, 246, 0), (246, .aload_n 0, 247, 0)]), (274, [(247, .iload_n 1, 248, 0), (248, .iload 8, 250, 0), (250, .invokevirtual 263, 253, 0), (253, .iload_n 2, 254, 0), (254, .invokevirtual 276, 257, 0), (257, .istore 9, 259, 0), (259, .aload_n 0, 260, 0), (260, .getfield 73, 263, 0), (263, .iload 8, 265, 0), (265, .iconst 0, 266, 0), (266, .iastore, 267, 0), (267, .aload_n 0, 268, 0), (268, .iload 9, 270, 0), (270, .iload 8, 272, 0), (272, .iload 7, 274, 0), (274, .iload 6, 276, 0)]), (305, [(276, .invokevirtual 311, 279, 0), (279, .aload_n 0, 280, 0), (280, .getfield 67, 283, 0), (283, .aload_n 0, 284, 0), (284, .iload 8, 286, 0), (286, .iload 7, 288, 0), (288, .iload 6, 290, 0), (290, .invokevirtual 293, 293, 0), (293, .iaload, 294, 0), (294, .if_icmp .eq 34, 297, 328), (297, .aload_n 0, 298, 0), (298, .iload 6, 300, 0), (300, .aload_n 0, 301, 0), (301, .getfield 79, 304, 0), (304, .iconst 0, 305, 0), (305, .iaload, 306, 0)]), (334, [(306, .invokevirtual 297, 309, 0), (309, .istore 6, 311, 0), (311, .iinc 7 (-1), 314, 0), (314, .aload_n 0, 315, 0), (315, .getfield 73, 318, 0), (318, .iload 8, 320, 0), (320, .dup2, 321, 0), (321, .iaload, 322, 0), (322, .iconst 1, 323, 0), (323, .iadd, 324, 0), (324, .iastore, 325, 0), (325, .goto (-58), 328, 267), (328, .aload_n 0, 329, 0), (329, .getfield 70, 332, 0), (332, .iload 8, 334, 0), (334, .aload_n 0, 335, 0)]), (361, [(335, .getfield 301, 338, 0), (338, .iastore, 339, 0), (339, .aload_n 0, 340, 0), (340, .dup, 341, 0), (341, .getfield 315, 344, 0), (344, .aload_n 0, 345, 0), (345, .getfield 82, 348, 0), (348, .aload_n 0, 349, 0), (349, .getfield 301, 352, 0), (352, .iaload, 353, 0), (353, .iadd, 354, 0), (354, .putfield 315, 357, 0), (357, .aload_n 0, 358, 0), (358, .iload 6, 360, 0), (360, .aload_n 0, 361, 0), (361, .getfield 79, 364, 0)]), (386, [(364, .aload_n 0, 365, 0), (365, .getfield 301, 368, 0), (368, .iaload, 369, 0), (369, .invokevirtual 297, 372, 0), (372, .istore 6, 374, 0), (374, .iinc 8 1, 377, 0), (377, .goto (-139), 380, 238), (380, .aload_n 0, 381, 0), (381, .iload 6, 383, 0), (383, .putfield 318, 386, 0), (386, .return_, 387, 0)])])
theorem ok_X10_fills : ev_ok mi_X10_fills := ev_ok_of (by decide +kernel)
theorem pf_X10_fills : plainName mi_X10_fills.1.cls = true ∨ plainFor mi_X10_fills.1 = true := Or.inl pn_X10
def mi_X10_set : MI := (yX10_set, prog_12_method_59_code, 8, (some .int), 4, 99, 10, [(31, [(0, .aload_n 0, 1, 0), (1, .iload_n 1, 2, 0), (2, .invokevirtual 266, 5, 0), (5, .ifCond .eq 99, 8, 104), (8, .iload_n 2, 9, 0), (9, .i2l, 10, 0), (10, .ldc2_w 282, 13, 0), (13, .ldc2_w 284, 16, 0), (16, .invokestatic 124, 19, 0), (19, .ifCond .eq 85, 22, 104), (22, .iload_n 3, 23, 0), (23, .i2l, 24, 0), (24, .lconst 0, 25, 0), (25, .ldc2_w 181, 28, 0), (28, .invokestatic 124, 31, 0), (31, .ifCond .eq 73, 34, 104)]), (66, [(34, .iload 4, 36, 0), (36, .i2l, 37, 0), (37, .lconst 0, 38, 0), (38, .ldc2_w 321, 41, 0), (41, .invokestatic 124, 44, 0), (44, .ifCond .eq 60, 47, 104), (47, .iload 5, 49, 0), (49, .i2l, 50, 0), (50, .lconst 0, 51, 0), (51, .ldc2_w 183, 54, 0), (54, .invokestatic 124, 57, 0), (57, .ifCond .ne 49, 60, 106), (60, .iload 5, 62, 0), (62, .i2l, 63, 0), (63, .ldc2_w 271, 66, 0), (66, .bipush 9, 68, 0)]), (95, [(68, .aload_n 0, 69, 0), (69, .getfield 51, 72, 0), (72, .iload_n 1, 73, 0), (73, .iaload, 74, 0), (74, .iadd, 75, 0), (75, .i2l, 76, 0), (76, .invokestatic 124, 79, 0), (79, .ifCond .ne 27, 82, 106), (82, .iload 5, 84, 0), (84, .i2l, 85, 0), (85, .ldc2_w 323, 88, 0), (88, .bipush 39, 90, 0), (90, .aload_n 0, 91, 0), (91, .getfield 51, 94, 0), (94, .iload_n 1, 95, 0), (95, .iaload, 96, 0)]), (120, [(96, .iadd, 97, 0), (97, .i2l, 98, 0), (98, .invokestatic 124, 101, 0), (101, .ifCond .ne 5, 104, 106), (104, .iconst (-1), 105, 0), (105, .ireturn, 106, 0), (106, .aload_n 0, 107, 0), (107, .iload_n 1, 108, 0), (108, .iload_n 2, 109, 0), (109, .invokevirtual 286, 112, 0), (112, .ifCond .ne 6, 115, 118), (115, .bipush (-2), 117, 0), (117, .ireturn, 118, 0), (118, .aload_n 0, 119, 0), (119, .iload_n 1, 120, 0), (120, .iload_n 2, 121, 0)]), (151, [(121, .iload_n 3, 122, 0), (122, .iload 4, 124, 0), (124, .invokevirtual 325, 127, 0), (127, .iload 5, 129, 0), (129, .bipush 10, 131, 0), (131, .if_icmp .lt 34, 134, 165), (134, .iload 5, 136, 0), (136, .bipush 40, 138, 0), (138, .if_icmp .ge 16, 141, 154), (141, .aload_n 0, 142, 0), (142, .getfield 70, 145, 0), (145, .iload 5, 147, 0), (147, .bipush 10, 149, 0), (149, .isub, 150, 0), (150, .iaload, 151, 0), (151, .goto 13, 154, 164)]), (178, [(154, .aload_n 0, 155, 0), (155, .getfield 73, 158, 0), (158, .iload 5, 160, 0), (160, .bipush 40, 162, 0), (162, .isub, 163, 0), (163, .iaload, 164, 0), (164, .ireturn, 165, 0), (165, .iconst 0, 166, 0), (166, .istore 6, 168, 0), (168, .iconst 0, 169, 0), (169, .istore 7, 171, 0), (171, .iload 7, 173, 0), (173, .aload_n 0, 174, 0), (174, .getfield 51, 177, 0), (177, .iload_n 1, 178, 0), (178, .iaload, 179, 0)]), (212, [(179, .if_icmp .ge 21, 182, 200), (182, .iload 6, 184, 0), (184, .aload_n 0, 185, 0), (185, .getfield 73, 188, 0), (188, .iload 7, 190, 0), (190, .iaload, 191, 0), (191, .iadd, 192, 0), (192, .istore 6, 194, 0), (194, .iinc 7 1, 197, 0), (197, .goto (-26), 200, 171), (200, .iload 5, 202, 0), (202, .ifCond .ne 10, 205, 212), (205, .aload_n 0, 206, 0), (206, .getfield 315, 209, 0), (209, .goto 18, 212, 227), (212, .iload 5, 214, 0)]), (227, [(214, .iconst 1, 215, 0), (215, .if_icmp .ne 8, 218, 223), (218, .iload 6, 220, 0), (220, .goto 7, 223, 227), (223, .aload_n 0, 224, 0), (224, .getfield 318, 227, 0), (227, .ireturn, 228, 0)])])
theorem ok_X10_set : ev_ok mi_X10_set := ev_ok_of (by decide +kernel)
theorem pf_X10_set : plainName mi_X10_set.1.cls = true ∨ plainFor mi_X10_set.1 = true := Or.inl pn_X10
def mi_X10_drawnWith : MI := (yX10_drawnWith, prog_12_method_60_code, 5, (some .int), 0, 0, 10, [(22, [(0, .iconst 0, 1, 0), (1, .istore_n 3, 2, 0), (2, .iconst 0, 3, 0), (3, .istore 4, 5, 0), (5, .iload 4, 7, 0), (7, .aload_n 0, 8, 0), (8, .getfield 121, 11, 0), (11, .if_icmp .ge 51, 14, 62), (14, .iload_n 3, 15, 0), (15, .iload_n 1, 16, 0), (16, .iload 4, 18, 0), (18, .ishr, 19, 0), (19, .iconst 1, 20, 0), (20, .iand, 21, 0), (21, .iconst 1, 22, 0), (22, .if_icmp .ne 13, 25, 35)]), (53, [(25, .aload_n 0, 26, 0), (26, .getfield 26, 29, 0), (29, .iload 4, 31, 0), (31, .iaload, 32, 0), (32, .goto 22, 35, 54), (35, .iload 4, 37, 0), (37, .iload_n 2, 38, 0), (38, .if_icmp .ne 15, 41, 53), (41, .aload_n 0, 42, 0), (42, .getfield 26, 45, 0), (45, .iload 4, 47, 0), (47, .iaload, 48, 0), (48, .iconst 2, 49, 0), (49, .idiv, 50, 0), (50, .goto 4, 53, 54), (53, .iconst 0, 54, 0)]), (63, [(54, .iadd, 55, 0), (55, .istore_n 3, 56, 0), (56, .iinc 4 1, 59, 0), (59, .goto (-54), 62, 5), (62, .iload_n 3, 63, 0), (63, .ireturn, 64, 0)])])
theorem ok_X10_drawnWith : ev_ok mi_X10_drawnWith := ev_ok_of (by decide +kernel)
theorem pf_X10_drawnWith : plainName mi_X10_drawnWith.1.cls = true ∨ plainFor mi_X10_drawnWith.1 = true := Or.inl pn_X10
def mi_X10_lowest : MI := (yX10_lowest, prog_12_method_61_code, 2, (some .int), 0, 0, 10, [(17, [(0, .iconst 0, 1, 0), (1, .istore_n 1, 2, 0), (2, .iload_n 0, 3, 0), (3, .iload_n 1, 4, 0), (4, .ishr, 5, 0), (5, .iconst 1, 6, 0), (6, .iand, 7, 0), (7, .ifCond .ne 9, 10, 16), (10, .iinc 1 1, 13, 0), (13, .goto (-11), 16, 2), (16, .iload_n 1, 17, 0), (17, .ireturn, 18, 0)])])
theorem ok_X10_lowest : ev_ok mi_X10_lowest := ev_ok_of (by decide +kernel)
theorem pf_X10_lowest : plainName mi_X10_lowest.1.cls = true ∨ plainFor mi_X10_lowest.1 = true := Or.inl pn_X10
def mi_X10_explains : MI := (yX10_explains, prog_12_method_62_code, 14, (some .int), 1, 25, 10, [(26, [(0, .iconst 0, 1, 0), (1, .istore 7, 3, 0), (3, .iload 7, 5, 0), (5, .bipush 12, 7, 0), (7, .if_icmp .ge 25, 10, 32), (10, .aload_n 0, 11, 0), (11, .getfield 91, 14, 0), (14, .iload 7, 16, 0), (16, .iconst 0, 17, 0), (17, .bastore, 18, 0), (18, .aload_n 0, 19, 0), (19, .getfield 88, 22, 0), (22, .iload 7, 24, 0), (24, .iconst 0, 25, 0), (25, .iastore, 26, 0), (26, .iinc 7 1, 29, 0)]), (54, [(29, .goto (-26), 32, 3), (32, .iload_n 3, 33, 0), (33, .istore 7, 35, 0), (35, .iconst 0, 36, 0), (36, .istore 8, 38, 0), (38, .iload 8, 40, 0), (40, .aload_n 0, 41, 0), (41, .getfield 51, 44, 0), (44, .iload_n 1, 45, 0), (45, .iaload, 46, 0), (46, .if_icmp .ge 185, 49, 231), (49, .aload_n 0, 50, 0), (50, .aload_n 0, 51, 0), (51, .iload_n 1, 52, 0), (52, .iload 8, 54, 0), (54, .invokevirtual 263, 57, 0)]), (88, [(57, .iload_n 2, 58, 0), (58, .invokevirtual 276, 61, 0), (61, .istore 9, 63, 0), (63, .iload 9, 65, 0), (65, .ifCond .ne 9, 68, 74), (68, .sipush (-32768), 71, 0), (71, .goto 19, 74, 90), (74, .aload_n 0, 75, 0), (75, .getfield 118, 78, 0), (78, .bipush 60, 80, 0), (80, .iload 4, 82, 0), (82, .imul, 83, 0), (83, .iload 5, 85, 0), (85, .iadd, 86, 0), (86, .iload 8, 88, 0), (88, .iadd, 89, 0)]), (118, [(89, .iaload, 90, 0), (90, .istore 10, 92, 0), (92, .iload 10, 94, 0), (94, .sipush (-32768), 97, 0), (97, .if_icmp .eq 112, 100, 209), (100, .iload 9, 102, 0), (102, .invokestatic 329, 105, 0), (105, .istore 11, 107, 0), (107, .iload 10, 109, 0), (109, .i2l, 110, 0), (110, .aload_n 0, 111, 0), (111, .getfield 22, 114, 0), (114, .iload 11, 116, 0), (116, .iaload, 117, 0), (117, .i2l, 118, 0), (118, .lsub, 119, 0)]), (143, [(119, .aload_n 0, 120, 0), (120, .getfield 36, 123, 0), (123, .iload 11, 125, 0), (125, .iaload, 126, 0), (126, .i2l, 127, 0), (127, .lsub, 128, 0), (128, .aload_n 0, 129, 0), (129, .getfield 29, 132, 0), (132, .iload 11, 134, 0), (134, .iaload, 135, 0), (135, .iload 7, 137, 0), (137, .bipush 100, 139, 0), (139, .isub, 140, 0), (140, .imul, 141, 0), (141, .bipush 10, 143, 0), (143, .invokestatic 149, 146, 0)]), (178, [(146, .i2l, 147, 0), (147, .lsub, 148, 0), (148, .lstore 12, 150, 0), (150, .lload 12, 152, 0), (152, .ldc2_w 179, 155, 0), (155, .ldc2_w 143, 158, 0), (158, .invokestatic 124, 161, 0), (161, .ifCond .eq 27, 164, 188), (164, .aload_n 0, 165, 0), (165, .getfield 91, 168, 0), (168, .iload 11, 170, 0), (170, .baload, 171, 0), (171, .ifCond .eq 20, 174, 191), (174, .aload_n 0, 175, 0), (175, .getfield 88, 178, 0), (178, .iload 11, 180, 0)]), (205, [(180, .iaload, 181, 0), (181, .i2l, 182, 0), (182, .lload 12, 184, 0), (184, .lcmp, 185, 0), (185, .ifCond .eq 6, 188, 191), (188, .bipush (-4), 190, 0), (190, .ireturn, 191, 0), (191, .aload_n 0, 192, 0), (192, .getfield 88, 195, 0), (195, .iload 11, 197, 0), (197, .lload 12, 199, 0), (199, .l2i, 200, 0), (200, .iastore, 201, 0), (201, .aload_n 0, 202, 0), (202, .getfield 91, 205, 0), (205, .iload 11, 207, 0)]), (235, [(207, .iconst 1, 208, 0), (208, .bastore, 209, 0), (209, .aload_n 0, 210, 0), (210, .iload 7, 212, 0), (212, .aload_n 0, 213, 0), (213, .iload 9, 215, 0), (215, .iload 6, 217, 0), (217, .invokevirtual 332, 220, 0), (220, .invokevirtual 297, 223, 0), (223, .istore 7, 225, 0), (225, .iinc 8 1, 228, 0), (228, .goto (-190), 231, 38), (231, .iconst 0, 232, 0), (232, .istore 8, 234, 0), (234, .iconst 0, 235, 0), (235, .istore 9, 237, 0)]), (267, [(237, .iload 9, 239, 0), (239, .bipush 12, 241, 0), (241, .if_icmp .ge 29, 244, 270), (244, .iload 8, 246, 0), (246, .aload_n 0, 247, 0), (247, .getfield 88, 250, 0), (250, .iload 9, 252, 0), (252, .iaload, 253, 0), (253, .ifCond .ne 7, 256, 260), (256, .iconst 0, 257, 0), (257, .goto 4, 260, 261), (260, .iconst 1, 261, 0), (261, .iadd, 262, 0), (262, .istore 8, 264, 0), (264, .iinc 9 1, 267, 0), (267, .goto (-30), 270, 237)]), (272, [(270, .iload 8, 272, 0), (272, .ireturn, 273, 0)])])
theorem ok_X10_explains : ev_ok mi_X10_explains := ev_ok_of (by decide +kernel)
theorem pf_X10_explains : plainName mi_X10_explains.1.cls = true ∨ plainFor mi_X10_explains.1 = true := Or.inl pn_X10
def mi_X10_blame : MI := (yX10_blame, prog_12_method_63_code, 15, (some .int), 3, 71, 10, [(29, [(0, .aload_n 0, 1, 0), (1, .iload_n 1, 2, 0), (2, .invokevirtual 266, 5, 0), (5, .ifCond .eq 74, 8, 79), (8, .iload_n 2, 9, 0), (9, .i2l, 10, 0), (10, .ldc2_w 282, 13, 0), (13, .ldc2_w 284, 16, 0), (16, .invokestatic 124, 19, 0), (19, .ifCond .eq 60, 22, 79), (22, .iload_n 3, 23, 0), (23, .i2l, 24, 0), (24, .lconst 0, 25, 0), (25, .aload_n 0, 26, 0), (26, .getfield 19, 29, 0), (29, .i2l, 30, 0)]), (65, [(30, .invokestatic 124, 33, 0), (33, .ifCond .eq 46, 36, 79), (36, .iload 4, 38, 0), (38, .iload 5, 40, 0), (40, .invokestatic 335, 43, 0), (43, .ifCond .eq 36, 46, 79), (46, .iload 7, 48, 0), (48, .i2l, 49, 0), (49, .lconst 0, 50, 0), (50, .ldc2_w 183, 53, 0), (53, .invokestatic 124, 56, 0), (56, .ifCond .ne 27, 59, 83), (59, .iload 7, 61, 0), (61, .i2l, 62, 0), (62, .ldc2_w 167, 65, 0), (65, .bipush 19, 67, 0)]), (96, [(67, .aload_n 0, 68, 0), (68, .getfield 121, 71, 0), (71, .iadd, 72, 0), (72, .i2l, 73, 0), (73, .invokestatic 124, 76, 0), (76, .ifCond .ne 7, 79, 83), (79, .sipush (-1000), 82, 0), (82, .ireturn, 83, 0), (83, .aload_n 0, 84, 0), (84, .iload_n 1, 85, 0), (85, .iload_n 2, 86, 0), (86, .invokevirtual 286, 89, 0), (89, .ifCond .ne 7, 92, 96), (92, .sipush (-1002), 95, 0), (95, .ireturn, 96, 0), (96, .aload_n 0, 97, 0)]), (128, [(97, .getfield 112, 100, 0), (100, .iload 4, 102, 0), (102, .iaload, 103, 0), (103, .iload 5, 105, 0), (105, .if_icmp .eq 25, 108, 130), (108, .sipush (-1010), 111, 0), (111, .aload_n 0, 112, 0), (112, .getfield 112, 115, 0), (115, .iload 4, 117, 0), (117, .iaload, 118, 0), (118, .bipush (-4), 120, 0), (120, .if_icmp .ne 7, 123, 127), (123, .iconst 1, 124, 0), (124, .goto 4, 127, 128), (127, .iconst 3, 128, 0), (128, .isub, 129, 0)]), (156, [(129, .ireturn, 130, 0), (130, .iconst 0, 131, 0), (131, .istore 8, 133, 0), (133, .iload 8, 135, 0), (135, .aload_n 0, 136, 0), (136, .getfield 51, 139, 0), (139, .iload_n 1, 140, 0), (140, .iaload, 141, 0), (141, .if_icmp .ge 47, 144, 188), (144, .aload_n 0, 145, 0), (145, .iload_n 1, 146, 0), (146, .iload 8, 148, 0), (148, .invokevirtual 263, 151, 0), (151, .ifCond .eq 31, 154, 182), (154, .iload 6, 156, 0), (156, .i2l, 157, 0)]), (182, [(157, .iload 8, 159, 0), (159, .i2l, 160, 0), (160, .ladd, 161, 0), (161, .lconst 0, 162, 0), (162, .aload_n 0, 163, 0), (163, .getfield 115, 166, 0), (166, .iload 4, 168, 0), (168, .iaload, 169, 0), (169, .iconst 1, 170, 0), (170, .isub, 171, 0), (171, .i2l, 172, 0), (172, .invokestatic 124, 175, 0), (175, .ifCond .ne 7, 178, 182), (178, .sipush (-1012), 181, 0), (181, .ireturn, 182, 0), (182, .iinc 8 1, 185, 0)]), (218, [(185, .goto (-52), 188, 133), (188, .bipush (-4), 190, 0), (190, .istore 8, 192, 0), (192, .bipush (-4), 194, 0), (194, .istore 9, 196, 0), (196, .iconst (-1), 197, 0), (197, .istore 10, 199, 0), (199, .iload 10, 201, 0), (201, .aload_n 0, 202, 0), (202, .getfield 121, 205, 0), (205, .if_icmp .ge 120, 208, 325), (208, .iload 10, 210, 0), (210, .ifCond .ge 8, 213, 218), (213, .bipush (-4), 215, 0), (215, .goto 5, 218, 220), (218, .iload 10, 220, 0)]), (249, [(220, .istore 11, 222, 0), (222, .aload_n 0, 223, 0), (223, .iload_n 1, 224, 0), (224, .iload_n 2, 225, 0), (225, .iload_n 3, 226, 0), (226, .iload 4, 228, 0), (228, .iload 6, 230, 0), (230, .iload 11, 232, 0), (232, .invokevirtual 338, 235, 0), (235, .istore 12, 237, 0), (237, .iload 12, 239, 0), (239, .ifCond .ge 8, 242, 247), (242, .bipush (-4), 244, 0), (244, .goto 16, 247, 260), (247, .iload 12, 249, 0), (249, .iload 10, 251, 0)]), (283, [(251, .ifCond .ge 7, 254, 258), (254, .iconst 0, 255, 0), (255, .goto 4, 258, 259), (258, .iconst 1, 259, 0), (259, .iadd, 260, 0), (260, .istore 13, 262, 0), (262, .iload 13, 264, 0), (264, .ifCond .lt 55, 267, 319), (267, .iload 8, 269, 0), (269, .bipush (-4), 271, 0), (271, .if_icmp .eq 10, 274, 281), (274, .iload 13, 276, 0), (276, .iload 8, 278, 0), (278, .if_icmp .ge 41, 281, 319), (281, .iload 13, 283, 0), (283, .istore 8, 285, 0)]), (313, [(285, .iload 11, 287, 0), (287, .istore 9, 289, 0), (289, .iconst 0, 290, 0), (290, .istore 14, 292, 0), (292, .iload 14, 294, 0), (294, .bipush 12, 296, 0), (296, .if_icmp .ge 23, 299, 319), (299, .aload_n 0, 300, 0), (300, .getfield 94, 303, 0), (303, .iload 14, 305, 0), (305, .aload_n 0, 306, 0), (306, .getfield 88, 309, 0), (309, .iload 14, 311, 0), (311, .iaload, 312, 0), (312, .iastore, 313, 0), (313, .iinc 14 1, 316, 0)]), (349, [(316, .goto (-24), 319, 292), (319, .iinc 10 1, 322, 0), (322, .goto (-123), 325, 199), (325, .iload 8, 327, 0), (327, .bipush (-4), 329, 0), (329, .if_icmp .ne 7, 332, 336), (332, .sipush (-1004), 335, 0), (335, .ireturn, 336, 0), (336, .iconst 0, 337, 0), (337, .istore 10, 339, 0), (339, .iconst 0, 340, 0), (340, .istore 11, 342, 0), (342, .iload 11, 344, 0), (344, .bipush 12, 346, 0), (346, .if_icmp .ge 32, 349, 378), (349, .iload 10, 351, 0)]), (380, [(351, .aload_n 0, 352, 0), (352, .getfield 94, 355, 0), (355, .iload 11, 357, 0), (357, .iaload, 358, 0), (358, .ifCond .ne 7, 361, 365), (361, .iconst 0, 362, 0), (362, .goto 7, 365, 369), (365, .iconst 1, 366, 0), (366, .iload 11, 368, 0), (368, .ishl, 369, 0), (369, .ior, 370, 0), (370, .istore 10, 372, 0), (372, .iinc 11 1, 375, 0), (375, .goto (-33), 378, 342), (378, .iload 7, 380, 0), (380, .ifCond .ne 8, 383, 388)]), (416, [(383, .iload 8, 385, 0), (385, .goto 35, 388, 420), (388, .iload 7, 390, 0), (390, .iconst 1, 391, 0), (391, .if_icmp .ne 8, 394, 399), (394, .iload 9, 396, 0), (396, .goto 24, 399, 420), (399, .iload 7, 401, 0), (401, .iconst 2, 402, 0), (402, .if_icmp .ne 8, 405, 410), (405, .iload 10, 407, 0), (407, .goto 13, 410, 420), (410, .aload_n 0, 411, 0), (411, .getfield 94, 414, 0), (414, .iload 7, 416, 0), (416, .bipush 20, 418, 0)]), (420, [(418, .isub, 419, 0), (419, .iaload, 420, 0), (420, .ireturn, 421, 0)])])
theorem ok_X10_blame : ev_ok mi_X10_blame := ev_ok_of (by decide +kernel)
theorem pf_X10_blame : plainName mi_X10_blame.1.cls = true ∨ plainFor mi_X10_blame.1 = true := Or.inl pn_X10
def mi_X10_boat : MI := (yX10_boat, prog_12_method_64_code, 3, (some .int), 1, 25, 10, [(27, [(0, .iload_n 1, 1, 0), (1, .i2l, 2, 0), (2, .lconst 0, 3, 0), (3, .ldc2_w 342, 6, 0), (6, .invokestatic 124, 9, 0), (9, .ifCond .eq 15, 12, 24), (12, .iload_n 2, 13, 0), (13, .i2l, 14, 0), (14, .lconst 0, 15, 0), (15, .ldc2_w 344, 18, 0), (18, .invokestatic 124, 21, 0), (21, .ifCond .ne 5, 24, 26), (24, .iconst (-1), 25, 0), (25, .ireturn, 26, 0), (26, .aload_n 0, 27, 0), (27, .getfield 346, 30, 0)]), (56, [(30, .iconst 4, 31, 0), (31, .if_icmp .ne 6, 34, 37), (34, .bipush (-3), 36, 0), (36, .ireturn, 37, 0), (37, .aload_n 0, 38, 0), (38, .getfield 97, 41, 0), (41, .aload_n 0, 42, 0), (42, .getfield 346, 45, 0), (45, .iload_n 1, 46, 0), (46, .iastore, 47, 0), (47, .aload_n 0, 48, 0), (48, .getfield 100, 51, 0), (51, .aload_n 0, 52, 0), (52, .getfield 346, 55, 0), (55, .iload_n 2, 56, 0), (56, .iastore, 57, 0)]), (73, [(57, .aload_n 0, 58, 0), (58, .dup, 59, 0), (59, .getfield 346, 62, 0), (62, .iconst 1, 63, 0), (63, .iadd, 64, 0), (64, .putfield 346, 67, 0), (67, .aload_n 0, 68, 0), (68, .getfield 346, 71, 0), (71, .iconst 1, 72, 0), (72, .isub, 73, 0), (73, .ireturn, 74, 0)])])
theorem ok_X10_boat : ev_ok mi_X10_boat := ev_ok_of (by decide +kernel)
theorem pf_X10_boat : plainName mi_X10_boat.1.cls = true ∨ plainFor mi_X10_boat.1 = true := Or.inl pn_X10
def mi_X10_bend : MI := (yX10_bend, prog_12_method_65_code, 5, (some .int), 1, 25, 10, [(29, [(0, .iload_n 1, 1, 0), (1, .i2l, 2, 0), (2, .lconst 0, 3, 0), (3, .ldc2_w 342, 6, 0), (6, .invokestatic 124, 9, 0), (9, .ifCond .eq 19, 12, 28), (12, .iload_n 2, 13, 0), (13, .i2l, 14, 0), (14, .lconst 1, 15, 0), (15, .ldc2_w 344, 18, 0), (18, .invokestatic 124, 21, 0), (21, .ifCond .eq 7, 24, 28), (24, .iconst 1, 25, 0), (25, .goto 4, 28, 29), (28, .iconst 0, 29, 0), (29, .istore_n 3, 30, 0)]), (58, [(30, .iconst 0, 31, 0), (31, .istore 4, 33, 0), (33, .iload 4, 35, 0), (35, .aload_n 0, 36, 0), (36, .getfield 349, 39, 0), (39, .if_icmp .ge 30, 42, 69), (42, .iload_n 3, 43, 0), (43, .ifCond .eq 18, 46, 61), (46, .aload_n 0, 47, 0), (47, .getfield 103, 50, 0), (50, .iload 4, 52, 0), (52, .iaload, 53, 0), (53, .iload_n 1, 54, 0), (54, .if_icmp .eq 7, 57, 61), (57, .iconst 1, 58, 0), (58, .goto 4, 61, 62)]), (88, [(61, .iconst 0, 62, 0), (62, .istore_n 3, 63, 0), (63, .iinc 4 1, 66, 0), (66, .goto (-33), 69, 33), (69, .iload_n 3, 70, 0), (70, .ifCond .ne 5, 73, 75), (73, .iconst (-1), 74, 0), (74, .ireturn, 75, 0), (75, .aload_n 0, 76, 0), (76, .getfield 349, 79, 0), (79, .bipush 6, 81, 0), (81, .if_icmp .ne 6, 84, 87), (84, .bipush (-3), 86, 0), (86, .ireturn, 87, 0), (87, .aload_n 0, 88, 0), (88, .getfield 103, 91, 0)]), (114, [(91, .aload_n 0, 92, 0), (92, .getfield 349, 95, 0), (95, .iload_n 1, 96, 0), (96, .iastore, 97, 0), (97, .aload_n 0, 98, 0), (98, .getfield 106, 101, 0), (101, .aload_n 0, 102, 0), (102, .getfield 349, 105, 0), (105, .iload_n 2, 106, 0), (106, .iastore, 107, 0), (107, .aload_n 0, 108, 0), (108, .dup, 109, 0), (109, .getfield 349, 112, 0), (112, .iconst 1, 113, 0), (113, .iadd, 114, 0), (114, .putfield 349, 117, 0)]), (121, [(117, .aload_n 0, 118, 0), (118, .getfield 349, 121, 0), (121, .ireturn, 122, 0)])])
theorem ok_X10_bend : ev_ok mi_X10_bend := ev_ok_of (by decide +kernel)
theorem pf_X10_bend : plainName mi_X10_bend.1.cls = true ∨ plainFor mi_X10_bend.1 = true := Or.inl pn_X10
def mi_X10_speed : MI := (yX10_speed, prog_12_method_66_code, 3, (some .int), 1, 25, 10, [(25, [(0, .iload_n 1, 1, 0), (1, .i2l, 2, 0), (2, .lconst 1, 3, 0), (3, .ldc2_w 344, 6, 0), (6, .invokestatic 124, 9, 0), (9, .ifCond .ne 5, 12, 14), (12, .iconst (-1), 13, 0), (13, .ireturn, 14, 0), (14, .aload_n 0, 15, 0), (15, .getfield 109, 18, 0), (18, .istore_n 2, 19, 0), (19, .aload_n 0, 20, 0), (20, .iload_n 1, 21, 0), (21, .putfield 109, 24, 0), (24, .iload_n 2, 25, 0), (25, .ireturn, 26, 0)])])
theorem ok_X10_speed : ev_ok mi_X10_speed := ev_ok_of (by decide +kernel)
theorem pf_X10_speed : plainName mi_X10_speed.1.cls = true ∨ plainFor mi_X10_speed.1 = true := Or.inl pn_X10
def mi_X10_farOf : MI := (yX10_farOf, prog_12_method_67_code, 7, (some .int), 0, 0, 10, [(25, [(0, .iload_n 1, 1, 0), (1, .iload_n 2, 2, 0), (2, .if_icmp .ge 7, 5, 9), (5, .iload_n 1, 6, 0), (6, .goto 4, 9, 10), (9, .iload_n 2, 10, 0), (10, .istore_n 3, 11, 0), (11, .iload_n 1, 12, 0), (12, .iload_n 2, 13, 0), (13, .if_icmp .ge 7, 16, 20), (16, .iload_n 2, 17, 0), (17, .goto 4, 20, 21), (20, .iload_n 1, 21, 0), (21, .istore 4, 23, 0), (23, .iload 4, 25, 0), (25, .iload_n 3, 26, 0)]), (54, [(26, .isub, 27, 0), (27, .istore 5, 29, 0), (29, .iconst 0, 30, 0), (30, .istore 6, 32, 0), (32, .iload 6, 34, 0), (34, .aload_n 0, 35, 0), (35, .getfield 349, 38, 0), (38, .if_icmp .ge 48, 41, 86), (41, .iload 5, 43, 0), (43, .aload_n 0, 44, 0), (44, .getfield 103, 47, 0), (47, .iload 6, 49, 0), (49, .iaload, 50, 0), (50, .iload_n 3, 51, 0), (51, .if_icmp .le 25, 54, 76), (54, .aload_n 0, 55, 0)]), (86, [(55, .getfield 103, 58, 0), (58, .iload 6, 60, 0), (60, .iaload, 61, 0), (61, .iload 4, 63, 0), (63, .if_icmp .gt 13, 66, 76), (66, .aload_n 0, 67, 0), (67, .getfield 106, 70, 0), (70, .iload 6, 72, 0), (72, .iaload, 73, 0), (73, .goto 4, 76, 77), (76, .iconst 0, 77, 0), (77, .iadd, 78, 0), (78, .istore 5, 80, 0), (80, .iinc 6 1, 83, 0), (83, .goto (-51), 86, 32), (86, .iload 5, 88, 0)]), (88, [(88, .ireturn, 89, 0)])])
theorem ok_X10_farOf : ev_ok mi_X10_farOf := ev_ok_of (by decide +kernel)
theorem pf_X10_farOf : plainName mi_X10_farOf.1.cls = true ∨ plainFor mi_X10_farOf.1 = true := Or.inl pn_X10
def mi_X10_far : MI := (yX10_far, prog_12_method_68_code, 3, (some .int), 1, 26, 10, [(27, [(0, .iload_n 1, 1, 0), (1, .i2l, 2, 0), (2, .lconst 0, 3, 0), (3, .ldc2_w 342, 6, 0), (6, .invokestatic 124, 9, 0), (9, .ifCond .eq 24, 12, 33), (12, .iload_n 2, 13, 0), (13, .i2l, 14, 0), (14, .lconst 0, 15, 0), (15, .ldc2_w 342, 18, 0), (18, .invokestatic 124, 21, 0), (21, .ifCond .eq 12, 24, 33), (24, .aload_n 0, 25, 0), (25, .iload_n 1, 26, 0), (26, .iload_n 2, 27, 0), (27, .invokevirtual 352, 30, 0)]), (34, [(30, .goto 4, 33, 34), (33, .iconst (-1), 34, 0), (34, .ireturn, 35, 0)])])
theorem ok_X10_far : ev_ok mi_X10_far := ev_ok_of (by decide +kernel)
theorem pf_X10_far : plainName mi_X10_far.1.cls = true ∨ plainFor mi_X10_far.1 = true := Or.inl pn_X10
def mi_X10_heardAt : MI := (yX10_heardAt, prog_12_method_69_code, 3, (some .int), 1, 26, 10, [(23, [(0, .aload_n 0, 1, 0), (1, .getfield 100, 4, 0), (4, .iload_n 1, 5, 0), (5, .iaload, 6, 0), (6, .aload_n 0, 7, 0), (7, .aload_n 0, 8, 0), (8, .getfield 97, 11, 0), (11, .iload_n 1, 12, 0), (12, .iaload, 13, 0), (13, .iload_n 2, 14, 0), (14, .invokevirtual 352, 17, 0), (17, .aload_n 0, 18, 0), (18, .getfield 109, 21, 0), (21, .idiv, 22, 0), (22, .iadd, 23, 0), (23, .ireturn, 24, 0)])])
theorem ok_X10_heardAt : ev_ok mi_X10_heardAt := ev_ok_of (by decide +kernel)
theorem pf_X10_heardAt : plainName mi_X10_heardAt.1.cls = true ∨ plainFor mi_X10_heardAt.1 = true := Or.inl pn_X10
def mi_X10_heard : MI := (yX10_heard, prog_12_method_70_code, 4, (some .int), 2, 48, 10, [(25, [(0, .iload_n 1, 1, 0), (1, .i2l, 2, 0), (2, .lconst 0, 3, 0), (3, .aload_n 0, 4, 0), (4, .getfield 346, 7, 0), (7, .iconst 1, 8, 0), (8, .isub, 9, 0), (9, .i2l, 10, 0), (10, .invokestatic 124, 13, 0), (13, .ifCond .eq 38, 16, 51), (16, .iload_n 2, 17, 0), (17, .i2l, 18, 0), (18, .lconst 0, 19, 0), (19, .ldc2_w 344, 22, 0), (22, .invokestatic 124, 25, 0), (25, .ifCond .eq 26, 28, 51)]), (52, [(28, .iload_n 3, 29, 0), (29, .i2l, 30, 0), (30, .lconst 0, 31, 0), (31, .ldc2_w 342, 34, 0), (34, .invokestatic 124, 37, 0), (37, .ifCond .eq 14, 40, 51), (40, .iload_n 2, 41, 0), (41, .aload_n 0, 42, 0), (42, .iload_n 1, 43, 0), (43, .iload_n 3, 44, 0), (44, .invokevirtual 355, 47, 0), (47, .iadd, 48, 0), (48, .goto 4, 51, 52), (51, .iconst (-1), 52, 0), (52, .ireturn, 53, 0)])])
theorem ok_X10_heard : ev_ok mi_X10_heard := ev_ok_of (by decide +kernel)
theorem pf_X10_heard : plainName mi_X10_heard.1.cls = true ∨ plainFor mi_X10_heard.1 = true := Or.inl pn_X10
def mi_X10_step : MI := (yX10_step, prog_12_method_71_code, 11, (some .int), 2, 48, 10, [(23, [(0, .iload_n 1, 1, 0), (1, .i2l, 2, 0), (2, .lconst 0, 3, 0), (3, .aload_n 0, 4, 0), (4, .getfield 346, 7, 0), (7, .iconst 1, 8, 0), (8, .isub, 9, 0), (9, .i2l, 10, 0), (10, .invokestatic 124, 13, 0), (13, .ifCond .eq 36, 16, 49), (16, .iload_n 2, 17, 0), (17, .i2l, 18, 0), (18, .lconst 0, 19, 0), (19, .aload_n 0, 20, 0), (20, .getfield 346, 23, 0), (23, .iconst 1, 24, 0)]), (51, [(24, .isub, 25, 0), (25, .i2l, 26, 0), (26, .invokestatic 124, 29, 0), (29, .ifCond .eq 20, 32, 49), (32, .iload_n 1, 33, 0), (33, .iload_n 2, 34, 0), (34, .if_icmp .eq 15, 37, 49), (37, .iload_n 3, 38, 0), (38, .i2l, 39, 0), (39, .lconst 0, 40, 0), (40, .ldc2_w 269, 43, 0), (43, .invokestatic 124, 46, 0), (46, .ifCond .ne 5, 49, 51), (49, .iconst (-1), 50, 0), (50, .ireturn, 51, 0), (51, .iconst 0, 52, 0)]), (80, [(52, .istore 4, 54, 0), (54, .bipush (-4), 56, 0), (56, .istore 5, 58, 0), (58, .bipush (-4), 60, 0), (60, .istore 6, 62, 0), (62, .iconst 0, 63, 0), (63, .istore 7, 65, 0), (65, .iconst 0, 66, 0), (66, .istore 8, 68, 0), (68, .iconst 0, 69, 0), (69, .istore 9, 71, 0), (71, .iload 9, 73, 0), (73, .sipush 1000, 76, 0), (76, .if_icmp .ge 114, 79, 190), (79, .aload_n 0, 80, 0), (80, .iload_n 1, 81, 0)]), (111, [(81, .iload 9, 83, 0), (83, .invokevirtual 355, 86, 0), (86, .aload_n 0, 87, 0), (87, .iload_n 2, 88, 0), (88, .iload 9, 90, 0), (90, .invokevirtual 355, 93, 0), (93, .if_icmp .ne 7, 96, 100), (96, .iconst 1, 97, 0), (97, .goto 4, 100, 101), (100, .iconst 0, 101, 0), (101, .istore 10, 103, 0), (103, .iload 10, 105, 0), (105, .ifCond .eq 10, 108, 115), (108, .iload 7, 110, 0), (110, .iconst 1, 111, 0), (111, .iadd, 112, 0)]), (145, [(112, .goto 4, 115, 116), (115, .iconst 0, 116, 0), (116, .istore 7, 118, 0), (118, .iload 7, 120, 0), (120, .iload 8, 122, 0), (122, .if_icmp .le 8, 125, 130), (125, .iload 7, 127, 0), (127, .goto 5, 130, 132), (130, .iload 8, 132, 0), (132, .istore 8, 134, 0), (134, .iload 4, 136, 0), (136, .iload 10, 138, 0), (138, .ifCond .eq 7, 141, 145), (141, .iconst 1, 142, 0), (142, .goto 4, 145, 146), (145, .iconst 0, 146, 0)]), (180, [(146, .iadd, 147, 0), (147, .istore 4, 149, 0), (149, .iload 10, 151, 0), (151, .ifCond .eq 15, 154, 166), (154, .iload 5, 156, 0), (156, .bipush (-4), 158, 0), (158, .if_icmp .ne 8, 161, 166), (161, .iload 9, 163, 0), (163, .goto 5, 166, 168), (166, .iload 5, 168, 0), (168, .istore 5, 170, 0), (170, .iload 10, 172, 0), (172, .ifCond .eq 8, 175, 180), (175, .iload 9, 177, 0), (177, .goto 5, 180, 182), (180, .iload 6, 182, 0)]), (214, [(182, .istore 6, 184, 0), (184, .iinc 9 1, 187, 0), (187, .goto (-116), 190, 71), (190, .iload_n 3, 191, 0), (191, .ifCond .ne 8, 194, 199), (194, .iload 4, 196, 0), (196, .goto 25, 199, 221), (199, .iload_n 3, 200, 0), (200, .iconst 1, 201, 0), (201, .if_icmp .ne 8, 204, 209), (204, .iload 5, 206, 0), (206, .goto 15, 209, 221), (209, .iload_n 3, 210, 0), (210, .iconst 2, 211, 0), (211, .if_icmp .ne 8, 214, 219), (214, .iload 6, 216, 0)]), (221, [(216, .goto 5, 219, 221), (219, .iload 8, 221, 0), (221, .ireturn, 222, 0)])])
theorem ok_X10_step : ev_ok mi_X10_step := ev_ok_of (by decide +kernel)
theorem pf_X10_step : plainName mi_X10_step.1.cls = true ∨ plainFor mi_X10_step.1 = true := Or.inl pn_X10
def mi_X10_isSheet : MI := (yX10_isSheet, prog_12_method_72_code, 2, (some .boolean), 1, 25, 10, [(29, [(0, .iload_n 0, 1, 0), (1, .i2l, 2, 0), (2, .lconst 0, 3, 0), (3, .ldc2_w 269, 6, 0), (6, .invokestatic 124, 9, 0), (9, .ifCond .eq 19, 12, 28), (12, .iload_n 1, 13, 0), (13, .i2l, 14, 0), (14, .lconst 0, 15, 0), (15, .ldc2_w 183, 18, 0), (18, .invokestatic 124, 21, 0), (21, .ifCond .eq 7, 24, 28), (24, .iconst 1, 25, 0), (25, .goto 4, 28, 29), (28, .iconst 0, 29, 0), (29, .ireturn, 30, 0)])])
theorem ok_X10_isSheet : ev_ok mi_X10_isSheet := ev_ok_of (by decide +kernel)
theorem pf_X10_isSheet : plainName mi_X10_isSheet.1.cls = true ∨ plainFor mi_X10_isSheet.1 = true := Or.inl pn_X10
def mi_X10_sheet : MI := (yX10_sheet, prog_12_method_73_code, 5, (some .int), 2, 46, 10, [(27, [(0, .iload_n 1, 1, 0), (1, .iload_n 2, 2, 0), (2, .invokestatic 335, 5, 0), (5, .ifCond .eq 9, 8, 14), (8, .iload_n 3, 9, 0), (9, .bipush 60, 11, 0), (11, .if_icmp .le 5, 14, 16), (14, .iconst (-1), 15, 0), (15, .ireturn, 16, 0), (16, .iload_n 3, 17, 0), (17, .ifCond .ge 6, 20, 23), (20, .bipush (-14), 22, 0), (22, .ireturn, 23, 0), (23, .aload_n 0, 24, 0), (24, .getfield 112, 27, 0), (27, .iload_n 1, 28, 0)]), (53, [(28, .iload_n 2, 29, 0), (29, .iastore, 30, 0), (30, .aload_n 0, 31, 0), (31, .getfield 115, 34, 0), (34, .iload_n 1, 35, 0), (35, .iload_n 3, 36, 0), (36, .iastore, 37, 0), (37, .iconst 0, 38, 0), (38, .istore 4, 40, 0), (40, .iload 4, 42, 0), (42, .bipush 60, 44, 0), (44, .if_icmp .ge 22, 47, 66), (47, .aload_n 0, 48, 0), (48, .getfield 118, 51, 0), (51, .bipush 60, 53, 0), (53, .iload_n 1, 54, 0)]), (67, [(54, .imul, 55, 0), (55, .iload 4, 57, 0), (57, .iadd, 58, 0), (58, .iconst 0, 59, 0), (59, .iastore, 60, 0), (60, .iinc 4 1, 63, 0), (63, .goto (-23), 66, 40), (66, .iconst 1, 67, 0), (67, .ireturn, 68, 0)])])
theorem ok_X10_sheet : ev_ok mi_X10_sheet := ev_ok_of (by decide +kernel)
theorem pf_X10_sheet : plainName mi_X10_sheet.1.cls = true ∨ plainFor mi_X10_sheet.1 = true := Or.inl pn_X10
def mi_X10_lay : MI := (yX10_lay, prog_12_method_74_code, 4, (some .int), 2, 46, 10, [(25, [(0, .iload_n 1, 1, 0), (1, .iconst 0, 2, 0), (2, .invokestatic 335, 5, 0), (5, .ifCond .ne 5, 8, 10), (8, .iconst (-1), 9, 0), (9, .ireturn, 10, 0), (10, .aload_n 0, 11, 0), (11, .getfield 112, 14, 0), (14, .iload_n 1, 15, 0), (15, .iaload, 16, 0), (16, .bipush (-4), 18, 0), (18, .if_icmp .ne 6, 21, 24), (21, .bipush (-11), 23, 0), (23, .ireturn, 24, 0), (24, .iload_n 2, 25, 0), (25, .i2l, 26, 0)]), (51, [(26, .lconst 0, 27, 0), (27, .aload_n 0, 28, 0), (28, .getfield 115, 31, 0), (31, .iload_n 1, 32, 0), (32, .iaload, 33, 0), (33, .iconst 1, 34, 0), (34, .isub, 35, 0), (35, .i2l, 36, 0), (36, .invokestatic 124, 39, 0), (39, .ifCond .ne 6, 42, 45), (42, .bipush (-12), 44, 0), (44, .ireturn, 45, 0), (45, .aload_n 0, 46, 0), (46, .getfield 118, 49, 0), (49, .bipush 60, 51, 0), (51, .iload_n 1, 52, 0)]), (75, [(52, .imul, 53, 0), (53, .iload_n 2, 54, 0), (54, .iadd, 55, 0), (55, .aload_n 0, 56, 0), (56, .getfield 112, 59, 0), (59, .iload_n 1, 60, 0), (60, .iaload, 61, 0), (61, .ifCond .ne 8, 64, 69), (64, .iload_n 3, 65, 0), (65, .i2b, 66, 0), (66, .goto 19, 69, 85), (69, .aload_n 0, 70, 0), (70, .getfield 112, 73, 0), (73, .iload_n 1, 74, 0), (74, .iaload, 75, 0), (75, .iconst 1, 76, 0)]), (87, [(76, .if_icmp .ne 8, 79, 84), (79, .iload_n 3, 80, 0), (80, .i2s, 81, 0), (81, .goto 4, 84, 85), (84, .iload_n 3, 85, 0), (85, .iastore, 86, 0), (86, .iconst 1, 87, 0), (87, .ireturn, 88, 0)])])
theorem ok_X10_lay : ev_ok mi_X10_lay := ev_ok_of (by decide +kernel)
theorem pf_X10_lay : plainName mi_X10_lay.1.cls = true ∨ plainFor mi_X10_lay.1 = true := Or.inl pn_X10
def mi_X10_scan : MI := (yX10_scan, prog_12_method_75_code, 12, (some .int), 2, 49, 10, [(28, [(0, .iload_n 1, 1, 0), (1, .iload_n 2, 2, 0), (2, .invokestatic 335, 5, 0), (5, .ifCond .eq 16, 8, 21), (8, .iload 4, 10, 0), (10, .i2l, 11, 0), (11, .lconst 0, 12, 0), (12, .ldc2_w 358, 15, 0), (15, .invokestatic 124, 18, 0), (18, .ifCond .ne 5, 21, 23), (21, .iconst (-1), 22, 0), (22, .ireturn, 23, 0), (23, .aload_n 0, 24, 0), (24, .getfield 112, 27, 0), (27, .iload_n 1, 28, 0), (28, .iaload, 29, 0)]), (58, [(29, .iload_n 2, 30, 0), (30, .if_icmp .eq 22, 33, 52), (33, .aload_n 0, 34, 0), (34, .getfield 112, 37, 0), (37, .iload_n 1, 38, 0), (38, .iaload, 39, 0), (39, .bipush (-4), 41, 0), (41, .if_icmp .ne 8, 44, 49), (44, .bipush (-11), 46, 0), (46, .goto 5, 49, 51), (49, .bipush (-13), 51, 0), (51, .ireturn, 52, 0), (52, .aload_n 0, 53, 0), (53, .getfield 121, 56, 0), (56, .istore 5, 58, 0), (58, .iconst 0, 59, 0)]), (84, [(59, .istore 6, 61, 0), (61, .iconst 0, 62, 0), (62, .istore 7, 64, 0), (64, .iload 7, 66, 0), (66, .iload 4, 68, 0), (68, .if_icmp .ge 129, 71, 197), (71, .iload 6, 73, 0), (73, .ifCond .ne 124, 76, 197), (76, .iload_n 3, 77, 0), (77, .i2l, 78, 0), (78, .iconst 4, 79, 0), (79, .iload 7, 81, 0), (81, .imul, 82, 0), (82, .i2l, 83, 0), (83, .ladd, 84, 0), (84, .lstore 8, 86, 0)]), (112, [(86, .lload 8, 88, 0), (88, .lconst 0, 89, 0), (89, .lcmp, 90, 0), (90, .ifCond .lt 20, 93, 110), (93, .lload 8, 95, 0), (95, .ldc2_w 360, 98, 0), (98, .ladd, 99, 0), (99, .aload_n 0, 100, 0), (100, .getfield 115, 103, 0), (103, .iload_n 1, 104, 0), (104, .iaload, 105, 0), (105, .i2l, 106, 0), (106, .lcmp, 107, 0), (107, .ifCond .le 10, 110, 117), (110, .bipush (-12), 112, 0), (112, .istore 6, 114, 0)]), (139, [(114, .goto 77, 117, 191), (117, .bipush 60, 119, 0), (119, .iload_n 1, 120, 0), (120, .imul, 121, 0), (121, .lload 8, 123, 0), (123, .l2i, 124, 0), (124, .iadd, 125, 0), (125, .istore 10, 127, 0), (127, .aload_n 0, 128, 0), (128, .aload_n 0, 129, 0), (129, .getfield 118, 132, 0), (132, .iload 10, 134, 0), (134, .iaload, 135, 0), (135, .aload_n 0, 136, 0), (136, .getfield 118, 139, 0), (139, .iload 10, 141, 0)]), (162, [(141, .iconst 1, 142, 0), (142, .iadd, 143, 0), (143, .iaload, 144, 0), (144, .aload_n 0, 145, 0), (145, .getfield 118, 148, 0), (148, .iload 10, 150, 0), (150, .iconst 2, 151, 0), (151, .iadd, 152, 0), (152, .iaload, 153, 0), (153, .aload_n 0, 154, 0), (154, .getfield 118, 157, 0), (157, .iload 10, 159, 0), (159, .iconst 3, 160, 0), (160, .iadd, 161, 0), (161, .iaload, 162, 0), (162, .ifCond .eq 7, 165, 169)]), (197, [(165, .iconst 1, 166, 0), (166, .goto 4, 169, 170), (169, .iconst 0, 170, 0), (170, .invokevirtual 362, 173, 0), (173, .istore 11, 175, 0), (175, .iload 11, 177, 0), (177, .ifCond .ge 11, 180, 188), (180, .bipush (-20), 182, 0), (182, .iload 11, 184, 0), (184, .iadd, 185, 0), (185, .goto 4, 188, 189), (188, .iconst 0, 189, 0), (189, .istore 6, 191, 0), (191, .iinc 7 1, 194, 0), (194, .goto (-130), 197, 64), (197, .aload_n 0, 198, 0)]), (229, [(198, .iload 6, 200, 0), (200, .ifCond .ge 8, 203, 208), (203, .iload 5, 205, 0), (205, .goto 7, 208, 212), (208, .aload_n 0, 209, 0), (209, .getfield 121, 212, 0), (212, .putfield 121, 215, 0), (215, .iload 6, 217, 0), (217, .ifCond .ge 8, 220, 225), (220, .iload 6, 222, 0), (222, .goto 7, 225, 229), (225, .aload_n 0, 226, 0), (226, .getfield 121, 229, 0), (229, .ireturn, 230, 0)])])
theorem ok_X10_scan : ev_ok mi_X10_scan := ev_ok_of (by decide +kernel)
theorem pf_X10_scan : plainName mi_X10_scan.1.cls = true ∨ plainFor mi_X10_scan.1 = true := Or.inl pn_X10
def mi_X10_count : MI := (yX10_count, prog_12_method_76_code, 5, (some .int), 0, 0, 10, [(24, [(0, .iconst 0, 1, 0), (1, .istore_n 2, 2, 0), (2, .iconst 0, 3, 0), (3, .istore_n 3, 4, 0), (4, .iconst 0, 5, 0), (5, .istore 4, 7, 0), (7, .iload 4, 9, 0), (9, .aload_n 0, 10, 0), (10, .getfield 121, 13, 0), (13, .if_icmp .ge 45, 16, 58), (16, .iload_n 2, 17, 0), (17, .aload_n 0, 18, 0), (18, .getfield 42, 21, 0), (21, .iload 4, 23, 0), (23, .baload, 24, 0), (24, .ifCond .eq 7, 27, 31)]), (51, [(27, .iconst 1, 28, 0), (28, .goto 4, 31, 32), (31, .iconst 0, 32, 0), (32, .iadd, 33, 0), (33, .istore_n 2, 34, 0), (34, .iload_n 3, 35, 0), (35, .aload_n 0, 36, 0), (36, .getfield 39, 39, 0), (39, .iload 4, 41, 0), (41, .iaload, 42, 0), (42, .ifCond .ne 7, 45, 49), (45, .iconst 0, 46, 0), (46, .goto 4, 49, 50), (49, .iconst 1, 50, 0), (50, .iadd, 51, 0), (51, .istore_n 3, 52, 0)]), (127, [(52, .iinc 4 1, 55, 0), (55, .goto (-48), 58, 7), (58, .iload_n 1, 59, 0), (59, .tableswitch 106 0 8 #[49, 54, 59, 64, 69, 71, 73, 78, 83], 108, 0), (108, .aload_n 0, 109, 0), (109, .getfield 121, 112, 0), (112, .ireturn, 113, 0), (113, .aload_n 0, 114, 0), (114, .getfield 257, 117, 0), (117, .ireturn, 118, 0), (118, .aload_n 0, 119, 0), (119, .getfield 346, 122, 0), (122, .ireturn, 123, 0), (123, .aload_n 0, 124, 0), (124, .getfield 349, 127, 0), (127, .ireturn, 128, 0)]), (150, [(128, .iload_n 2, 129, 0), (129, .ireturn, 130, 0), (130, .iload_n 3, 131, 0), (131, .ireturn, 132, 0), (132, .aload_n 0, 133, 0), (133, .getfield 128, 136, 0), (136, .ireturn, 137, 0), (137, .aload_n 0, 138, 0), (138, .getfield 186, 141, 0), (141, .ireturn, 142, 0), (142, .aload_n 0, 143, 0), (143, .getfield 112, 146, 0), (146, .iconst 0, 147, 0), (147, .iaload, 148, 0), (148, .bipush (-4), 150, 0), (150, .if_icmp .ne 8, 153, 158)]), (166, [(153, .bipush (-4), 155, 0), (155, .goto 9, 158, 164), (158, .aload_n 0, 159, 0), (159, .getfield 115, 162, 0), (162, .iconst 0, 163, 0), (163, .iaload, 164, 0), (164, .ireturn, 165, 0), (165, .iconst (-1), 166, 0), (166, .ireturn, 167, 0)])])
theorem ok_X10_count : ev_ok mi_X10_count := ev_ok_of (by decide +kernel)
theorem pf_X10_count : plainName mi_X10_count.1.cls = true ∨ plainFor mi_X10_count.1 = true := Or.inl pn_X10
def mi_J6_bitCount_0f7a4 : MI := (yJ6_bitCount_0f7a4, prog_13_method_49_code, 1, (some .int), 0, 0, 99, [(21, [(0, .iload_n 0, 1, 0), (1, .iload_n 0, 2, 0), (2, .iconst 1, 3, 0), (3, .iushr, 4, 0), (4, .ldc_w 265, 7, 0), (7, .iand, 8, 0), (8, .isub, 9, 0), (9, .istore_n 0, 10, 0), (10, .iload_n 0, 11, 0), (11, .ldc_w 266, 14, 0), (14, .iand, 15, 0), (15, .iload_n 0, 16, 0), (16, .iconst 2, 17, 0), (17, .iushr, 18, 0), (18, .ldc_w 266, 21, 0), (21, .iand, 22, 0)]), (40, [(22, .iadd, 23, 0), (23, .istore_n 0, 24, 0), (24, .iload_n 0, 25, 0), (25, .iload_n 0, 26, 0), (26, .iconst 4, 27, 0), (27, .iushr, 28, 0), (28, .iadd, 29, 0), (29, .ldc_w 267, 32, 0), (32, .iand, 33, 0), (33, .istore_n 0, 34, 0), (34, .iload_n 0, 35, 0), (35, .iload_n 0, 36, 0), (36, .bipush 8, 38, 0), (38, .iushr, 39, 0), (39, .iadd, 40, 0), (40, .istore_n 0, 41, 0)]), (52, [(41, .iload_n 0, 42, 0), (42, .iload_n 0, 43, 0), (43, .bipush 16, 45, 0), (45, .iushr, 46, 0), (46, .iadd, 47, 0), (47, .istore_n 0, 48, 0), (48, .iload_n 0, 49, 0), (49, .bipush 63, 51, 0), (51, .iand, 52, 0), (52, .ireturn, 53, 0)])])
theorem ok_J6_bitCount_0f7a4 : ev_ok mi_J6_bitCount_0f7a4 := ev_ok_of (by decide +kernel)
theorem pf_J6_bitCount_0f7a4 : plainName mi_J6_bitCount_0f7a4.1.cls = true ∨ plainFor mi_J6_bitCount_0f7a4.1 = true := Or.inr (by decide +kernel)
def mi_J9_floorDiv_7cf53 : MI := (yJ9_floorDiv_7cf53, prog_14_method_47_code, 3, (some .int), 0, 0, 99, [(19, [(0, .iload_n 0, 1, 0), (1, .iload_n 1, 2, 0), (2, .idiv, 3, 0), (3, .istore_n 2, 4, 0), (4, .iload_n 0, 5, 0), (5, .iload_n 1, 6, 0), (6, .ixor, 7, 0), (7, .ifCond .ge 14, 10, 21), (10, .iload_n 2, 11, 0), (11, .iload_n 1, 12, 0), (12, .imul, 13, 0), (13, .iload_n 0, 14, 0), (14, .if_icmp .eq 7, 17, 21), (17, .iload_n 2, 18, 0), (18, .iconst 1, 19, 0), (19, .isub, 20, 0)]), (22, [(20, .ireturn, 21, 0), (21, .iload_n 2, 22, 0), (22, .ireturn, 23, 0)])])
theorem ok_J9_floorDiv_7cf53 : ev_ok mi_J9_floorDiv_7cf53 := ev_ok_of (by decide +kernel)
theorem pf_J9_floorDiv_7cf53 : plainName mi_J9_floorDiv_7cf53.1.cls = true ∨ plainFor mi_J9_floorDiv_7cf53.1 = true := Or.inr (by decide +kernel)
def mi_J9_abs_0f7a4 : MI := (yJ9_abs_0f7a4, prog_14_method_59_code, 1, (some .int), 0, 0, 99, [(10, [(0, .iload_n 0, 1, 0), (1, .ifCond .ge 8, 4, 9), (4, .iload_n 0, 5, 0), (5, .ineg, 6, 0), (6, .goto 4, 9, 10), (9, .iload_n 0, 10, 0), (10, .ireturn, 11, 0)])])
theorem ok_J9_abs_0f7a4 : ev_ok mi_J9_abs_0f7a4 := ev_ok_of (by decide +kernel)
theorem pf_J9_abs_0f7a4 : plainName mi_J9_abs_0f7a4.1.cls = true ∨ plainFor mi_J9_abs_0f7a4.1 = true := Or.inr (by decide +kernel)
def mi_J9_max_7cf53 : MI := (yJ9_max_7cf53, prog_14_method_65_code, 2, (some .int), 0, 0, 99, [(10, [(0, .iload_n 0, 1, 0), (1, .iload_n 1, 2, 0), (2, .if_icmp .lt 7, 5, 9), (5, .iload_n 0, 6, 0), (6, .goto 4, 9, 10), (9, .iload_n 1, 10, 0), (10, .ireturn, 11, 0)])])
theorem ok_J9_max_7cf53 : ev_ok mi_J9_max_7cf53 := ev_ok_of (by decide +kernel)
theorem pf_J9_max_7cf53 : plainName mi_J9_max_7cf53.1.cls = true ∨ plainFor mi_J9_max_7cf53.1 = true := Or.inr (by decide +kernel)
def mi_J9_min_7cf53 : MI := (yJ9_min_7cf53, prog_14_method_69_code, 2, (some .int), 0, 0, 99, [(10, [(0, .iload_n 0, 1, 0), (1, .iload_n 1, 2, 0), (2, .if_icmp .gt 7, 5, 9), (5, .iload_n 0, 6, 0), (6, .goto 4, 9, 10), (9, .iload_n 1, 10, 0), (10, .ireturn, 11, 0)])])
theorem ok_J9_min_7cf53 : ev_ok mi_J9_min_7cf53 := ev_ok_of (by decide +kernel)
theorem pf_J9_min_7cf53 : plainName mi_J9_min_7cf53.1.cls = true ∨ plainFor mi_J9_min_7cf53.1 = true := Or.inr (by decide +kernel)
def mi_J7_rangeCheck_23922 : MI := (yJ7_rangeCheck_23922, prog_16_method_30_code, 3, none, 0, 0, 99, [(31, [(0, .iload_n 1, 1, 0), (1, .iload_n 2, 2, 0), (2, .if_icmp .le 44, 5, 46), (5, .new 43, 8, 0), (8, .dup, 9, 0), (9, .new 45, 12, 0), (12, .dup, 13, 0), (13, .invokespecial 47, 16, 0), (16, .ldc 48, 18, 0), (18, .invokevirtual 50, 21, 0), (21, .iload_n 1, 22, 0), (22, .invokevirtual 54, 25, 0), (25, .ldc 57, 27, 0), (27, .invokevirtual 50, 30, 0), (30, .iload_n 2, 31, 0), (31, .invokevirtual 54, 34, 0)]), (64, [(34, .ldc 59, 36, 0), (36, .invokevirtual 50, 39, 0), (39, .invokevirtual 61, 42, 0), (42, .invokespecial 65, 45, 0), (45, .athrow, 46, 0), (46, .iload_n 1, 47, 0), (47, .ifCond .ge 12, 50, 59), (50, .new 68, 53, 0), (53, .dup, 54, 0), (54, .iload_n 1, 55, 0), (55, .invokespecial 70, 58, 0), (58, .athrow, 59, 0), (59, .iload_n 2, 60, 0), (60, .iload_n 0, 61, 0), (61, .if_icmp .le 12, 64, 73), (64, .new 68, 67, 0)]), (73, [(67, .dup, 68, 0), (68, .iload_n 2, 69, 0), (69, .invokespecial 70, 72, 0), (72, .athrow, 73, 0), (73, .return_, 74, 0)])])
theorem ok_J7_rangeCheck_23922 : ev_ok mi_J7_rangeCheck_23922 := ev_ok_of (by decide +kernel)
theorem pf_J7_rangeCheck_23922 : plainName mi_J7_rangeCheck_23922.1.cls = true ∨ plainFor mi_J7_rangeCheck_23922.1 = true := Or.inr (by decide +kernel)
def mi_J7_fill_53178 : MI := (yJ7_fill_53178, prog_16_method_103_code, 4, none, 0, 0, 99, [(20, [(0, .iconst 0, 1, 0), (1, .istore_n 2, 2, 0), (2, .aload_n 0, 3, 0), (3, .arraylength, 4, 0), (4, .istore_n 3, 5, 0), (5, .iload_n 2, 6, 0), (6, .iload_n 3, 7, 0), (7, .if_icmp .ge 13, 10, 20), (10, .aload_n 0, 11, 0), (11, .iload_n 2, 12, 0), (12, .iload_n 1, 13, 0), (13, .iastore, 14, 0), (14, .iinc 2 1, 17, 0), (17, .goto (-12), 20, 5), (20, .return_, 21, 0)])])
theorem ok_J7_fill_53178 : ev_ok mi_J7_fill_53178 := ev_ok_of (by decide +kernel)
theorem pf_J7_fill_53178 : plainName mi_J7_fill_53178.1.cls = true ∨ plainFor mi_J7_fill_53178.1 = true := Or.inr (by decide +kernel)
def mi_J7_fill_fda19 : MI := (yJ7_fill_fda19, prog_16_method_104_code, 5, none, 1, 22, 99, [(24, [(0, .aload_n 0, 1, 0), (1, .arraylength, 2, 0), (2, .iload_n 1, 3, 0), (3, .iload_n 2, 4, 0), (4, .invokestatic 13, 7, 0), (7, .iload_n 1, 8, 0), (8, .istore 4, 10, 0), (10, .iload 4, 12, 0), (12, .iload_n 2, 13, 0), (13, .if_icmp .ge 14, 16, 27), (16, .aload_n 0, 17, 0), (17, .iload 4, 19, 0), (19, .iload_n 3, 20, 0), (20, .iastore, 21, 0), (21, .iinc 4 1, 24, 0), (24, .goto (-14), 27, 10)]), (27, [(27, .return_, 28, 0)])])
theorem ok_J7_fill_fda19 : ev_ok mi_J7_fill_fda19 := ev_ok_of (by decide +kernel)
theorem pf_J7_fill_fda19 : plainName mi_J7_fill_fda19.1.cls = true ∨ plainFor mi_J7_fill_fda19.1 = true := Or.inr (by decide +kernel)
end
section
def tb_L_law_0 : List (Nat × Ent) := [(0, .new 7, 3, 0), (3, .dup, 4, 0), (4, .invokespecial 9, 7, 0), (7, .astore_n 1, 8, 0), (8, .new 10, 11, 0), (11, .dup, 12, 0), (12, .invokespecial 12, 15, 0), (15, .astore_n 2, 16, 0), (16, .iconst 0, 17, 0), (17, .istore_n 3, 18, 0), (18, .iload_n 3, 19, 0), (19, .aload_n 0, 20, 0), (20, .arraylength, 21, 0), (21, .bipush 8, 23, 0), (23, .isub, 24, 0), (24, .if_icmp .gt 1408, 27, 1432), (27, .aload_n 0, 28, 0), (28, .iload_n 3, 29, 0), (29, .iaload, 30, 0), (30, .bipush 63, 32, 0), (32, .iand, 33, 0), (33, .tableswitch 1393 0 35 #[159, 182, 205, 228, 251, 274, 297, 366, 399, 432, 465, 514, 547, 580, 603, 626, 679, 702, 715, 728, 761, 794, 827, 860, 923, 1010, 1043, 1076, 1099, 1132, 1175, 1218, 1231, 1274, 1317, 1370], 192, 0), (192, .aload_n 1, 193, 0), (193, .aload_n 0, 194, 0), (194, .iload_n 3, 195, 0), (195, .iconst 1, 196, 0), (196, .iadd, 197, 0), (197, .iaload, 198, 0), (198, .invokevirtual 13, 201, 0), (201, .aload_n 2, 202, 0), (202, .aload_n 0, 203, 0), (203, .iload_n 3, 204, 0)]
theorem ok_L_law_0 : tb_L_law_0.all (ev_eok code) = true := by decide +kernel
def tb_L_law_1 : List (Nat × Ent) := [(204, .iconst 1, 205, 0), (205, .iadd, 206, 0), (206, .iaload, 207, 0), (207, .invokevirtual 17, 210, 0), (210, .if_icmp .eq 1216, 213, 1426), (213, .iconst 0, 214, 0), (214, .ireturn, 215, 0), (215, .aload_n 1, 216, 0), (216, .aload_n 0, 217, 0), (217, .iload_n 3, 218, 0), (218, .iconst 1, 219, 0), (219, .iadd, 220, 0), (220, .iaload, 221, 0), (221, .invokevirtual 18, 224, 0), (224, .aload_n 2, 225, 0), (225, .aload_n 0, 226, 0), (226, .iload_n 3, 227, 0), (227, .iconst 1, 228, 0), (228, .iadd, 229, 0), (229, .iaload, 230, 0), (230, .invokevirtual 21, 233, 0), (233, .if_icmp .eq 1193, 236, 1426), (236, .iconst 0, 237, 0), (237, .ireturn, 238, 0), (238, .aload_n 1, 239, 0), (239, .aload_n 0, 240, 0), (240, .iload_n 3, 241, 0), (241, .iconst 1, 242, 0), (242, .iadd, 243, 0), (243, .iaload, 244, 0), (244, .invokevirtual 22, 247, 0), (247, .aload_n 2, 248, 0)]
theorem ok_L_law_1 : tb_L_law_1.all (ev_eok code) = true := by decide +kernel
def tb_L_law_2 : List (Nat × Ent) := [(248, .aload_n 0, 249, 0), (249, .iload_n 3, 250, 0), (250, .iconst 1, 251, 0), (251, .iadd, 252, 0), (252, .iaload, 253, 0), (253, .invokevirtual 25, 256, 0), (256, .if_icmp .eq 1170, 259, 1426), (259, .iconst 0, 260, 0), (260, .ireturn, 261, 0), (261, .aload_n 1, 262, 0), (262, .aload_n 0, 263, 0), (263, .iload_n 3, 264, 0), (264, .iconst 1, 265, 0), (265, .iadd, 266, 0), (266, .iaload, 267, 0), (267, .invokevirtual 26, 270, 0), (270, .aload_n 2, 271, 0), (271, .aload_n 0, 272, 0), (272, .iload_n 3, 273, 0), (273, .iconst 1, 274, 0), (274, .iadd, 275, 0), (275, .iaload, 276, 0), (276, .invokevirtual 29, 279, 0), (279, .if_icmp .eq 1147, 282, 1426), (282, .iconst 0, 283, 0), (283, .ireturn, 284, 0), (284, .aload_n 1, 285, 0), (285, .aload_n 0, 286, 0), (286, .iload_n 3, 287, 0), (287, .iconst 1, 288, 0), (288, .iadd, 289, 0), (289, .iaload, 290, 0)]
theorem ok_L_law_2 : tb_L_law_2.all (ev_eok code) = true := by decide +kernel
def tb_L_law_3 : List (Nat × Ent) := [(290, .invokevirtual 30, 293, 0), (293, .aload_n 2, 294, 0), (294, .aload_n 0, 295, 0), (295, .iload_n 3, 296, 0), (296, .iconst 1, 297, 0), (297, .iadd, 298, 0), (298, .iaload, 299, 0), (299, .invokevirtual 33, 302, 0), (302, .if_icmp .eq 1124, 305, 1426), (305, .iconst 0, 306, 0), (306, .ireturn, 307, 0), (307, .aload_n 1, 308, 0), (308, .aload_n 0, 309, 0), (309, .iload_n 3, 310, 0), (310, .iconst 1, 311, 0), (311, .iadd, 312, 0), (312, .iaload, 313, 0), (313, .invokevirtual 34, 316, 0), (316, .aload_n 2, 317, 0), (317, .aload_n 0, 318, 0), (318, .iload_n 3, 319, 0), (319, .iconst 1, 320, 0), (320, .iadd, 321, 0), (321, .iaload, 322, 0), (322, .invokevirtual 37, 325, 0), (325, .if_icmp .eq 1101, 328, 1426), (328, .iconst 0, 329, 0), (329, .ireturn, 330, 0), (330, .aload_n 1, 331, 0), (331, .aload_n 0, 332, 0), (332, .iload_n 3, 333, 0), (333, .iconst 1, 334, 0)]
theorem ok_L_law_3 : tb_L_law_3.all (ev_eok code) = true := by decide +kernel
end
section
def tb_L_law_4 : List (Nat × Ent) := [(334, .iadd, 335, 0), (335, .iaload, 336, 0), (336, .aload_n 0, 337, 0), (337, .iload_n 3, 338, 0), (338, .iconst 2, 339, 0), (339, .iadd, 340, 0), (340, .iaload, 341, 0), (341, .aload_n 0, 342, 0), (342, .iload_n 3, 343, 0), (343, .iconst 3, 344, 0), (344, .iadd, 345, 0), (345, .iaload, 346, 0), (346, .aload_n 0, 347, 0), (347, .iload_n 3, 348, 0), (348, .iconst 4, 349, 0), (349, .iadd, 350, 0), (350, .iaload, 351, 0), (351, .ifCond .eq 7, 354, 358), (354, .iconst 1, 355, 0), (355, .goto 4, 358, 359), (358, .iconst 0, 359, 0), (359, .invokevirtual 38, 362, 0), (362, .aload_n 2, 363, 0), (363, .aload_n 0, 364, 0), (364, .iload_n 3, 365, 0), (365, .iconst 1, 366, 0), (366, .iadd, 367, 0), (367, .iaload, 368, 0), (368, .aload_n 0, 369, 0), (369, .iload_n 3, 370, 0), (370, .iconst 2, 371, 0), (371, .iadd, 372, 0)]
theorem ok_L_law_4 : tb_L_law_4.all (ev_eok code) = true := by decide +kernel
def tb_L_law_5 : List (Nat × Ent) := [(372, .iaload, 373, 0), (373, .aload_n 0, 374, 0), (374, .iload_n 3, 375, 0), (375, .iconst 3, 376, 0), (376, .iadd, 377, 0), (377, .iaload, 378, 0), (378, .aload_n 0, 379, 0), (379, .iload_n 3, 380, 0), (380, .iconst 4, 381, 0), (381, .iadd, 382, 0), (382, .iaload, 383, 0), (383, .ifCond .eq 7, 386, 390), (386, .iconst 1, 387, 0), (387, .goto 4, 390, 391), (390, .iconst 0, 391, 0), (391, .invokevirtual 42, 394, 0), (394, .if_icmp .eq 1032, 397, 1426), (397, .iconst 0, 398, 0), (398, .ireturn, 399, 0), (399, .aload_n 1, 400, 0), (400, .aload_n 0, 401, 0), (401, .iload_n 3, 402, 0), (402, .iconst 1, 403, 0), (403, .iadd, 404, 0), (404, .iaload, 405, 0), (405, .aload_n 0, 406, 0), (406, .iload_n 3, 407, 0), (407, .iconst 2, 408, 0), (408, .iadd, 409, 0), (409, .iaload, 410, 0), (410, .invokevirtual 43, 413, 0), (413, .aload_n 2, 414, 0)]
theorem ok_L_law_5 : tb_L_law_5.all (ev_eok code) = true := by decide +kernel
def tb_L_law_6 : List (Nat × Ent) := [(414, .aload_n 0, 415, 0), (415, .iload_n 3, 416, 0), (416, .iconst 1, 417, 0), (417, .iadd, 418, 0), (418, .iaload, 419, 0), (419, .aload_n 0, 420, 0), (420, .iload_n 3, 421, 0), (421, .iconst 2, 422, 0), (422, .iadd, 423, 0), (423, .iaload, 424, 0), (424, .invokevirtual 47, 427, 0), (427, .if_icmp .eq 999, 430, 1426), (430, .iconst 0, 431, 0), (431, .ireturn, 432, 0), (432, .aload_n 1, 433, 0), (433, .aload_n 0, 434, 0), (434, .iload_n 3, 435, 0), (435, .iconst 1, 436, 0), (436, .iadd, 437, 0), (437, .iaload, 438, 0), (438, .aload_n 0, 439, 0), (439, .iload_n 3, 440, 0), (440, .iconst 2, 441, 0), (441, .iadd, 442, 0), (442, .iaload, 443, 0), (443, .invokevirtual 48, 446, 0), (446, .aload_n 2, 447, 0), (447, .aload_n 0, 448, 0), (448, .iload_n 3, 449, 0), (449, .iconst 1, 450, 0), (450, .iadd, 451, 0), (451, .iaload, 452, 0)]
theorem ok_L_law_6 : tb_L_law_6.all (ev_eok code) = true := by decide +kernel
def tb_L_law_7 : List (Nat × Ent) := [(452, .aload_n 0, 453, 0), (453, .iload_n 3, 454, 0), (454, .iconst 2, 455, 0), (455, .iadd, 456, 0), (456, .iaload, 457, 0), (457, .invokevirtual 51, 460, 0), (460, .if_icmp .eq 966, 463, 1426), (463, .iconst 0, 464, 0), (464, .ireturn, 465, 0), (465, .aload_n 1, 466, 0), (466, .aload_n 0, 467, 0), (467, .iload_n 3, 468, 0), (468, .iconst 1, 469, 0), (469, .iadd, 470, 0), (470, .iaload, 471, 0), (471, .aload_n 0, 472, 0), (472, .iload_n 3, 473, 0), (473, .iconst 2, 474, 0), (474, .iadd, 475, 0), (475, .iaload, 476, 0), (476, .invokevirtual 52, 479, 0), (479, .aload_n 2, 480, 0), (480, .aload_n 0, 481, 0), (481, .iload_n 3, 482, 0), (482, .iconst 1, 483, 0), (483, .iadd, 484, 0), (484, .iaload, 485, 0), (485, .aload_n 0, 486, 0), (486, .iload_n 3, 487, 0), (487, .iconst 2, 488, 0), (488, .iadd, 489, 0), (489, .iaload, 490, 0)]
theorem ok_L_law_7 : tb_L_law_7.all (ev_eok code) = true := by decide +kernel
end
section
def tb_L_law_8 : List (Nat × Ent) := [(490, .invokevirtual 55, 493, 0), (493, .if_icmp .eq 933, 496, 1426), (496, .iconst 0, 497, 0), (497, .ireturn, 498, 0), (498, .aload_n 1, 499, 0), (499, .aload_n 0, 500, 0), (500, .iload_n 3, 501, 0), (501, .iconst 1, 502, 0), (502, .iadd, 503, 0), (503, .iaload, 504, 0), (504, .aload_n 0, 505, 0), (505, .iload_n 3, 506, 0), (506, .iconst 2, 507, 0), (507, .iadd, 508, 0), (508, .iaload, 509, 0), (509, .ifCond .eq 7, 512, 516), (512, .iconst 1, 513, 0), (513, .goto 4, 516, 517), (516, .iconst 0, 517, 0), (517, .invokevirtual 56, 520, 0), (520, .aload_n 2, 521, 0), (521, .aload_n 0, 522, 0), (522, .iload_n 3, 523, 0), (523, .iconst 1, 524, 0), (524, .iadd, 525, 0), (525, .iaload, 526, 0), (526, .aload_n 0, 527, 0), (527, .iload_n 3, 528, 0), (528, .iconst 2, 529, 0), (529, .iadd, 530, 0), (530, .iaload, 531, 0), (531, .ifCond .eq 7, 534, 538)]
theorem ok_L_law_8 : tb_L_law_8.all (ev_eok code) = true := by decide +kernel
def tb_L_law_9 : List (Nat × Ent) := [(534, .iconst 1, 535, 0), (535, .goto 4, 538, 539), (538, .iconst 0, 539, 0), (539, .invokevirtual 60, 542, 0), (542, .if_icmp .eq 884, 545, 1426), (545, .iconst 0, 546, 0), (546, .ireturn, 547, 0), (547, .aload_n 1, 548, 0), (548, .aload_n 0, 549, 0), (549, .iload_n 3, 550, 0), (550, .iconst 1, 551, 0), (551, .iadd, 552, 0), (552, .iaload, 553, 0), (553, .aload_n 0, 554, 0), (554, .iload_n 3, 555, 0), (555, .iconst 2, 556, 0), (556, .iadd, 557, 0), (557, .iaload, 558, 0), (558, .invokevirtual 61, 561, 0), (561, .aload_n 2, 562, 0), (562, .aload_n 0, 563, 0), (563, .iload_n 3, 564, 0), (564, .iconst 1, 565, 0), (565, .iadd, 566, 0), (566, .iaload, 567, 0), (567, .aload_n 0, 568, 0), (568, .iload_n 3, 569, 0), (569, .iconst 2, 570, 0), (570, .iadd, 571, 0), (571, .iaload, 572, 0), (572, .invokevirtual 64, 575, 0), (575, .if_icmp .eq 851, 578, 1426)]
theorem ok_L_law_9 : tb_L_law_9.all (ev_eok code) = true := by decide +kernel
def tb_L_law_10 : List (Nat × Ent) := [(578, .iconst 0, 579, 0), (579, .ireturn, 580, 0), (580, .aload_n 1, 581, 0), (581, .aload_n 0, 582, 0), (582, .iload_n 3, 583, 0), (583, .iconst 1, 584, 0), (584, .iadd, 585, 0), (585, .iaload, 586, 0), (586, .aload_n 0, 587, 0), (587, .iload_n 3, 588, 0), (588, .iconst 2, 589, 0), (589, .iadd, 590, 0), (590, .iaload, 591, 0), (591, .invokevirtual 65, 594, 0), (594, .aload_n 2, 595, 0), (595, .aload_n 0, 596, 0), (596, .iload_n 3, 597, 0), (597, .iconst 1, 598, 0), (598, .iadd, 599, 0), (599, .iaload, 600, 0), (600, .aload_n 0, 601, 0), (601, .iload_n 3, 602, 0), (602, .iconst 2, 603, 0), (603, .iadd, 604, 0), (604, .iaload, 605, 0), (605, .invokevirtual 68, 608, 0), (608, .if_icmp .eq 818, 611, 1426), (611, .iconst 0, 612, 0), (612, .ireturn, 613, 0), (613, .aload_n 1, 614, 0), (614, .aload_n 0, 615, 0), (615, .iload_n 3, 616, 0)]
theorem ok_L_law_10 : tb_L_law_10.all (ev_eok code) = true := by decide +kernel
def tb_L_law_11 : List (Nat × Ent) := [(616, .iconst 1, 617, 0), (617, .iadd, 618, 0), (618, .iaload, 619, 0), (619, .invokevirtual 69, 622, 0), (622, .aload_n 2, 623, 0), (623, .aload_n 0, 624, 0), (624, .iload_n 3, 625, 0), (625, .iconst 1, 626, 0), (626, .iadd, 627, 0), (627, .iaload, 628, 0), (628, .invokevirtual 72, 631, 0), (631, .if_icmp .eq 795, 634, 1426), (634, .iconst 0, 635, 0), (635, .ireturn, 636, 0), (636, .aload_n 1, 637, 0), (637, .aload_n 0, 638, 0), (638, .iload_n 3, 639, 0), (639, .iconst 1, 640, 0), (640, .iadd, 641, 0), (641, .iaload, 642, 0), (642, .invokevirtual 73, 645, 0), (645, .aload_n 2, 646, 0), (646, .aload_n 0, 647, 0), (647, .iload_n 3, 648, 0), (648, .iconst 1, 649, 0), (649, .iadd, 650, 0), (650, .iaload, 651, 0), (651, .invokevirtual 76, 654, 0), (654, .if_icmp .eq 772, 657, 1426), (657, .iconst 0, 658, 0), (658, .ireturn, 659, 0), (659, .aload_n 1, 660, 0)]
theorem ok_L_law_11 : tb_L_law_11.all (ev_eok code) = true := by decide +kernel
end
section
def tb_L_law_12 : List (Nat × Ent) := [(660, .aload_n 0, 661, 0), (661, .iload_n 3, 662, 0), (662, .iconst 1, 663, 0), (663, .iadd, 664, 0), (664, .iaload, 665, 0), (665, .i2l, 666, 0), (666, .bipush 32, 668, 0), (668, .lshl, 669, 0), (669, .aload_n 0, 670, 0), (670, .iload_n 3, 671, 0), (671, .iconst 2, 672, 0), (672, .iadd, 673, 0), (673, .iaload, 674, 0), (674, .i2l, 675, 0), (675, .ldc2_w 77, 678, 0), (678, .land, 679, 0), (679, .lor, 680, 0), (680, .invokevirtual 79, 683, 0), (683, .aload_n 2, 684, 0), (684, .aload_n 0, 685, 0), (685, .iload_n 3, 686, 0), (686, .iconst 1, 687, 0), (687, .iadd, 688, 0), (688, .iaload, 689, 0), (689, .i2l, 690, 0), (690, .bipush 32, 692, 0), (692, .lshl, 693, 0), (693, .aload_n 0, 694, 0), (694, .iload_n 3, 695, 0), (695, .iconst 2, 696, 0), (696, .iadd, 697, 0), (697, .iaload, 698, 0)]
theorem ok_L_law_12 : tb_L_law_12.all (ev_eok code) = true := by decide +kernel
def tb_L_law_13 : List (Nat × Ent) := [(698, .i2l, 699, 0), (699, .ldc2_w 77, 702, 0), (702, .land, 703, 0), (703, .lor, 704, 0), (704, .invokevirtual 83, 707, 0), (707, .if_icmp .eq 719, 710, 1426), (710, .iconst 0, 711, 0), (711, .ireturn, 712, 0), (712, .aload_n 1, 713, 0), (713, .aload_n 0, 714, 0), (714, .iload_n 3, 715, 0), (715, .iconst 1, 716, 0), (716, .iadd, 717, 0), (717, .iaload, 718, 0), (718, .invokevirtual 84, 721, 0), (721, .aload_n 2, 722, 0), (722, .aload_n 0, 723, 0), (723, .iload_n 3, 724, 0), (724, .iconst 1, 725, 0), (725, .iadd, 726, 0), (726, .iaload, 727, 0), (727, .invokevirtual 87, 730, 0), (730, .if_icmp .eq 696, 733, 1426), (733, .iconst 0, 734, 0), (734, .ireturn, 735, 0), (735, .aload_n 1, 736, 0), (736, .invokevirtual 88, 739, 0), (739, .aload_n 2, 740, 0), (740, .invokevirtual 92, 743, 0), (743, .if_icmp .eq 683, 746, 1426), (746, .iconst 0, 747, 0), (747, .ireturn, 748, 0)]
theorem ok_L_law_13 : tb_L_law_13.all (ev_eok code) = true := by decide +kernel
def tb_L_law_14 : List (Nat × Ent) := [(748, .aload_n 1, 749, 0), (749, .invokevirtual 93, 752, 0), (752, .aload_n 2, 753, 0), (753, .invokevirtual 96, 756, 0), (756, .if_icmp .eq 670, 759, 1426), (759, .iconst 0, 760, 0), (760, .ireturn, 761, 0), (761, .aload_n 1, 762, 0), (762, .aload_n 0, 763, 0), (763, .iload_n 3, 764, 0), (764, .iconst 1, 765, 0), (765, .iadd, 766, 0), (766, .iaload, 767, 0), (767, .aload_n 0, 768, 0), (768, .iload_n 3, 769, 0), (769, .iconst 2, 770, 0), (770, .iadd, 771, 0), (771, .iaload, 772, 0), (772, .invokevirtual 97, 775, 0), (775, .aload_n 2, 776, 0), (776, .aload_n 0, 777, 0), (777, .iload_n 3, 778, 0), (778, .iconst 1, 779, 0), (779, .iadd, 780, 0), (780, .iaload, 781, 0), (781, .aload_n 0, 782, 0), (782, .iload_n 3, 783, 0), (783, .iconst 2, 784, 0), (784, .iadd, 785, 0), (785, .iaload, 786, 0), (786, .invokevirtual 100, 789, 0), (789, .if_icmp .eq 637, 792, 1426)]
theorem ok_L_law_14 : tb_L_law_14.all (ev_eok code) = true := by decide +kernel
def tb_L_law_15 : List (Nat × Ent) := [(792, .iconst 0, 793, 0), (793, .ireturn, 794, 0), (794, .aload_n 1, 795, 0), (795, .aload_n 0, 796, 0), (796, .iload_n 3, 797, 0), (797, .iconst 1, 798, 0), (798, .iadd, 799, 0), (799, .iaload, 800, 0), (800, .aload_n 0, 801, 0), (801, .iload_n 3, 802, 0), (802, .iconst 2, 803, 0), (803, .iadd, 804, 0), (804, .iaload, 805, 0), (805, .invokevirtual 101, 808, 0), (808, .aload_n 2, 809, 0), (809, .aload_n 0, 810, 0), (810, .iload_n 3, 811, 0), (811, .iconst 1, 812, 0), (812, .iadd, 813, 0), (813, .iaload, 814, 0), (814, .aload_n 0, 815, 0), (815, .iload_n 3, 816, 0), (816, .iconst 2, 817, 0), (817, .iadd, 818, 0), (818, .iaload, 819, 0), (819, .invokevirtual 104, 822, 0), (822, .if_icmp .eq 604, 825, 1426), (825, .iconst 0, 826, 0), (826, .ireturn, 827, 0), (827, .aload_n 1, 828, 0), (828, .aload_n 0, 829, 0), (829, .iload_n 3, 830, 0)]
theorem ok_L_law_15 : tb_L_law_15.all (ev_eok code) = true := by decide +kernel
end
section
def tb_L_law_16 : List (Nat × Ent) := [(830, .iconst 1, 831, 0), (831, .iadd, 832, 0), (832, .iaload, 833, 0), (833, .aload_n 0, 834, 0), (834, .iload_n 3, 835, 0), (835, .iconst 2, 836, 0), (836, .iadd, 837, 0), (837, .iaload, 838, 0), (838, .invokevirtual 105, 841, 0), (841, .aload_n 2, 842, 0), (842, .aload_n 0, 843, 0), (843, .iload_n 3, 844, 0), (844, .iconst 1, 845, 0), (845, .iadd, 846, 0), (846, .iaload, 847, 0), (847, .aload_n 0, 848, 0), (848, .iload_n 3, 849, 0), (849, .iconst 2, 850, 0), (850, .iadd, 851, 0), (851, .iaload, 852, 0), (852, .invokevirtual 108, 855, 0), (855, .if_icmp .eq 571, 858, 1426), (858, .iconst 0, 859, 0), (859, .ireturn, 860, 0), (860, .aload_n 1, 861, 0), (861, .aload_n 0, 862, 0), (862, .iload_n 3, 863, 0), (863, .iconst 1, 864, 0), (864, .iadd, 865, 0), (865, .iaload, 866, 0), (866, .aload_n 0, 867, 0), (867, .iload_n 3, 868, 0)]
theorem ok_L_law_16 : tb_L_law_16.all (ev_eok code) = true := by decide +kernel
def tb_L_law_17 : List (Nat × Ent) := [(868, .iconst 2, 869, 0), (869, .iadd, 870, 0), (870, .iaload, 871, 0), (871, .invokevirtual 109, 874, 0), (874, .aload_n 2, 875, 0), (875, .aload_n 0, 876, 0), (876, .iload_n 3, 877, 0), (877, .iconst 1, 878, 0), (878, .iadd, 879, 0), (879, .iaload, 880, 0), (880, .aload_n 0, 881, 0), (881, .iload_n 3, 882, 0), (882, .iconst 2, 883, 0), (883, .iadd, 884, 0), (884, .iaload, 885, 0), (885, .invokevirtual 112, 888, 0), (888, .if_icmp .eq 538, 891, 1426), (891, .iconst 0, 892, 0), (892, .ireturn, 893, 0), (893, .aload_n 1, 894, 0), (894, .aload_n 0, 895, 0), (895, .iload_n 3, 896, 0), (896, .iconst 1, 897, 0), (897, .iadd, 898, 0), (898, .iaload, 899, 0), (899, .aload_n 0, 900, 0), (900, .iload_n 3, 901, 0), (901, .iconst 2, 902, 0), (902, .iadd, 903, 0), (903, .iaload, 904, 0), (904, .aload_n 0, 905, 0), (905, .iload_n 3, 906, 0)]
theorem ok_L_law_17 : tb_L_law_17.all (ev_eok code) = true := by decide +kernel
def tb_L_law_18 : List (Nat × Ent) := [(906, .iconst 3, 907, 0), (907, .iadd, 908, 0), (908, .iaload, 909, 0), (909, .aload_n 0, 910, 0), (910, .iload_n 3, 911, 0), (911, .iconst 4, 912, 0), (912, .iadd, 913, 0), (913, .iaload, 914, 0), (914, .aload_n 0, 915, 0), (915, .iload_n 3, 916, 0), (916, .iconst 5, 917, 0), (917, .iadd, 918, 0), (918, .iaload, 919, 0), (919, .invokevirtual 113, 922, 0), (922, .aload_n 2, 923, 0), (923, .aload_n 0, 924, 0), (924, .iload_n 3, 925, 0), (925, .iconst 1, 926, 0), (926, .iadd, 927, 0), (927, .iaload, 928, 0), (928, .aload_n 0, 929, 0), (929, .iload_n 3, 930, 0), (930, .iconst 2, 931, 0), (931, .iadd, 932, 0), (932, .iaload, 933, 0), (933, .aload_n 0, 934, 0), (934, .iload_n 3, 935, 0), (935, .iconst 3, 936, 0), (936, .iadd, 937, 0), (937, .iaload, 938, 0), (938, .aload_n 0, 939, 0), (939, .iload_n 3, 940, 0)]
theorem ok_L_law_18 : tb_L_law_18.all (ev_eok code) = true := by decide +kernel
def tb_L_law_19 : List (Nat × Ent) := [(940, .iconst 4, 941, 0), (941, .iadd, 942, 0), (942, .iaload, 943, 0), (943, .aload_n 0, 944, 0), (944, .iload_n 3, 945, 0), (945, .iconst 5, 946, 0), (946, .iadd, 947, 0), (947, .iaload, 948, 0), (948, .invokevirtual 117, 951, 0), (951, .if_icmp .eq 475, 954, 1426), (954, .iconst 0, 955, 0), (955, .ireturn, 956, 0), (956, .aload_n 1, 957, 0), (957, .aload_n 0, 958, 0), (958, .iload_n 3, 959, 0), (959, .iconst 1, 960, 0), (960, .iadd, 961, 0), (961, .iaload, 962, 0), (962, .aload_n 0, 963, 0), (963, .iload_n 3, 964, 0), (964, .iconst 2, 965, 0), (965, .iadd, 966, 0), (966, .iaload, 967, 0), (967, .aload_n 0, 968, 0), (968, .iload_n 3, 969, 0), (969, .iconst 3, 970, 0), (970, .iadd, 971, 0), (971, .iaload, 972, 0), (972, .aload_n 0, 973, 0), (973, .iload_n 3, 974, 0), (974, .iconst 4, 975, 0), (975, .iadd, 976, 0)]
theorem ok_L_law_19 : tb_L_law_19.all (ev_eok code) = true := by decide +kernel
end
section
def tb_L_law_20 : List (Nat × Ent) := [(976, .iaload, 977, 0), (977, .aload_n 0, 978, 0), (978, .iload_n 3, 979, 0), (979, .iconst 5, 980, 0), (980, .iadd, 981, 0), (981, .iaload, 982, 0), (982, .aload_n 0, 983, 0), (983, .iload_n 3, 984, 0), (984, .bipush 6, 986, 0), (986, .iadd, 987, 0), (987, .iaload, 988, 0), (988, .aload_n 0, 989, 0), (989, .iload_n 3, 990, 0), (990, .bipush 7, 992, 0), (992, .iadd, 993, 0), (993, .iaload, 994, 0), (994, .invokevirtual 118, 997, 0), (997, .aload_n 2, 998, 0), (998, .aload_n 0, 999, 0), (999, .iload_n 3, 1000, 0), (1000, .iconst 1, 1001, 0), (1001, .iadd, 1002, 0), (1002, .iaload, 1003, 0), (1003, .aload_n 0, 1004, 0), (1004, .iload_n 3, 1005, 0), (1005, .iconst 2, 1006, 0), (1006, .iadd, 1007, 0), (1007, .iaload, 1008, 0), (1008, .aload_n 0, 1009, 0), (1009, .iload_n 3, 1010, 0), (1010, .iconst 3, 1011, 0), (1011, .iadd, 1012, 0)]
theorem ok_L_law_20 : tb_L_law_20.all (ev_eok code) = true := by decide +kernel
def tb_L_law_21 : List (Nat × Ent) := [(1012, .iaload, 1013, 0), (1013, .aload_n 0, 1014, 0), (1014, .iload_n 3, 1015, 0), (1015, .iconst 4, 1016, 0), (1016, .iadd, 1017, 0), (1017, .iaload, 1018, 0), (1018, .aload_n 0, 1019, 0), (1019, .iload_n 3, 1020, 0), (1020, .iconst 5, 1021, 0), (1021, .iadd, 1022, 0), (1022, .iaload, 1023, 0), (1023, .aload_n 0, 1024, 0), (1024, .iload_n 3, 1025, 0), (1025, .bipush 6, 1027, 0), (1027, .iadd, 1028, 0), (1028, .iaload, 1029, 0), (1029, .aload_n 0, 1030, 0), (1030, .iload_n 3, 1031, 0), (1031, .bipush 7, 1033, 0), (1033, .iadd, 1034, 0), (1034, .iaload, 1035, 0), (1035, .invokevirtual 122, 1038, 0), (1038, .if_icmp .eq 388, 1041, 1426), (1041, .iconst 0, 1042, 0), (1042, .ireturn, 1043, 0), (1043, .aload_n 1, 1044, 0), (1044, .aload_n 0, 1045, 0), (1045, .iload_n 3, 1046, 0), (1046, .iconst 1, 1047, 0), (1047, .iadd, 1048, 0), (1048, .iaload, 1049, 0), (1049, .aload_n 0, 1050, 0)]
theorem ok_L_law_21 : tb_L_law_21.all (ev_eok code) = true := by decide +kernel
def tb_L_law_22 : List (Nat × Ent) := [(1050, .iload_n 3, 1051, 0), (1051, .iconst 2, 1052, 0), (1052, .iadd, 1053, 0), (1053, .iaload, 1054, 0), (1054, .invokevirtual 123, 1057, 0), (1057, .aload_n 2, 1058, 0), (1058, .aload_n 0, 1059, 0), (1059, .iload_n 3, 1060, 0), (1060, .iconst 1, 1061, 0), (1061, .iadd, 1062, 0), (1062, .iaload, 1063, 0), (1063, .aload_n 0, 1064, 0), (1064, .iload_n 3, 1065, 0), (1065, .iconst 2, 1066, 0), (1066, .iadd, 1067, 0), (1067, .iaload, 1068, 0), (1068, .invokevirtual 126, 1071, 0), (1071, .if_icmp .eq 355, 1074, 1426), (1074, .iconst 0, 1075, 0), (1075, .ireturn, 1076, 0), (1076, .aload_n 1, 1077, 0), (1077, .aload_n 0, 1078, 0), (1078, .iload_n 3, 1079, 0), (1079, .iconst 1, 1080, 0), (1080, .iadd, 1081, 0), (1081, .iaload, 1082, 0), (1082, .aload_n 0, 1083, 0), (1083, .iload_n 3, 1084, 0), (1084, .iconst 2, 1085, 0), (1085, .iadd, 1086, 0), (1086, .iaload, 1087, 0), (1087, .invokevirtual 127, 1090, 0)]
theorem ok_L_law_22 : tb_L_law_22.all (ev_eok code) = true := by decide +kernel
def tb_L_law_23 : List (Nat × Ent) := [(1090, .aload_n 2, 1091, 0), (1091, .aload_n 0, 1092, 0), (1092, .iload_n 3, 1093, 0), (1093, .iconst 1, 1094, 0), (1094, .iadd, 1095, 0), (1095, .iaload, 1096, 0), (1096, .aload_n 0, 1097, 0), (1097, .iload_n 3, 1098, 0), (1098, .iconst 2, 1099, 0), (1099, .iadd, 1100, 0), (1100, .iaload, 1101, 0), (1101, .invokevirtual 130, 1104, 0), (1104, .if_icmp .eq 322, 1107, 1426), (1107, .iconst 0, 1108, 0), (1108, .ireturn, 1109, 0), (1109, .aload_n 1, 1110, 0), (1110, .aload_n 0, 1111, 0), (1111, .iload_n 3, 1112, 0), (1112, .iconst 1, 1113, 0), (1113, .iadd, 1114, 0), (1114, .iaload, 1115, 0), (1115, .invokevirtual 131, 1118, 0), (1118, .aload_n 2, 1119, 0), (1119, .aload_n 0, 1120, 0), (1120, .iload_n 3, 1121, 0), (1121, .iconst 1, 1122, 0), (1122, .iadd, 1123, 0), (1123, .iaload, 1124, 0), (1124, .invokevirtual 134, 1127, 0), (1127, .if_icmp .eq 299, 1130, 1426), (1130, .iconst 0, 1131, 0), (1131, .ireturn, 1132, 0)]
theorem ok_L_law_23 : tb_L_law_23.all (ev_eok code) = true := by decide +kernel
end
section
def tb_L_law_24 : List (Nat × Ent) := [(1132, .aload_n 1, 1133, 0), (1133, .aload_n 0, 1134, 0), (1134, .iload_n 3, 1135, 0), (1135, .iconst 1, 1136, 0), (1136, .iadd, 1137, 0), (1137, .iaload, 1138, 0), (1138, .aload_n 0, 1139, 0), (1139, .iload_n 3, 1140, 0), (1140, .iconst 2, 1141, 0), (1141, .iadd, 1142, 0), (1142, .iaload, 1143, 0), (1143, .invokevirtual 135, 1146, 0), (1146, .aload_n 2, 1147, 0), (1147, .aload_n 0, 1148, 0), (1148, .iload_n 3, 1149, 0), (1149, .iconst 1, 1150, 0), (1150, .iadd, 1151, 0), (1151, .iaload, 1152, 0), (1152, .aload_n 0, 1153, 0), (1153, .iload_n 3, 1154, 0), (1154, .iconst 2, 1155, 0), (1155, .iadd, 1156, 0), (1156, .iaload, 1157, 0), (1157, .invokevirtual 138, 1160, 0), (1160, .if_icmp .eq 266, 1163, 1426), (1163, .iconst 0, 1164, 0), (1164, .ireturn, 1165, 0), (1165, .aload_n 1, 1166, 0), (1166, .aload_n 0, 1167, 0), (1167, .iload_n 3, 1168, 0), (1168, .iconst 1, 1169, 0), (1169, .iadd, 1170, 0)]
theorem ok_L_law_24 : tb_L_law_24.all (ev_eok code) = true := by decide +kernel
def tb_L_law_25 : List (Nat × Ent) := [(1170, .iaload, 1171, 0), (1171, .aload_n 0, 1172, 0), (1172, .iload_n 3, 1173, 0), (1173, .iconst 2, 1174, 0), (1174, .iadd, 1175, 0), (1175, .iaload, 1176, 0), (1176, .aload_n 0, 1177, 0), (1177, .iload_n 3, 1178, 0), (1178, .iconst 3, 1179, 0), (1179, .iadd, 1180, 0), (1180, .iaload, 1181, 0), (1181, .invokevirtual 139, 1184, 0), (1184, .aload_n 2, 1185, 0), (1185, .aload_n 0, 1186, 0), (1186, .iload_n 3, 1187, 0), (1187, .iconst 1, 1188, 0), (1188, .iadd, 1189, 0), (1189, .iaload, 1190, 0), (1190, .aload_n 0, 1191, 0), (1191, .iload_n 3, 1192, 0), (1192, .iconst 2, 1193, 0), (1193, .iadd, 1194, 0), (1194, .iaload, 1195, 0), (1195, .aload_n 0, 1196, 0), (1196, .iload_n 3, 1197, 0), (1197, .iconst 3, 1198, 0), (1198, .iadd, 1199, 0), (1199, .iaload, 1200, 0), (1200, .invokevirtual 143, 1203, 0), (1203, .if_icmp .eq 223, 1206, 1426), (1206, .iconst 0, 1207, 0), (1207, .ireturn, 1208, 0)]
theorem ok_L_law_25 : tb_L_law_25.all (ev_eok code) = true := by decide +kernel
def tb_L_law_26 : List (Nat × Ent) := [(1208, .aload_n 1, 1209, 0), (1209, .aload_n 0, 1210, 0), (1210, .iload_n 3, 1211, 0), (1211, .iconst 1, 1212, 0), (1212, .iadd, 1213, 0), (1213, .iaload, 1214, 0), (1214, .aload_n 0, 1215, 0), (1215, .iload_n 3, 1216, 0), (1216, .iconst 2, 1217, 0), (1217, .iadd, 1218, 0), (1218, .iaload, 1219, 0), (1219, .aload_n 0, 1220, 0), (1220, .iload_n 3, 1221, 0), (1221, .iconst 3, 1222, 0), (1222, .iadd, 1223, 0), (1223, .iaload, 1224, 0), (1224, .invokevirtual 144, 1227, 0), (1227, .aload_n 2, 1228, 0), (1228, .aload_n 0, 1229, 0), (1229, .iload_n 3, 1230, 0), (1230, .iconst 1, 1231, 0), (1231, .iadd, 1232, 0), (1232, .iaload, 1233, 0), (1233, .aload_n 0, 1234, 0), (1234, .iload_n 3, 1235, 0), (1235, .iconst 2, 1236, 0), (1236, .iadd, 1237, 0), (1237, .iaload, 1238, 0), (1238, .aload_n 0, 1239, 0), (1239, .iload_n 3, 1240, 0), (1240, .iconst 3, 1241, 0), (1241, .iadd, 1242, 0)]
theorem ok_L_law_26 : tb_L_law_26.all (ev_eok code) = true := by decide +kernel
def tb_L_law_27 : List (Nat × Ent) := [(1242, .iaload, 1243, 0), (1243, .invokevirtual 147, 1246, 0), (1246, .if_icmp .eq 180, 1249, 1426), (1249, .iconst 0, 1250, 0), (1250, .ireturn, 1251, 0), (1251, .aload_n 1, 1252, 0), (1252, .invokevirtual 148, 1255, 0), (1255, .aload_n 2, 1256, 0), (1256, .invokevirtual 151, 1259, 0), (1259, .if_icmp .eq 167, 1262, 1426), (1262, .iconst 0, 1263, 0), (1263, .ireturn, 1264, 0), (1264, .aload_n 1, 1265, 0), (1265, .aload_n 0, 1266, 0), (1266, .iload_n 3, 1267, 0), (1267, .iconst 1, 1268, 0), (1268, .iadd, 1269, 0), (1269, .iaload, 1270, 0), (1270, .aload_n 0, 1271, 0), (1271, .iload_n 3, 1272, 0), (1272, .iconst 2, 1273, 0), (1273, .iadd, 1274, 0), (1274, .iaload, 1275, 0), (1275, .aload_n 0, 1276, 0), (1276, .iload_n 3, 1277, 0), (1277, .iconst 3, 1278, 0), (1278, .iadd, 1279, 0), (1279, .iaload, 1280, 0), (1280, .invokevirtual 152, 1283, 0), (1283, .aload_n 2, 1284, 0), (1284, .aload_n 0, 1285, 0), (1285, .iload_n 3, 1286, 0)]
theorem ok_L_law_27 : tb_L_law_27.all (ev_eok code) = true := by decide +kernel
end
section
def tb_L_law_28 : List (Nat × Ent) := [(1286, .iconst 1, 1287, 0), (1287, .iadd, 1288, 0), (1288, .iaload, 1289, 0), (1289, .aload_n 0, 1290, 0), (1290, .iload_n 3, 1291, 0), (1291, .iconst 2, 1292, 0), (1292, .iadd, 1293, 0), (1293, .iaload, 1294, 0), (1294, .aload_n 0, 1295, 0), (1295, .iload_n 3, 1296, 0), (1296, .iconst 3, 1297, 0), (1297, .iadd, 1298, 0), (1298, .iaload, 1299, 0), (1299, .invokevirtual 155, 1302, 0), (1302, .if_icmp .eq 124, 1305, 1426), (1305, .iconst 0, 1306, 0), (1306, .ireturn, 1307, 0), (1307, .aload_n 1, 1308, 0), (1308, .aload_n 0, 1309, 0), (1309, .iload_n 3, 1310, 0), (1310, .iconst 1, 1311, 0), (1311, .iadd, 1312, 0), (1312, .iaload, 1313, 0), (1313, .aload_n 0, 1314, 0), (1314, .iload_n 3, 1315, 0), (1315, .iconst 2, 1316, 0), (1316, .iadd, 1317, 0), (1317, .iaload, 1318, 0), (1318, .aload_n 0, 1319, 0), (1319, .iload_n 3, 1320, 0), (1320, .iconst 3, 1321, 0), (1321, .iadd, 1322, 0)]
theorem ok_L_law_28 : tb_L_law_28.all (ev_eok code) = true := by decide +kernel
def tb_L_law_29 : List (Nat × Ent) := [(1322, .iaload, 1323, 0), (1323, .invokevirtual 156, 1326, 0), (1326, .aload_n 2, 1327, 0), (1327, .aload_n 0, 1328, 0), (1328, .iload_n 3, 1329, 0), (1329, .iconst 1, 1330, 0), (1330, .iadd, 1331, 0), (1331, .iaload, 1332, 0), (1332, .aload_n 0, 1333, 0), (1333, .iload_n 3, 1334, 0), (1334, .iconst 2, 1335, 0), (1335, .iadd, 1336, 0), (1336, .iaload, 1337, 0), (1337, .aload_n 0, 1338, 0), (1338, .iload_n 3, 1339, 0), (1339, .iconst 3, 1340, 0), (1340, .iadd, 1341, 0), (1341, .iaload, 1342, 0), (1342, .invokevirtual 159, 1345, 0), (1345, .if_icmp .eq 81, 1348, 1426), (1348, .iconst 0, 1349, 0), (1349, .ireturn, 1350, 0), (1350, .aload_n 1, 1351, 0), (1351, .aload_n 0, 1352, 0), (1352, .iload_n 3, 1353, 0), (1353, .iconst 1, 1354, 0), (1354, .iadd, 1355, 0), (1355, .iaload, 1356, 0), (1356, .aload_n 0, 1357, 0), (1357, .iload_n 3, 1358, 0), (1358, .iconst 2, 1359, 0), (1359, .iadd, 1360, 0)]
theorem ok_L_law_29 : tb_L_law_29.all (ev_eok code) = true := by decide +kernel
def tb_L_law_30 : List (Nat × Ent) := [(1360, .iaload, 1361, 0), (1361, .aload_n 0, 1362, 0), (1362, .iload_n 3, 1363, 0), (1363, .iconst 3, 1364, 0), (1364, .iadd, 1365, 0), (1365, .iaload, 1366, 0), (1366, .aload_n 0, 1367, 0), (1367, .iload_n 3, 1368, 0), (1368, .iconst 4, 1369, 0), (1369, .iadd, 1370, 0), (1370, .iaload, 1371, 0), (1371, .invokevirtual 160, 1374, 0), (1374, .aload_n 2, 1375, 0), (1375, .aload_n 0, 1376, 0), (1376, .iload_n 3, 1377, 0), (1377, .iconst 1, 1378, 0), (1378, .iadd, 1379, 0), (1379, .iaload, 1380, 0), (1380, .aload_n 0, 1381, 0), (1381, .iload_n 3, 1382, 0), (1382, .iconst 2, 1383, 0), (1383, .iadd, 1384, 0), (1384, .iaload, 1385, 0), (1385, .aload_n 0, 1386, 0), (1386, .iload_n 3, 1387, 0), (1387, .iconst 3, 1388, 0), (1388, .iadd, 1389, 0), (1389, .iaload, 1390, 0), (1390, .aload_n 0, 1391, 0), (1391, .iload_n 3, 1392, 0), (1392, .iconst 4, 1393, 0), (1393, .iadd, 1394, 0)]
theorem ok_L_law_30 : tb_L_law_30.all (ev_eok code) = true := by decide +kernel
def tb_L_law_31 : List (Nat × Ent) := [(1394, .iaload, 1395, 0), (1395, .invokevirtual 164, 1398, 0), (1398, .if_icmp .eq 28, 1401, 1426), (1401, .iconst 0, 1402, 0), (1402, .ireturn, 1403, 0), (1403, .aload_n 1, 1404, 0), (1404, .aload_n 0, 1405, 0), (1405, .iload_n 3, 1406, 0), (1406, .iconst 1, 1407, 0), (1407, .iadd, 1408, 0), (1408, .iaload, 1409, 0), (1409, .invokevirtual 165, 1412, 0), (1412, .aload_n 2, 1413, 0), (1413, .aload_n 0, 1414, 0), (1414, .iload_n 3, 1415, 0), (1415, .iconst 1, 1416, 0), (1416, .iadd, 1417, 0), (1417, .iaload, 1418, 0), (1418, .invokevirtual 168, 1421, 0), (1421, .if_icmp .eq 5, 1424, 1426), (1424, .iconst 0, 1425, 0), (1425, .ireturn, 1426, 0), (1426, .iinc 3 8, 1429, 0), (1429, .goto (-1411), 1432, 18), (1432, .iconst 1, 1433, 0), (1433, .ireturn, 1434, 0)]
theorem ok_L_law_31 : tb_L_law_31.all (ev_eok code) = true := by decide +kernel
end
section
def mi_L_law : MI := (yL_law, code, 4, (some .boolean), 9, 354, 99, [(203, tb_L_law_0), (247, tb_L_law_1), (289, tb_L_law_2), (333, tb_L_law_3), (371, tb_L_law_4), (413, tb_L_law_5), (451, tb_L_law_6), (489, tb_L_law_7), (531, tb_L_law_8), (575, tb_L_law_9), (615, tb_L_law_10), (659, tb_L_law_11), (697, tb_L_law_12), (747, tb_L_law_13), (789, tb_L_law_14), (829, tb_L_law_15), (867, tb_L_law_16), (905, tb_L_law_17), (939, tb_L_law_18), (975, tb_L_law_19), (1011, tb_L_law_20), (1049, tb_L_law_21), (1087, tb_L_law_22), (1131, tb_L_law_23), (1169, tb_L_law_24), (1207, tb_L_law_25), (1241, tb_L_law_26), (1285, tb_L_law_27), (1321, tb_L_law_28), (1359, tb_L_law_29), (1393, tb_L_law_30), (1433, tb_L_law_31)])
theorem ok_L_law : ev_ok mi_L_law := ev_ok_of (by
  show ([(203, tb_L_law_0), (247, tb_L_law_1), (289, tb_L_law_2), (333, tb_L_law_3), (371, tb_L_law_4), (413, tb_L_law_5), (451, tb_L_law_6), (489, tb_L_law_7), (531, tb_L_law_8), (575, tb_L_law_9), (615, tb_L_law_10), (659, tb_L_law_11), (697, tb_L_law_12), (747, tb_L_law_13), (789, tb_L_law_14), (829, tb_L_law_15), (867, tb_L_law_16), (905, tb_L_law_17), (939, tb_L_law_18), (975, tb_L_law_19), (1011, tb_L_law_20), (1049, tb_L_law_21), (1087, tb_L_law_22), (1131, tb_L_law_23), (1169, tb_L_law_24), (1207, tb_L_law_25), (1241, tb_L_law_26), (1285, tb_L_law_27), (1321, tb_L_law_28), (1359, tb_L_law_29), (1393, tb_L_law_30), (1433, tb_L_law_31)] : Tab).all (fun c => c.2.all (ev_eok code)) = true
  simp only [List.all_cons, List.all_nil, ok_L_law_0, ok_L_law_1, ok_L_law_2, ok_L_law_3, ok_L_law_4, ok_L_law_5, ok_L_law_6, ok_L_law_7, ok_L_law_8, ok_L_law_9, ok_L_law_10, ok_L_law_11, ok_L_law_12, ok_L_law_13, ok_L_law_14, ok_L_law_15, ok_L_law_16, ok_L_law_17, ok_L_law_18, ok_L_law_19, ok_L_law_20, ok_L_law_21, ok_L_law_22, ok_L_law_23, ok_L_law_24, ok_L_law_25, ok_L_law_26, ok_L_law_27, ok_L_law_28, ok_L_law_29, ok_L_law_30, ok_L_law_31, Bool.and_self])
end
section
theorem gwl_in0 {w : Cond} (i : Nat) (h : (k2_sels lw_privs)[i]? = some w) (g : goodWord w = true) : w ∈ gwl := List.mem_filter.mpr ⟨List.mem_append_left _ (List.mem_of_getElem? h), g⟩
theorem gwl_in1 {w : Cond} (i : Nat) (h : tables_1_1[i]? = some w) (g : goodWord w = true) : w ∈ gwl := List.mem_filter.mpr ⟨List.mem_append_right _ (List.mem_append_left _ (List.mem_of_getElem? h)), g⟩
theorem gwl_in2 {w : Cond} (i : Nat) (h : tables_1_2[i]? = some w) (g : goodWord w = true) : w ∈ gwl := List.mem_filter.mpr ⟨List.mem_append_right _ (List.mem_append_right _ (List.mem_append_left _ (List.mem_of_getElem? h))), g⟩
theorem gwl_in3 {w : Cond} (i : Nat) (h : tables_1_3[i]? = some w) (g : goodWord w = true) : w ∈ gwl := List.mem_filter.mpr ⟨List.mem_append_right _ (List.mem_append_right _ (List.mem_append_right _ (List.mem_append_left _ (List.mem_of_getElem? h)))), g⟩
theorem gwl_in4 {w : Cond} (i : Nat) (h : tables_1_4[i]? = some w) (g : goodWord w = true) : w ∈ gwl := List.mem_filter.mpr ⟨List.mem_append_right _ (List.mem_append_right _ (List.mem_append_right _ (List.mem_append_right _ (List.mem_append_left _ (List.mem_of_getElem? h))))), g⟩
theorem gwl_in5 {w : Cond} (i : Nat) (h : tables_1_5[i]? = some w) (g : goodWord w = true) : w ∈ gwl := List.mem_filter.mpr ⟨List.mem_append_right _ (List.mem_append_right _ (List.mem_append_right _ (List.mem_append_right _ (List.mem_append_right _ (List.mem_append_left _ (List.mem_of_getElem? h)))))), g⟩
theorem gwl_in6 {w : Cond} (i : Nat) (h : tables_1_6[i]? = some w) (g : goodWord w = true) : w ∈ gwl := List.mem_filter.mpr ⟨List.mem_append_right _ (List.mem_append_right _ (List.mem_append_right _ (List.mem_append_right _ (List.mem_append_right _ (List.mem_append_right _ (List.mem_of_getElem? h)))))), g⟩
set_option maxRecDepth 100000 in
theorem lay_X0 : ∀ w ∈ u_ws RX0 TX0 4, w ∈ gwl := gwl_all _ [185, 187, 189, 191] (by decide +kernel) (by decide +kernel)
theorem dft_X0 : ∀ j, j < 4 → (tyCl 0 j).isReference = true ∨ defaultValue (tyCl 0 j) = .int 0 := by decide +kernel
set_option maxRecDepth 100000 in
theorem lay_X1 : ∀ w ∈ u_ws RX1 TX1 5, w ∈ gwl := gwl_all _ [111, 113, 115, 117, 119] (by decide +kernel) (by decide +kernel)
theorem dft_X1 : ∀ j, j < 5 → (tyCl 1 j).isReference = true ∨ defaultValue (tyCl 1 j) = .int 0 := by decide +kernel
set_option maxRecDepth 100000 in
theorem lay_X2 : ∀ w ∈ u_ws RX2 TX2 14, w ∈ gwl := gwl_all _ [219, 221, 223, 225, 227, 229, 231, 233, 235, 237, 239, 241, 243, 245] (by decide +kernel) (by decide +kernel)
theorem dft_X2 : ∀ j, j < 14 → (tyCl 2 j).isReference = true ∨ defaultValue (tyCl 2 j) = .int 0 := by decide +kernel
set_option maxRecDepth 100000 in
theorem lay_X3 : ∀ w ∈ u_ws RX3 TX3 11, w ∈ gwl := gwl_all _ [380, 382, 384, 386, 388, 390, 392, 394, 396, 398, 400] (by decide +kernel) (by decide +kernel)
theorem dft_X3 : ∀ j, j < 11 → (tyCl 3 j).isReference = true ∨ defaultValue (tyCl 3 j) = .int 0 := by decide +kernel
set_option maxRecDepth 100000 in
theorem lay_X4 : ∀ w ∈ u_ws RX4 TX4 16, w ∈ gwl := gwl_all _ [292, 294, 296, 298, 300, 302, 304, 306, 308, 310, 312, 314, 316, 318, 320, 322] (by decide +kernel) (by decide +kernel)
theorem dft_X4 : ∀ j, j < 16 → (tyCl 4 j).isReference = true ∨ defaultValue (tyCl 4 j) = .int 0 := by decide +kernel
set_option maxRecDepth 100000 in
theorem lay_X5 : ∀ w ∈ u_ws RX5 TX5 3, w ∈ gwl := gwl_all _ [415, 417, 419] (by decide +kernel) (by decide +kernel)
theorem dft_X5 : ∀ j, j < 3 → (tyCl 5 j).isReference = true ∨ defaultValue (tyCl 5 j) = .int 0 := by decide +kernel
set_option maxRecDepth 100000 in
theorem lay_X6 : ∀ w ∈ u_ws RX6 TX6 8, w ∈ gwl := gwl_all _ [339, 341, 343, 345, 347, 349, 351, 353] (by decide +kernel) (by decide +kernel)
theorem dft_X6 : ∀ j, j < 8 → (tyCl 6 j).isReference = true ∨ defaultValue (tyCl 6 j) = .int 0 := by decide +kernel
set_option maxRecDepth 100000 in
theorem lay_X7 : ∀ w ∈ u_ws RX7 TX7 3, w ∈ gwl := gwl_all _ [263, 265, 267] (by decide +kernel) (by decide +kernel)
theorem dft_X7 : ∀ j, j < 3 → (tyCl 7 j).isReference = true ∨ defaultValue (tyCl 7 j) = .int 0 := by decide +kernel
set_option maxRecDepth 100000 in
theorem lay_X8 : ∀ w ∈ u_ws RX8 TX8 8, w ∈ gwl := gwl_all _ [152, 154, 156, 158, 160, 162, 164, 166] (by decide +kernel) (by decide +kernel)
theorem dft_X8 : ∀ j, j < 8 → (tyCl 8 j).isReference = true ∨ defaultValue (tyCl 8 j) = .int 0 := by decide +kernel
set_option maxRecDepth 100000 in
theorem lay_X9 : ∀ w ∈ u_ws RX9 TX9 10, w ∈ gwl := gwl_all _ [432, 434, 436, 438, 440, 442, 444, 446, 448, 450] (by decide +kernel) (by decide +kernel)
theorem dft_X9 : ∀ j, j < 10 → (tyCl 9 j).isReference = true ∨ defaultValue (tyCl 9 j) = .int 0 := by decide +kernel
set_option maxRecDepth 100000 in
theorem lay_X10 : ∀ w ∈ u_ws RX10 TX10 55, w ∈ gwl := gwl_all _ [1061, 1063, 1065, 1067, 1069, 1071, 1073, 1075, 1077, 1079, 1081, 1083, 1085, 1087, 1089, 1091, 1093, 1095, 1097, 1099, 1101, 1103, 1105, 1107, 1109, 1111, 1113, 1115, 1117, 1119, 1121, 1123, 1125, 1127, 1129, 1131, 1133, 1135, 1137, 1139, 1141, 1143, 1145, 1147, 1149, 1151, 1153, 1155, 1157, 1159, 1161, 1163, 1165, 1167, 1169] (by decide +kernel) (by decide +kernel)
theorem dft_X10 : ∀ j, j < 55 → (tyCl 10 j).isReference = true ∨ defaultValue (tyCl 10 j) = .int 0 := by decide +kernel
set_option maxRecDepth 100000 in
theorem fl_X9_10 : ev_fl RX9 10 9 0 := ⟨(RX9, TX9, 10), rfl, by decide, lay_X9, gwl_in2 118 rfl rfl, tyX9_ok, nmX9⟩
set_option maxRecDepth 100000 in
theorem fl_X9_16 : ev_fl RX9 16 9 1 := ⟨(RX9, TX9, 10), rfl, by decide, lay_X9, gwl_in2 119 rfl rfl, tyX9_ok, nmX9⟩
set_option maxRecDepth 100000 in
theorem fl_X9_22 : ev_fl RX9 22 9 2 := ⟨(RX9, TX9, 10), rfl, by decide, lay_X9, gwl_in2 120 rfl rfl, tyX9_ok, nmX9⟩
set_option maxRecDepth 100000 in
theorem fl_X9_29 : ev_fl RX9 29 9 3 := ⟨(RX9, TX9, 10), rfl, by decide, lay_X9, gwl_in2 121 rfl rfl, tyX9_ok, nmX9⟩
set_option maxRecDepth 100000 in
theorem fl_X9_36 : ev_fl RX9 36 9 4 := ⟨(RX9, TX9, 10), rfl, by decide, lay_X9, gwl_in2 122 rfl rfl, tyX9_ok, nmX9⟩
set_option maxRecDepth 100000 in
theorem fl_X9_43 : ev_fl RX9 43 9 5 := ⟨(RX9, TX9, 10), rfl, by decide, lay_X9, gwl_in2 123 rfl rfl, tyX9_ok, nmX9⟩
set_option maxRecDepth 100000 in
theorem fl_X9_50 : ev_fl RX9 50 9 6 := ⟨(RX9, TX9, 10), rfl, by decide, lay_X9, gwl_in2 124 rfl rfl, tyX9_ok, nmX9⟩
set_option maxRecDepth 100000 in
theorem fl_X9_57 : ev_fl RX9 57 9 7 := ⟨(RX9, TX9, 10), rfl, by decide, lay_X9, gwl_in2 125 rfl rfl, tyX9_ok, nmX9⟩
set_option maxRecDepth 100000 in
theorem fl_X9_64 : ev_fl RX9 64 9 8 := ⟨(RX9, TX9, 10), rfl, by decide, lay_X9, gwl_in2 126 rfl rfl, tyX9_ok, nmX9⟩
set_option maxRecDepth 100000 in
theorem fl_X9_71 : ev_fl RX9 71 9 9 := ⟨(RX9, TX9, 10), rfl, by decide, lay_X9, gwl_in2 127 rfl rfl, tyX9_ok, nmX9⟩
set_option maxRecDepth 100000 in
theorem fl_X9_83 : ev_fl RX9 83 1 2 := ⟨(RX1, TX1, 5), rfl, by decide, lay_X1, gwl_in1 39 rfl rfl, tyX1_ok, nmX1⟩
set_option maxRecDepth 100000 in
theorem fl_X9_87 : ev_fl RX9 87 1 1 := ⟨(RX1, TX1, 5), rfl, by decide, lay_X1, gwl_in1 36 rfl rfl, tyX1_ok, nmX1⟩
set_option maxRecDepth 100000 in
theorem fl_X9_96 : ev_fl RX9 96 1 3 := ⟨(RX1, TX1, 5), rfl, by decide, lay_X1, gwl_in1 42 rfl rfl, tyX1_ok, nmX1⟩
set_option maxRecDepth 100000 in
theorem fl_X9_99 : ev_fl RX9 99 1 0 := ⟨(RX1, TX1, 5), rfl, by decide, lay_X1, gwl_in1 32 rfl rfl, tyX1_ok, nmX1⟩
set_option maxRecDepth 100000 in
theorem fl_X9_102 : ev_fl RX9 102 1 4 := ⟨(RX1, TX1, 5), rfl, by decide, lay_X1, gwl_in1 46 rfl rfl, tyX1_ok, nmX1⟩
set_option maxRecDepth 100000 in
theorem fl_X9_105 : ev_fl RX9 105 8 6 := ⟨(RX8, TX8, 8), rfl, by decide, lay_X8, gwl_in1 83 rfl rfl, tyX8_ok, nmX8⟩
set_option maxRecDepth 100000 in
theorem fl_X9_129 : ev_fl RX9 129 8 0 := ⟨(RX8, TX8, 8), rfl, by decide, lay_X8, gwl_in1 66 rfl rfl, tyX8_ok, nmX8⟩
set_option maxRecDepth 100000 in
theorem fl_X9_133 : ev_fl RX9 133 8 1 := ⟨(RX8, TX8, 8), rfl, by decide, lay_X8, gwl_in1 68 rfl rfl, tyX8_ok, nmX8⟩
set_option maxRecDepth 100000 in
theorem fl_X9_136 : ev_fl RX9 136 8 2 := ⟨(RX8, TX8, 8), rfl, by decide, lay_X8, gwl_in1 70 rfl rfl, tyX8_ok, nmX8⟩
set_option maxRecDepth 100000 in
theorem fl_X9_139 : ev_fl RX9 139 8 3 := ⟨(RX8, TX8, 8), rfl, by decide, lay_X8, gwl_in1 72 rfl rfl, tyX8_ok, nmX8⟩
set_option maxRecDepth 100000 in
theorem fl_X9_143 : ev_fl RX9 143 8 4 := ⟨(RX8, TX8, 8), rfl, by decide, lay_X8, gwl_in1 76 rfl rfl, tyX8_ok, nmX8⟩
set_option maxRecDepth 100000 in
theorem fl_X9_146 : ev_fl RX9 146 8 5 := ⟨(RX8, TX8, 8), rfl, by decide, lay_X8, gwl_in1 79 rfl rfl, tyX8_ok, nmX8⟩
set_option maxRecDepth 100000 in
theorem fl_X9_158 : ev_fl RX9 158 8 7 := ⟨(RX8, TX8, 8), rfl, by decide, lay_X8, gwl_in1 87 rfl rfl, tyX8_ok, nmX8⟩
set_option maxRecDepth 100000 in
theorem fl_X9_173 : ev_fl RX9 173 2 1 := ⟨(RX2, TX2, 14), rfl, by decide, lay_X2, gwl_in1 138 rfl rfl, tyX2_ok, nmX2⟩
set_option maxRecDepth 100000 in
theorem fl_X9_176 : ev_fl RX9 176 7 2 := ⟨(RX7, TX7, 3), rfl, by decide, lay_X7, gwl_in1 198 rfl rfl, tyX7_ok, nmX7⟩
set_option maxRecDepth 100000 in
theorem fl_X9_180 : ev_fl RX9 180 2 7 := ⟨(RX2, TX2, 14), rfl, by decide, lay_X2, gwl_in1 145 rfl rfl, tyX2_ok, nmX2⟩
set_option maxRecDepth 100000 in
theorem fl_X9_183 : ev_fl RX9 183 2 8 := ⟨(RX2, TX2, 14), rfl, by decide, lay_X2, gwl_in1 147 rfl rfl, tyX2_ok, nmX2⟩
set_option maxRecDepth 100000 in
theorem fl_X9_186 : ev_fl RX9 186 2 9 := ⟨(RX2, TX2, 14), rfl, by decide, lay_X2, gwl_in1 149 rfl rfl, tyX2_ok, nmX2⟩
set_option maxRecDepth 100000 in
theorem fl_X9_189 : ev_fl RX9 189 2 10 := ⟨(RX2, TX2, 14), rfl, by decide, lay_X2, gwl_in1 151 rfl rfl, tyX2_ok, nmX2⟩
set_option maxRecDepth 100000 in
theorem fl_X9_196 : ev_fl RX9 196 7 1 := ⟨(RX7, TX7, 3), rfl, by decide, lay_X7, gwl_in1 196 rfl rfl, tyX7_ok, nmX7⟩
set_option maxRecDepth 100000 in
theorem fl_X9_213 : ev_fl RX9 213 7 0 := ⟨(RX7, TX7, 3), rfl, by decide, lay_X7, gwl_in1 193 rfl rfl, tyX7_ok, nmX7⟩
set_option maxRecDepth 100000 in
theorem fl_X9_233 : ev_fl RX9 233 0 3 := ⟨(RX0, TX0, 4), rfl, by decide, lay_X0, gwl_in1 120 rfl rfl, tyX0_ok, nmX0⟩
set_option maxRecDepth 100000 in
theorem fl_X9_283 : ev_fl RX9 283 3 6 := ⟨(RX3, TX3, 11), rfl, by decide, lay_X3, gwl_in2 67 rfl rfl, tyX3_ok, nmX3⟩
set_option maxRecDepth 100000 in
theorem fl_X9_299 : ev_fl RX9 299 3 7 := ⟨(RX3, TX3, 11), rfl, by decide, lay_X3, gwl_in2 69 rfl rfl, tyX3_ok, nmX3⟩
set_option maxRecDepth 100000 in
theorem fl_X9_302 : ev_fl RX9 302 3 8 := ⟨(RX3, TX3, 11), rfl, by decide, lay_X3, gwl_in2 71 rfl rfl, tyX3_ok, nmX3⟩
set_option maxRecDepth 100000 in
theorem fl_X9_305 : ev_fl RX9 305 3 9 := ⟨(RX3, TX3, 11), rfl, by decide, lay_X3, gwl_in2 73 rfl rfl, tyX3_ok, nmX3⟩
set_option maxRecDepth 100000 in
theorem fl_X9_308 : ev_fl RX9 308 3 10 := ⟨(RX3, TX3, 11), rfl, by decide, lay_X3, gwl_in2 75 rfl rfl, tyX3_ok, nmX3⟩
set_option maxRecDepth 100000 in
theorem fl_X9_315 : ev_fl RX9 315 0 2 := ⟨(RX0, TX0, 4), rfl, by decide, lay_X0, gwl_in1 118 rfl rfl, tyX0_ok, nmX0⟩
set_option maxRecDepth 100000 in
theorem fl_X9_335 : ev_fl RX9 335 3 2 := ⟨(RX3, TX3, 11), rfl, by decide, lay_X3, gwl_in2 61 rfl rfl, tyX3_ok, nmX3⟩
set_option maxRecDepth 100000 in
theorem fl_X9_338 : ev_fl RX9 338 3 5 := ⟨(RX3, TX3, 11), rfl, by decide, lay_X3, gwl_in2 65 rfl rfl, tyX3_ok, nmX3⟩
set_option maxRecDepth 100000 in
theorem fl_X9_349 : ev_fl RX9 349 5 2 := ⟨(RX5, TX5, 3), rfl, by decide, lay_X5, gwl_in2 110 rfl rfl, tyX5_ok, nmX5⟩
set_option maxRecDepth 100000 in
theorem fl_X9_362 : ev_fl RX9 362 5 0 := ⟨(RX5, TX5, 3), rfl, by decide, lay_X5, gwl_in2 107 rfl rfl, tyX5_ok, nmX5⟩
set_option maxRecDepth 100000 in
theorem fl_X0_13 : ev_fl RX0 13 0 0 := ⟨(RX0, TX0, 4), rfl, by decide, lay_X0, gwl_in1 115 rfl rfl, tyX0_ok, nmX0⟩
set_option maxRecDepth 100000 in
theorem fl_X0_16 : ev_fl RX0 16 0 1 := ⟨(RX0, TX0, 4), rfl, by decide, lay_X0, gwl_in1 116 rfl rfl, tyX0_ok, nmX0⟩
set_option maxRecDepth 100000 in
theorem fl_X0_20 : ev_fl RX0 20 0 2 := ⟨(RX0, TX0, 4), rfl, by decide, lay_X0, gwl_in1 117 rfl rfl, tyX0_ok, nmX0⟩
set_option maxRecDepth 100000 in
theorem fl_X0_23 : ev_fl RX0 23 0 3 := ⟨(RX0, TX0, 4), rfl, by decide, lay_X0, gwl_in1 119 rfl rfl, tyX0_ok, nmX0⟩
set_option maxRecDepth 100000 in
theorem fl_X0_26 : ev_fl RX0 26 1 0 := ⟨(RX1, TX1, 5), rfl, by decide, lay_X1, gwl_in1 31 rfl rfl, tyX1_ok, nmX1⟩
set_option maxRecDepth 100000 in
theorem fl_X0_31 : ev_fl RX0 31 1 1 := ⟨(RX1, TX1, 5), rfl, by decide, lay_X1, gwl_in1 35 rfl rfl, tyX1_ok, nmX1⟩
set_option maxRecDepth 100000 in
theorem fl_X0_34 : ev_fl RX0 34 1 2 := ⟨(RX1, TX1, 5), rfl, by decide, lay_X1, gwl_in1 38 rfl rfl, tyX1_ok, nmX1⟩
set_option maxRecDepth 100000 in
theorem fl_X0_37 : ev_fl RX0 37 1 3 := ⟨(RX1, TX1, 5), rfl, by decide, lay_X1, gwl_in1 41 rfl rfl, tyX1_ok, nmX1⟩
set_option maxRecDepth 100000 in
theorem fl_X0_40 : ev_fl RX0 40 1 4 := ⟨(RX1, TX1, 5), rfl, by decide, lay_X1, gwl_in1 45 rfl rfl, tyX1_ok, nmX1⟩
set_option maxRecDepth 100000 in
theorem fl_X0_43 : ev_fl RX0 43 8 6 := ⟨(RX8, TX8, 8), rfl, by decide, lay_X8, gwl_in1 81 rfl rfl, tyX8_ok, nmX8⟩
set_option maxRecDepth 100000 in
theorem fl_X0_48 : ev_fl RX0 48 8 4 := ⟨(RX8, TX8, 8), rfl, by decide, lay_X8, gwl_in1 74 rfl rfl, tyX8_ok, nmX8⟩
set_option maxRecDepth 100000 in
theorem fl_X0_58 : ev_fl RX0 58 8 5 := ⟨(RX8, TX8, 8), rfl, by decide, lay_X8, gwl_in1 78 rfl rfl, tyX8_ok, nmX8⟩
set_option maxRecDepth 100000 in
theorem fl_X1_7 : ev_fl RX1 7 1 0 := ⟨(RX1, TX1, 5), rfl, by decide, lay_X1, gwl_in1 30 rfl rfl, tyX1_ok, nmX1⟩
set_option maxRecDepth 100000 in
theorem fl_X1_13 : ev_fl RX1 13 1 1 := ⟨(RX1, TX1, 5), rfl, by decide, lay_X1, gwl_in1 34 rfl rfl, tyX1_ok, nmX1⟩
set_option maxRecDepth 100000 in
theorem fl_X1_16 : ev_fl RX1 16 1 2 := ⟨(RX1, TX1, 5), rfl, by decide, lay_X1, gwl_in1 37 rfl rfl, tyX1_ok, nmX1⟩
set_option maxRecDepth 100000 in
theorem fl_X1_19 : ev_fl RX1 19 1 3 := ⟨(RX1, TX1, 5), rfl, by decide, lay_X1, gwl_in1 40 rfl rfl, tyX1_ok, nmX1⟩
set_option maxRecDepth 100000 in
theorem fl_X1_22 : ev_fl RX1 22 1 4 := ⟨(RX1, TX1, 5), rfl, by decide, lay_X1, gwl_in1 44 rfl rfl, tyX1_ok, nmX1⟩
set_option maxRecDepth 100000 in
theorem fl_X2_11 : ev_fl RX2 11 2 0 := ⟨(RX2, TX2, 14), rfl, by decide, lay_X2, gwl_in1 136 rfl rfl, tyX2_ok, nmX2⟩
set_option maxRecDepth 100000 in
theorem fl_X2_15 : ev_fl RX2 15 2 1 := ⟨(RX2, TX2, 14), rfl, by decide, lay_X2, gwl_in1 137 rfl rfl, tyX2_ok, nmX2⟩
set_option maxRecDepth 100000 in
theorem fl_X2_19 : ev_fl RX2 19 2 2 := ⟨(RX2, TX2, 14), rfl, by decide, lay_X2, gwl_in1 139 rfl rfl, tyX2_ok, nmX2⟩
set_option maxRecDepth 100000 in
theorem fl_X2_22 : ev_fl RX2 22 2 3 := ⟨(RX2, TX2, 14), rfl, by decide, lay_X2, gwl_in1 140 rfl rfl, tyX2_ok, nmX2⟩
set_option maxRecDepth 100000 in
theorem fl_X2_25 : ev_fl RX2 25 2 4 := ⟨(RX2, TX2, 14), rfl, by decide, lay_X2, gwl_in1 141 rfl rfl, tyX2_ok, nmX2⟩
set_option maxRecDepth 100000 in
theorem fl_X2_28 : ev_fl RX2 28 2 5 := ⟨(RX2, TX2, 14), rfl, by decide, lay_X2, gwl_in1 142 rfl rfl, tyX2_ok, nmX2⟩
set_option maxRecDepth 100000 in
theorem fl_X2_31 : ev_fl RX2 31 2 6 := ⟨(RX2, TX2, 14), rfl, by decide, lay_X2, gwl_in1 143 rfl rfl, tyX2_ok, nmX2⟩
set_option maxRecDepth 100000 in
theorem fl_X2_34 : ev_fl RX2 34 2 7 := ⟨(RX2, TX2, 14), rfl, by decide, lay_X2, gwl_in1 144 rfl rfl, tyX2_ok, nmX2⟩
set_option maxRecDepth 100000 in
theorem fl_X2_37 : ev_fl RX2 37 2 8 := ⟨(RX2, TX2, 14), rfl, by decide, lay_X2, gwl_in1 146 rfl rfl, tyX2_ok, nmX2⟩
set_option maxRecDepth 100000 in
theorem fl_X2_40 : ev_fl RX2 40 2 9 := ⟨(RX2, TX2, 14), rfl, by decide, lay_X2, gwl_in1 148 rfl rfl, tyX2_ok, nmX2⟩
set_option maxRecDepth 100000 in
theorem fl_X2_44 : ev_fl RX2 44 2 10 := ⟨(RX2, TX2, 14), rfl, by decide, lay_X2, gwl_in1 150 rfl rfl, tyX2_ok, nmX2⟩
set_option maxRecDepth 100000 in
theorem fl_X2_47 : ev_fl RX2 47 2 11 := ⟨(RX2, TX2, 14), rfl, by decide, lay_X2, gwl_in1 152 rfl rfl, tyX2_ok, nmX2⟩
set_option maxRecDepth 100000 in
theorem fl_X2_50 : ev_fl RX2 50 2 12 := ⟨(RX2, TX2, 14), rfl, by decide, lay_X2, gwl_in1 153 rfl rfl, tyX2_ok, nmX2⟩
set_option maxRecDepth 100000 in
theorem fl_X2_53 : ev_fl RX2 53 2 13 := ⟨(RX2, TX2, 14), rfl, by decide, lay_X2, gwl_in1 154 rfl rfl, tyX2_ok, nmX2⟩
set_option maxRecDepth 100000 in
theorem fl_X3_11 : ev_fl RX3 11 3 0 := ⟨(RX3, TX3, 11), rfl, by decide, lay_X3, gwl_in2 58 rfl rfl, tyX3_ok, nmX3⟩
set_option maxRecDepth 100000 in
theorem fl_X3_15 : ev_fl RX3 15 3 1 := ⟨(RX3, TX3, 11), rfl, by decide, lay_X3, gwl_in2 59 rfl rfl, tyX3_ok, nmX3⟩
set_option maxRecDepth 100000 in
theorem fl_X3_18 : ev_fl RX3 18 3 2 := ⟨(RX3, TX3, 11), rfl, by decide, lay_X3, gwl_in2 60 rfl rfl, tyX3_ok, nmX3⟩
set_option maxRecDepth 100000 in
theorem fl_X3_22 : ev_fl RX3 22 3 3 := ⟨(RX3, TX3, 11), rfl, by decide, lay_X3, gwl_in2 62 rfl rfl, tyX3_ok, nmX3⟩
set_option maxRecDepth 100000 in
theorem fl_X3_25 : ev_fl RX3 25 3 4 := ⟨(RX3, TX3, 11), rfl, by decide, lay_X3, gwl_in2 63 rfl rfl, tyX3_ok, nmX3⟩
set_option maxRecDepth 100000 in
theorem fl_X3_28 : ev_fl RX3 28 3 5 := ⟨(RX3, TX3, 11), rfl, by decide, lay_X3, gwl_in2 64 rfl rfl, tyX3_ok, nmX3⟩
set_option maxRecDepth 100000 in
theorem fl_X3_31 : ev_fl RX3 31 3 6 := ⟨(RX3, TX3, 11), rfl, by decide, lay_X3, gwl_in2 66 rfl rfl, tyX3_ok, nmX3⟩
set_option maxRecDepth 100000 in
theorem fl_X3_34 : ev_fl RX3 34 3 7 := ⟨(RX3, TX3, 11), rfl, by decide, lay_X3, gwl_in2 68 rfl rfl, tyX3_ok, nmX3⟩
set_option maxRecDepth 100000 in
theorem fl_X3_37 : ev_fl RX3 37 3 8 := ⟨(RX3, TX3, 11), rfl, by decide, lay_X3, gwl_in2 70 rfl rfl, tyX3_ok, nmX3⟩
set_option maxRecDepth 100000 in
theorem fl_X3_40 : ev_fl RX3 40 3 9 := ⟨(RX3, TX3, 11), rfl, by decide, lay_X3, gwl_in2 72 rfl rfl, tyX3_ok, nmX3⟩
set_option maxRecDepth 100000 in
theorem fl_X3_43 : ev_fl RX3 43 3 10 := ⟨(RX3, TX3, 11), rfl, by decide, lay_X3, gwl_in2 74 rfl rfl, tyX3_ok, nmX3⟩
set_option maxRecDepth 100000 in
theorem fl_X4_9 : ev_fl RX4 9 4 0 := ⟨(RX4, TX4, 16), rfl, by decide, lay_X4, gwl_in1 212 rfl rfl, tyX4_ok, nmX4⟩
set_option maxRecDepth 100000 in
theorem fl_X4_15 : ev_fl RX4 15 4 1 := ⟨(RX4, TX4, 16), rfl, by decide, lay_X4, gwl_in1 213 rfl rfl, tyX4_ok, nmX4⟩
set_option maxRecDepth 100000 in
theorem fl_X4_18 : ev_fl RX4 18 4 2 := ⟨(RX4, TX4, 16), rfl, by decide, lay_X4, gwl_in1 214 rfl rfl, tyX4_ok, nmX4⟩
set_option maxRecDepth 100000 in
theorem fl_X4_21 : ev_fl RX4 21 4 3 := ⟨(RX4, TX4, 16), rfl, by decide, lay_X4, gwl_in1 215 rfl rfl, tyX4_ok, nmX4⟩
set_option maxRecDepth 100000 in
theorem fl_X4_25 : ev_fl RX4 25 4 4 := ⟨(RX4, TX4, 16), rfl, by decide, lay_X4, gwl_in1 216 rfl rfl, tyX4_ok, nmX4⟩
set_option maxRecDepth 100000 in
theorem fl_X4_28 : ev_fl RX4 28 4 5 := ⟨(RX4, TX4, 16), rfl, by decide, lay_X4, gwl_in1 217 rfl rfl, tyX4_ok, nmX4⟩
set_option maxRecDepth 100000 in
theorem fl_X4_31 : ev_fl RX4 31 4 6 := ⟨(RX4, TX4, 16), rfl, by decide, lay_X4, gwl_in1 218 rfl rfl, tyX4_ok, nmX4⟩
set_option maxRecDepth 100000 in
theorem fl_X4_34 : ev_fl RX4 34 4 7 := ⟨(RX4, TX4, 16), rfl, by decide, lay_X4, gwl_in1 219 rfl rfl, tyX4_ok, nmX4⟩
set_option maxRecDepth 100000 in
theorem fl_X4_37 : ev_fl RX4 37 4 8 := ⟨(RX4, TX4, 16), rfl, by decide, lay_X4, gwl_in1 220 rfl rfl, tyX4_ok, nmX4⟩
set_option maxRecDepth 100000 in
theorem fl_X4_40 : ev_fl RX4 40 4 9 := ⟨(RX4, TX4, 16), rfl, by decide, lay_X4, gwl_in1 221 rfl rfl, tyX4_ok, nmX4⟩
set_option maxRecDepth 100000 in
theorem fl_X4_43 : ev_fl RX4 43 4 10 := ⟨(RX4, TX4, 16), rfl, by decide, lay_X4, gwl_in1 222 rfl rfl, tyX4_ok, nmX4⟩
set_option maxRecDepth 100000 in
theorem fl_X4_46 : ev_fl RX4 46 4 11 := ⟨(RX4, TX4, 16), rfl, by decide, lay_X4, gwl_in1 223 rfl rfl, tyX4_ok, nmX4⟩
set_option maxRecDepth 100000 in
theorem fl_X4_49 : ev_fl RX4 49 4 12 := ⟨(RX4, TX4, 16), rfl, by decide, lay_X4, gwl_in1 224 rfl rfl, tyX4_ok, nmX4⟩
set_option maxRecDepth 100000 in
theorem fl_X4_52 : ev_fl RX4 52 4 13 := ⟨(RX4, TX4, 16), rfl, by decide, lay_X4, gwl_in1 225 rfl rfl, tyX4_ok, nmX4⟩
set_option maxRecDepth 100000 in
theorem fl_X4_55 : ev_fl RX4 55 4 14 := ⟨(RX4, TX4, 16), rfl, by decide, lay_X4, gwl_in1 226 rfl rfl, tyX4_ok, nmX4⟩
set_option maxRecDepth 100000 in
theorem fl_X4_58 : ev_fl RX4 58 4 15 := ⟨(RX4, TX4, 16), rfl, by decide, lay_X4, gwl_in1 227 rfl rfl, tyX4_ok, nmX4⟩
set_option maxRecDepth 100000 in
theorem fl_X4_62 : ev_fl RX4 62 7 1 := ⟨(RX7, TX7, 3), rfl, by decide, lay_X7, gwl_in1 195 rfl rfl, tyX7_ok, nmX7⟩
set_option maxRecDepth 100000 in
theorem fl_X4_71 : ev_fl RX4 71 8 6 := ⟨(RX8, TX8, 8), rfl, by decide, lay_X8, gwl_in1 82 rfl rfl, tyX8_ok, nmX8⟩
set_option maxRecDepth 100000 in
theorem fl_X4_107 : ev_fl RX4 107 8 7 := ⟨(RX8, TX8, 8), rfl, by decide, lay_X8, gwl_in1 86 rfl rfl, tyX8_ok, nmX8⟩
set_option maxRecDepth 100000 in
theorem fl_X4_114 : ev_fl RX4 114 1 3 := ⟨(RX1, TX1, 5), rfl, by decide, lay_X1, gwl_in1 43 rfl rfl, tyX1_ok, nmX1⟩
set_option maxRecDepth 100000 in
theorem fl_X4_141 : ev_fl RX4 141 1 0 := ⟨(RX1, TX1, 5), rfl, by decide, lay_X1, gwl_in1 33 rfl rfl, tyX1_ok, nmX1⟩
set_option maxRecDepth 100000 in
theorem fl_X5_11 : ev_fl RX5 11 5 0 := ⟨(RX5, TX5, 3), rfl, by decide, lay_X5, gwl_in2 106 rfl rfl, tyX5_ok, nmX5⟩
set_option maxRecDepth 100000 in
theorem fl_X5_14 : ev_fl RX5 14 5 1 := ⟨(RX5, TX5, 3), rfl, by decide, lay_X5, gwl_in2 108 rfl rfl, tyX5_ok, nmX5⟩
set_option maxRecDepth 100000 in
theorem fl_X5_18 : ev_fl RX5 18 5 2 := ⟨(RX5, TX5, 3), rfl, by decide, lay_X5, gwl_in2 109 rfl rfl, tyX5_ok, nmX5⟩
set_option maxRecDepth 100000 in
theorem fl_X6_9 : ev_fl RX6 9 6 0 := ⟨(RX6, TX6, 8), rfl, by decide, lay_X6, gwl_in2 27 rfl rfl, tyX6_ok, nmX6⟩
set_option maxRecDepth 100000 in
theorem fl_X6_15 : ev_fl RX6 15 6 1 := ⟨(RX6, TX6, 8), rfl, by decide, lay_X6, gwl_in2 28 rfl rfl, tyX6_ok, nmX6⟩
set_option maxRecDepth 100000 in
theorem fl_X6_18 : ev_fl RX6 18 6 2 := ⟨(RX6, TX6, 8), rfl, by decide, lay_X6, gwl_in2 29 rfl rfl, tyX6_ok, nmX6⟩
set_option maxRecDepth 100000 in
theorem fl_X6_22 : ev_fl RX6 22 6 3 := ⟨(RX6, TX6, 8), rfl, by decide, lay_X6, gwl_in2 30 rfl rfl, tyX6_ok, nmX6⟩
set_option maxRecDepth 100000 in
theorem fl_X6_25 : ev_fl RX6 25 6 4 := ⟨(RX6, TX6, 8), rfl, by decide, lay_X6, gwl_in2 31 rfl rfl, tyX6_ok, nmX6⟩
set_option maxRecDepth 100000 in
theorem fl_X6_28 : ev_fl RX6 28 6 5 := ⟨(RX6, TX6, 8), rfl, by decide, lay_X6, gwl_in2 32 rfl rfl, tyX6_ok, nmX6⟩
set_option maxRecDepth 100000 in
theorem fl_X6_31 : ev_fl RX6 31 6 6 := ⟨(RX6, TX6, 8), rfl, by decide, lay_X6, gwl_in2 33 rfl rfl, tyX6_ok, nmX6⟩
set_option maxRecDepth 100000 in
theorem fl_X6_34 : ev_fl RX6 34 6 7 := ⟨(RX6, TX6, 8), rfl, by decide, lay_X6, gwl_in2 34 rfl rfl, tyX6_ok, nmX6⟩
set_option maxRecDepth 100000 in
theorem fl_X6_37 : ev_fl RX6 37 8 7 := ⟨(RX8, TX8, 8), rfl, by decide, lay_X8, gwl_in1 85 rfl rfl, tyX8_ok, nmX8⟩
set_option maxRecDepth 100000 in
theorem fl_X6_79 : ev_fl RX6 79 8 0 := ⟨(RX8, TX8, 8), rfl, by decide, lay_X8, gwl_in1 65 rfl rfl, tyX8_ok, nmX8⟩
set_option maxRecDepth 100000 in
theorem fl_X6_82 : ev_fl RX6 82 8 4 := ⟨(RX8, TX8, 8), rfl, by decide, lay_X8, gwl_in1 75 rfl rfl, tyX8_ok, nmX8⟩
set_option maxRecDepth 100000 in
theorem fl_X7_11 : ev_fl RX7 11 7 0 := ⟨(RX7, TX7, 3), rfl, by decide, lay_X7, gwl_in1 192 rfl rfl, tyX7_ok, nmX7⟩
set_option maxRecDepth 100000 in
theorem fl_X7_16 : ev_fl RX7 16 7 1 := ⟨(RX7, TX7, 3), rfl, by decide, lay_X7, gwl_in1 194 rfl rfl, tyX7_ok, nmX7⟩
set_option maxRecDepth 100000 in
theorem fl_X7_20 : ev_fl RX7 20 7 2 := ⟨(RX7, TX7, 3), rfl, by decide, lay_X7, gwl_in1 197 rfl rfl, tyX7_ok, nmX7⟩
set_option maxRecDepth 100000 in
theorem fl_X8_9 : ev_fl RX8 9 8 0 := ⟨(RX8, TX8, 8), rfl, by decide, lay_X8, gwl_in1 64 rfl rfl, tyX8_ok, nmX8⟩
set_option maxRecDepth 100000 in
theorem fl_X8_15 : ev_fl RX8 15 8 1 := ⟨(RX8, TX8, 8), rfl, by decide, lay_X8, gwl_in1 67 rfl rfl, tyX8_ok, nmX8⟩
set_option maxRecDepth 100000 in
theorem fl_X8_18 : ev_fl RX8 18 8 2 := ⟨(RX8, TX8, 8), rfl, by decide, lay_X8, gwl_in1 69 rfl rfl, tyX8_ok, nmX8⟩
set_option maxRecDepth 100000 in
theorem fl_X8_21 : ev_fl RX8 21 8 3 := ⟨(RX8, TX8, 8), rfl, by decide, lay_X8, gwl_in1 71 rfl rfl, tyX8_ok, nmX8⟩
set_option maxRecDepth 100000 in
theorem fl_X8_25 : ev_fl RX8 25 8 4 := ⟨(RX8, TX8, 8), rfl, by decide, lay_X8, gwl_in1 73 rfl rfl, tyX8_ok, nmX8⟩
set_option maxRecDepth 100000 in
theorem fl_X8_28 : ev_fl RX8 28 8 5 := ⟨(RX8, TX8, 8), rfl, by decide, lay_X8, gwl_in1 77 rfl rfl, tyX8_ok, nmX8⟩
set_option maxRecDepth 100000 in
theorem fl_X8_31 : ev_fl RX8 31 8 6 := ⟨(RX8, TX8, 8), rfl, by decide, lay_X8, gwl_in1 80 rfl rfl, tyX8_ok, nmX8⟩
set_option maxRecDepth 100000 in
theorem fl_X8_35 : ev_fl RX8 35 8 7 := ⟨(RX8, TX8, 8), rfl, by decide, lay_X8, gwl_in1 84 rfl rfl, tyX8_ok, nmX8⟩
set_option maxRecDepth 100000 in
theorem fl_X10_7 : ev_fl RX10 7 10 0 := ⟨(RX10, TX10, 55), rfl, by decide, lay_X10, gwl_in4 222 rfl rfl, tyX10_ok, nmX10⟩
set_option maxRecDepth 100000 in
theorem fl_X10_13 : ev_fl RX10 13 10 1 := ⟨(RX10, TX10, 55), rfl, by decide, lay_X10, gwl_in4 223 rfl rfl, tyX10_ok, nmX10⟩
set_option maxRecDepth 100000 in
theorem fl_X10_16 : ev_fl RX10 16 10 2 := ⟨(RX10, TX10, 55), rfl, by decide, lay_X10, gwl_in4 224 rfl rfl, tyX10_ok, nmX10⟩
set_option maxRecDepth 100000 in
theorem fl_X10_19 : ev_fl RX10 19 10 3 := ⟨(RX10, TX10, 55), rfl, by decide, lay_X10, gwl_in4 225 rfl rfl, tyX10_ok, nmX10⟩
set_option maxRecDepth 100000 in
theorem fl_X10_22 : ev_fl RX10 22 10 6 := ⟨(RX10, TX10, 55), rfl, by decide, lay_X10, gwl_in4 228 rfl rfl, tyX10_ok, nmX10⟩
set_option maxRecDepth 100000 in
theorem fl_X10_26 : ev_fl RX10 26 10 7 := ⟨(RX10, TX10, 55), rfl, by decide, lay_X10, gwl_in4 229 rfl rfl, tyX10_ok, nmX10⟩
set_option maxRecDepth 100000 in
theorem fl_X10_29 : ev_fl RX10 29 10 8 := ⟨(RX10, TX10, 55), rfl, by decide, lay_X10, gwl_in4 230 rfl rfl, tyX10_ok, nmX10⟩
set_option maxRecDepth 100000 in
theorem fl_X10_32 : ev_fl RX10 32 10 9 := ⟨(RX10, TX10, 55), rfl, by decide, lay_X10, gwl_in4 231 rfl rfl, tyX10_ok, nmX10⟩
set_option maxRecDepth 100000 in
theorem fl_X10_36 : ev_fl RX10 36 10 10 := ⟨(RX10, TX10, 55), rfl, by decide, lay_X10, gwl_in4 232 rfl rfl, tyX10_ok, nmX10⟩
set_option maxRecDepth 100000 in
theorem fl_X10_39 : ev_fl RX10 39 10 11 := ⟨(RX10, TX10, 55), rfl, by decide, lay_X10, gwl_in4 233 rfl rfl, tyX10_ok, nmX10⟩
set_option maxRecDepth 100000 in
theorem fl_X10_42 : ev_fl RX10 42 10 12 := ⟨(RX10, TX10, 55), rfl, by decide, lay_X10, gwl_in4 234 rfl rfl, tyX10_ok, nmX10⟩
set_option maxRecDepth 100000 in
theorem fl_X10_45 : ev_fl RX10 45 10 14 := ⟨(RX10, TX10, 55), rfl, by decide, lay_X10, gwl_in4 236 rfl rfl, tyX10_ok, nmX10⟩
set_option maxRecDepth 100000 in
theorem fl_X10_48 : ev_fl RX10 48 10 15 := ⟨(RX10, TX10, 55), rfl, by decide, lay_X10, gwl_in4 237 rfl rfl, tyX10_ok, nmX10⟩
set_option maxRecDepth 100000 in
theorem fl_X10_51 : ev_fl RX10 51 10 24 := ⟨(RX10, TX10, 55), rfl, by decide, lay_X10, gwl_in5 6 rfl rfl, tyX10_ok, nmX10⟩
set_option maxRecDepth 100000 in
theorem fl_X10_54 : ev_fl RX10 54 10 25 := ⟨(RX10, TX10, 55), rfl, by decide, lay_X10, gwl_in5 7 rfl rfl, tyX10_ok, nmX10⟩
set_option maxRecDepth 100000 in
theorem fl_X10_57 : ev_fl RX10 57 10 26 := ⟨(RX10, TX10, 55), rfl, by decide, lay_X10, gwl_in5 8 rfl rfl, tyX10_ok, nmX10⟩
set_option maxRecDepth 100000 in
theorem fl_X10_60 : ev_fl RX10 60 10 29 := ⟨(RX10, TX10, 55), rfl, by decide, lay_X10, gwl_in5 11 rfl rfl, tyX10_ok, nmX10⟩
set_option maxRecDepth 100000 in
theorem fl_X10_63 : ev_fl RX10 63 10 30 := ⟨(RX10, TX10, 55), rfl, by decide, lay_X10, gwl_in5 12 rfl rfl, tyX10_ok, nmX10⟩
set_option maxRecDepth 100000 in
theorem fl_X10_67 : ev_fl RX10 67 10 32 := ⟨(RX10, TX10, 55), rfl, by decide, lay_X10, gwl_in5 14 rfl rfl, tyX10_ok, nmX10⟩
set_option maxRecDepth 100000 in
theorem fl_X10_70 : ev_fl RX10 70 10 33 := ⟨(RX10, TX10, 55), rfl, by decide, lay_X10, gwl_in5 15 rfl rfl, tyX10_ok, nmX10⟩
set_option maxRecDepth 100000 in
theorem fl_X10_73 : ev_fl RX10 73 10 34 := ⟨(RX10, TX10, 55), rfl, by decide, lay_X10, gwl_in5 16 rfl rfl, tyX10_ok, nmX10⟩
set_option maxRecDepth 100000 in
theorem fl_X10_76 : ev_fl RX10 76 10 38 := ⟨(RX10, TX10, 55), rfl, by decide, lay_X10, gwl_in5 20 rfl rfl, tyX10_ok, nmX10⟩
set_option maxRecDepth 100000 in
theorem fl_X10_79 : ev_fl RX10 79 10 39 := ⟨(RX10, TX10, 55), rfl, by decide, lay_X10, gwl_in5 21 rfl rfl, tyX10_ok, nmX10⟩
set_option maxRecDepth 100000 in
theorem fl_X10_82 : ev_fl RX10 82 10 40 := ⟨(RX10, TX10, 55), rfl, by decide, lay_X10, gwl_in5 22 rfl rfl, tyX10_ok, nmX10⟩
set_option maxRecDepth 100000 in
theorem fl_X10_85 : ev_fl RX10 85 10 41 := ⟨(RX10, TX10, 55), rfl, by decide, lay_X10, gwl_in5 23 rfl rfl, tyX10_ok, nmX10⟩
set_option maxRecDepth 100000 in
theorem fl_X10_88 : ev_fl RX10 88 10 42 := ⟨(RX10, TX10, 55), rfl, by decide, lay_X10, gwl_in5 24 rfl rfl, tyX10_ok, nmX10⟩
set_option maxRecDepth 100000 in
theorem fl_X10_91 : ev_fl RX10 91 10 43 := ⟨(RX10, TX10, 55), rfl, by decide, lay_X10, gwl_in5 25 rfl rfl, tyX10_ok, nmX10⟩
set_option maxRecDepth 100000 in
theorem fl_X10_94 : ev_fl RX10 94 10 44 := ⟨(RX10, TX10, 55), rfl, by decide, lay_X10, gwl_in5 26 rfl rfl, tyX10_ok, nmX10⟩
set_option maxRecDepth 100000 in
theorem fl_X10_97 : ev_fl RX10 97 10 46 := ⟨(RX10, TX10, 55), rfl, by decide, lay_X10, gwl_in5 28 rfl rfl, tyX10_ok, nmX10⟩
set_option maxRecDepth 100000 in
theorem fl_X10_100 : ev_fl RX10 100 10 47 := ⟨(RX10, TX10, 55), rfl, by decide, lay_X10, gwl_in5 29 rfl rfl, tyX10_ok, nmX10⟩
set_option maxRecDepth 100000 in
theorem fl_X10_103 : ev_fl RX10 103 10 49 := ⟨(RX10, TX10, 55), rfl, by decide, lay_X10, gwl_in5 31 rfl rfl, tyX10_ok, nmX10⟩
set_option maxRecDepth 100000 in
theorem fl_X10_106 : ev_fl RX10 106 10 50 := ⟨(RX10, TX10, 55), rfl, by decide, lay_X10, gwl_in5 32 rfl rfl, tyX10_ok, nmX10⟩
set_option maxRecDepth 100000 in
theorem fl_X10_109 : ev_fl RX10 109 10 51 := ⟨(RX10, TX10, 55), rfl, by decide, lay_X10, gwl_in5 33 rfl rfl, tyX10_ok, nmX10⟩
set_option maxRecDepth 100000 in
theorem fl_X10_112 : ev_fl RX10 112 10 52 := ⟨(RX10, TX10, 55), rfl, by decide, lay_X10, gwl_in5 34 rfl rfl, tyX10_ok, nmX10⟩
set_option maxRecDepth 100000 in
theorem fl_X10_115 : ev_fl RX10 115 10 53 := ⟨(RX10, TX10, 55), rfl, by decide, lay_X10, gwl_in5 35 rfl rfl, tyX10_ok, nmX10⟩
set_option maxRecDepth 100000 in
theorem fl_X10_118 : ev_fl RX10 118 10 54 := ⟨(RX10, TX10, 55), rfl, by decide, lay_X10, gwl_in5 36 rfl rfl, tyX10_ok, nmX10⟩
set_option maxRecDepth 100000 in
theorem fl_X10_121 : ev_fl RX10 121 10 5 := ⟨(RX10, TX10, 55), rfl, by decide, lay_X10, gwl_in4 227 rfl rfl, tyX10_ok, nmX10⟩
set_option maxRecDepth 100000 in
theorem fl_X10_128 : ev_fl RX10 128 10 13 := ⟨(RX10, TX10, 55), rfl, by decide, lay_X10, gwl_in4 235 rfl rfl, tyX10_ok, nmX10⟩
set_option maxRecDepth 100000 in
theorem fl_X10_131 : ev_fl RX10 131 10 4 := ⟨(RX10, TX10, 55), rfl, by decide, lay_X10, gwl_in4 226 rfl rfl, tyX10_ok, nmX10⟩
set_option maxRecDepth 100000 in
theorem fl_X10_186 : ev_fl RX10 186 10 16 := ⟨(RX10, TX10, 55), rfl, by decide, lay_X10, gwl_in4 238 rfl rfl, tyX10_ok, nmX10⟩
set_option maxRecDepth 100000 in
theorem fl_X10_191 : ev_fl RX10 191 10 21 := ⟨(RX10, TX10, 55), rfl, by decide, lay_X10, gwl_in5 3 rfl rfl, tyX10_ok, nmX10⟩
set_option maxRecDepth 100000 in
theorem fl_X10_194 : ev_fl RX10 194 10 22 := ⟨(RX10, TX10, 55), rfl, by decide, lay_X10, gwl_in5 4 rfl rfl, tyX10_ok, nmX10⟩
set_option maxRecDepth 100000 in
theorem fl_X10_197 : ev_fl RX10 197 10 18 := ⟨(RX10, TX10, 55), rfl, by decide, lay_X10, gwl_in5 0 rfl rfl, tyX10_ok, nmX10⟩
set_option maxRecDepth 100000 in
theorem fl_X10_204 : ev_fl RX10 204 10 19 := ⟨(RX10, TX10, 55), rfl, by decide, lay_X10, gwl_in5 1 rfl rfl, tyX10_ok, nmX10⟩
set_option maxRecDepth 100000 in
theorem fl_X10_207 : ev_fl RX10 207 10 20 := ⟨(RX10, TX10, 55), rfl, by decide, lay_X10, gwl_in5 2 rfl rfl, tyX10_ok, nmX10⟩
set_option maxRecDepth 100000 in
theorem fl_X10_210 : ev_fl RX10 210 10 17 := ⟨(RX10, TX10, 55), rfl, by decide, lay_X10, gwl_in4 239 rfl rfl, tyX10_ok, nmX10⟩
set_option maxRecDepth 100000 in
theorem fl_X10_234 : ev_fl RX10 234 10 27 := ⟨(RX10, TX10, 55), rfl, by decide, lay_X10, gwl_in5 9 rfl rfl, tyX10_ok, nmX10⟩
set_option maxRecDepth 100000 in
theorem fl_X10_237 : ev_fl RX10 237 10 28 := ⟨(RX10, TX10, 55), rfl, by decide, lay_X10, gwl_in5 10 rfl rfl, tyX10_ok, nmX10⟩
set_option maxRecDepth 100000 in
theorem fl_X10_241 : ev_fl RX10 241 10 31 := ⟨(RX10, TX10, 55), rfl, by decide, lay_X10, gwl_in5 13 rfl rfl, tyX10_ok, nmX10⟩
set_option maxRecDepth 100000 in
theorem fl_X10_257 : ev_fl RX10 257 10 23 := ⟨(RX10, TX10, 55), rfl, by decide, lay_X10, gwl_in5 5 rfl rfl, tyX10_ok, nmX10⟩
set_option maxRecDepth 100000 in
theorem fl_X10_301 : ev_fl RX10 301 10 35 := ⟨(RX10, TX10, 55), rfl, by decide, lay_X10, gwl_in5 17 rfl rfl, tyX10_ok, nmX10⟩
set_option maxRecDepth 100000 in
theorem fl_X10_315 : ev_fl RX10 315 10 36 := ⟨(RX10, TX10, 55), rfl, by decide, lay_X10, gwl_in5 18 rfl rfl, tyX10_ok, nmX10⟩
set_option maxRecDepth 100000 in
theorem fl_X10_318 : ev_fl RX10 318 10 37 := ⟨(RX10, TX10, 55), rfl, by decide, lay_X10, gwl_in5 19 rfl rfl, tyX10_ok, nmX10⟩
set_option maxRecDepth 100000 in
theorem fl_X10_346 : ev_fl RX10 346 10 45 := ⟨(RX10, TX10, 55), rfl, by decide, lay_X10, gwl_in5 27 rfl rfl, tyX10_ok, nmX10⟩
set_option maxRecDepth 100000 in
theorem fl_X10_349 : ev_fl RX10 349 10 48 := ⟨(RX10, TX10, 55), rfl, by decide, lay_X10, gwl_in5 30 rfl rfl, tyX10_ok, nmX10⟩
set_option maxRecDepth 100000 in
theorem cl_X9_7 : ev_cl RX9 7 1 := ⟨(RX1, TX1, 5), rfl, gwl_in1 24 rfl rfl, gwl_in1 25 rfl rfl, gwl_in1 2 rfl rfl, lay_X1, tyX1_ok, dft_X1⟩
set_option maxRecDepth 100000 in
theorem cl_X9_19 : ev_cl RX9 19 8 := ⟨(RX8, TX8, 8), rfl, gwl_in1 58 rfl rfl, gwl_in1 59 rfl rfl, gwl_in1 3 rfl rfl, lay_X8, tyX8_ok, dft_X8⟩
set_option maxRecDepth 100000 in
theorem cl_X9_26 : ev_cl RX9 26 0 := ⟨(RX0, TX0, 4), rfl, gwl_in1 107 rfl rfl, gwl_in1 108 rfl rfl, gwl_in1 4 rfl rfl, lay_X0, tyX0_ok, dft_X0⟩
set_option maxRecDepth 100000 in
theorem cl_X9_33 : ev_cl RX9 33 2 := ⟨(RX2, TX2, 14), rfl, gwl_in1 130 rfl rfl, gwl_in1 131 rfl rfl, gwl_in1 5 rfl rfl, lay_X2, tyX2_ok, dft_X2⟩
set_option maxRecDepth 100000 in
theorem cl_X9_40 : ev_cl RX9 40 7 := ⟨(RX7, TX7, 3), rfl, gwl_in1 185 rfl rfl, gwl_in1 186 rfl rfl, gwl_in1 6 rfl rfl, lay_X7, tyX7_ok, dft_X7⟩
set_option maxRecDepth 100000 in
theorem cl_X9_47 : ev_cl RX9 47 4 := ⟨(RX4, TX4, 16), rfl, gwl_in1 206 rfl rfl, gwl_in1 207 rfl rfl, gwl_in1 7 rfl rfl, lay_X4, tyX4_ok, dft_X4⟩
set_option maxRecDepth 100000 in
theorem cl_X9_54 : ev_cl RX9 54 6 := ⟨(RX6, TX6, 8), rfl, gwl_in2 21 rfl rfl, gwl_in2 22 rfl rfl, gwl_in1 8 rfl rfl, lay_X6, tyX6_ok, dft_X6⟩
set_option maxRecDepth 100000 in
theorem cl_X9_61 : ev_cl RX9 61 3 := ⟨(RX3, TX3, 11), rfl, gwl_in2 52 rfl rfl, gwl_in2 53 rfl rfl, gwl_in1 9 rfl rfl, lay_X3, tyX3_ok, dft_X3⟩
set_option maxRecDepth 100000 in
theorem cl_X9_68 : ev_cl RX9 68 5 := ⟨(RX5, TX5, 3), rfl, gwl_in2 99 rfl rfl, gwl_in2 100 rfl rfl, gwl_in1 10 rfl rfl, lay_X5, tyX5_ok, dft_X5⟩
set_option maxRecDepth 100000 in
theorem ca_X0_11 : Cond.classLink RX0 11 "[[I" ∈ gwl := gwl_in1 113 rfl rfl
set_option maxRecDepth 100000 in
theorem ca_X5_9 : Cond.classLink RX5 9 "[[I" ∈ gwl := gwl_in2 105 rfl rfl
set_option maxRecDepth 100000 in
theorem ca_X7_9 : Cond.classLink RX7 9 "[[I" ∈ gwl := gwl_in1 191 rfl rfl
set_option maxRecDepth 100000 in
theorem cl_L_7 : ev_cl RL 7 9 := ⟨(RX9, TX9, 10), rfl, gwl_in1 16 rfl rfl, gwl_in1 17 rfl rfl, gwl_in1 1 rfl rfl, lay_X9, tyX9_ok, dft_X9⟩
set_option maxRecDepth 100000 in
theorem cl_L_10 : ev_cl RL 10 10 := ⟨(RX10, TX10, 55), rfl, gwl_in4 215 rfl rfl, gwl_in4 216 rfl rfl, gwl_in1 11 rfl rfl, lay_X10, tyX10_ok, dft_X10⟩
set_option maxRecDepth 100000 in
theorem ac_int : Cond.arrayClass .int ∈ gwl := gwl_in1 105 rfl rfl
set_option maxRecDepth 100000 in
theorem ac_boolean : Cond.arrayClass .boolean ∈ gwl := gwl_in1 106 rfl rfl
set_option maxRecDepth 100000 in
theorem ac_byte : Cond.arrayClass .byte ∈ gwl := gwl_in1 184 rfl rfl
set_option maxRecDepth 100000 in
theorem oi_i : Cond.instanceMethod objectInit ∈ gwl := gwl_in1 22 rfl rfl
set_option maxRecDepth 100000 in
theorem oi_c : Cond.code objectInit ⟨#[0xb1]⟩ 1 none ∈ gwl := gwl_in1 23 rfl rfl
set_option maxRecDepth 100000 in
theorem cp_n : Cond.native arraycopyName ∈ gwl := gwl_in2 162 rfl rfl
set_option maxRecDepth 100000 in
theorem cp_s : Cond.static arraycopyName ∈ gwl := gwl_in2 161 rfl rfl
set_option maxRecDepth 100000 in
theorem cp_i : Cond.initialized "java/lang/System" ∈ gwl := gwl_in1 12 rfl rfl
set_option maxRecDepth 100000 in
theorem st_J9_min_7cf53 : Cond.static mi_J9_min_7cf53.1 ∈ gwl := gwl_in2 164 rfl rfl
set_option maxRecDepth 100000 in
theorem cd_J9_min_7cf53 : Cond.code mi_J9_min_7cf53.1 (mi_C mi_J9_min_7cf53) (mi_L mi_J9_min_7cf53) (mi_R mi_J9_min_7cf53) ∈ gwl ∧ Cond.initialized mi_J9_min_7cf53.1.cls ∈ gwl ∧ mi_J9_min_7cf53.1.cls ≠ "java/lang/invoke/MethodHandle" ∧ mi_J9_min_7cf53.1.cls ≠ "java/lang/invoke/VarHandle" ∧ (parseMethodDescriptor mi_J9_min_7cf53.1.desc).map (fun d => d.parameters.length) = some 2 := ⟨gwl_in2 165 rfl rfl, gwl_in1 13 rfl rfl, by decide +kernel, by decide +kernel, by decide +kernel⟩
set_option maxRecDepth 100000 in
theorem st_J9_max_7cf53 : Cond.static mi_J9_max_7cf53.1 ∈ gwl := gwl_in2 218 rfl rfl
set_option maxRecDepth 100000 in
theorem cd_J9_max_7cf53 : Cond.code mi_J9_max_7cf53.1 (mi_C mi_J9_max_7cf53) (mi_L mi_J9_max_7cf53) (mi_R mi_J9_max_7cf53) ∈ gwl ∧ Cond.initialized mi_J9_max_7cf53.1.cls ∈ gwl ∧ mi_J9_max_7cf53.1.cls ≠ "java/lang/invoke/MethodHandle" ∧ mi_J9_max_7cf53.1.cls ≠ "java/lang/invoke/VarHandle" ∧ (parseMethodDescriptor mi_J9_max_7cf53.1.desc).map (fun d => d.parameters.length) = some 2 := ⟨gwl_in2 219 rfl rfl, gwl_in1 13 rfl rfl, by decide +kernel, by decide +kernel, by decide +kernel⟩
set_option maxRecDepth 100000 in
theorem vt_X2_readToken : Cond.instanceMethod mi_X2_readToken.1 ∈ gwl ∧ Cond.selects mi_X2_readToken.1.cls mi_X2_readToken.1 mi_X2_readToken.1 ∈ gwl := ⟨gwl_in3 67 rfl rfl, gwl_in0 0 rfl rfl⟩
set_option maxRecDepth 100000 in
theorem cd_X2_readToken : Cond.code mi_X2_readToken.1 (mi_C mi_X2_readToken) (mi_L mi_X2_readToken) (mi_R mi_X2_readToken) ∈ gwl ∧ Cond.initialized mi_X2_readToken.1.cls ∈ gwl ∧ mi_X2_readToken.1.cls ≠ "java/lang/invoke/MethodHandle" ∧ mi_X2_readToken.1.cls ≠ "java/lang/invoke/VarHandle" ∧ (parseMethodDescriptor mi_X2_readToken.1.desc).map (fun d => d.parameters.length) = some 0 := ⟨gwl_in3 68 rfl rfl, gwl_in1 5 rfl rfl, by decide +kernel, by decide +kernel, by decide +kernel⟩
set_option maxRecDepth 100000 in
theorem vt_X2_take : Cond.instanceMethod mi_X2_take.1 ∈ gwl ∧ Cond.selects mi_X2_take.1.cls mi_X2_take.1 mi_X2_take.1 ∈ gwl := ⟨gwl_in3 95 rfl rfl, gwl_in0 7 rfl rfl⟩
set_option maxRecDepth 100000 in
theorem cd_X2_take : Cond.code mi_X2_take.1 (mi_C mi_X2_take) (mi_L mi_X2_take) (mi_R mi_X2_take) ∈ gwl ∧ Cond.initialized mi_X2_take.1.cls ∈ gwl ∧ mi_X2_take.1.cls ≠ "java/lang/invoke/MethodHandle" ∧ mi_X2_take.1.cls ≠ "java/lang/invoke/VarHandle" ∧ (parseMethodDescriptor mi_X2_take.1.desc).map (fun d => d.parameters.length) = some 1 := ⟨gwl_in3 96 rfl rfl, gwl_in1 5 rfl rfl, by decide +kernel, by decide +kernel, by decide +kernel⟩
set_option maxRecDepth 100000 in
theorem vt_X2_isLetter : Cond.instanceMethod mi_X2_isLetter.1 ∈ gwl ∧ Cond.selects mi_X2_isLetter.1.cls mi_X2_isLetter.1 mi_X2_isLetter.1 ∈ gwl := ⟨gwl_in3 71 rfl rfl, gwl_in0 1 rfl rfl⟩
set_option maxRecDepth 100000 in
theorem cd_X2_isLetter : Cond.code mi_X2_isLetter.1 (mi_C mi_X2_isLetter) (mi_L mi_X2_isLetter) (mi_R mi_X2_isLetter) ∈ gwl ∧ Cond.initialized mi_X2_isLetter.1.cls ∈ gwl ∧ mi_X2_isLetter.1.cls ≠ "java/lang/invoke/MethodHandle" ∧ mi_X2_isLetter.1.cls ≠ "java/lang/invoke/VarHandle" ∧ (parseMethodDescriptor mi_X2_isLetter.1.desc).map (fun d => d.parameters.length) = some 1 := ⟨gwl_in3 72 rfl rfl, gwl_in1 5 rfl rfl, by decide +kernel, by decide +kernel, by decide +kernel⟩
set_option maxRecDepth 100000 in
theorem vt_X2_readChord : Cond.instanceMethod mi_X2_readChord.1 ∈ gwl ∧ Cond.selects mi_X2_readChord.1.cls mi_X2_readChord.1 mi_X2_readChord.1 ∈ gwl := ⟨gwl_in3 75 rfl rfl, gwl_in0 2 rfl rfl⟩
set_option maxRecDepth 100000 in
theorem cd_X2_readChord : Cond.code mi_X2_readChord.1 (mi_C mi_X2_readChord) (mi_L mi_X2_readChord) (mi_R mi_X2_readChord) ∈ gwl ∧ Cond.initialized mi_X2_readChord.1.cls ∈ gwl ∧ mi_X2_readChord.1.cls ≠ "java/lang/invoke/MethodHandle" ∧ mi_X2_readChord.1.cls ≠ "java/lang/invoke/VarHandle" ∧ (parseMethodDescriptor mi_X2_readChord.1.desc).map (fun d => d.parameters.length) = some 0 := ⟨gwl_in3 76 rfl rfl, gwl_in1 5 rfl rfl, by decide +kernel, by decide +kernel, by decide +kernel⟩
set_option maxRecDepth 100000 in
theorem vt_X2_isFigure : Cond.instanceMethod mi_X2_isFigure.1 ∈ gwl ∧ Cond.selects mi_X2_isFigure.1.cls mi_X2_isFigure.1 mi_X2_isFigure.1 ∈ gwl := ⟨gwl_in3 83 rfl rfl, gwl_in0 4 rfl rfl⟩
set_option maxRecDepth 100000 in
theorem cd_X2_isFigure : Cond.code mi_X2_isFigure.1 (mi_C mi_X2_isFigure) (mi_L mi_X2_isFigure) (mi_R mi_X2_isFigure) ∈ gwl ∧ Cond.initialized mi_X2_isFigure.1.cls ∈ gwl ∧ mi_X2_isFigure.1.cls ≠ "java/lang/invoke/MethodHandle" ∧ mi_X2_isFigure.1.cls ≠ "java/lang/invoke/VarHandle" ∧ (parseMethodDescriptor mi_X2_isFigure.1.desc).map (fun d => d.parameters.length) = some 1 := ⟨gwl_in3 84 rfl rfl, gwl_in1 5 rfl rfl, by decide +kernel, by decide +kernel, by decide +kernel⟩
set_option maxRecDepth 100000 in
theorem vt_X2_readNumber : Cond.instanceMethod mi_X2_readNumber.1 ∈ gwl ∧ Cond.selects mi_X2_readNumber.1.cls mi_X2_readNumber.1 mi_X2_readNumber.1 ∈ gwl := ⟨gwl_in3 87 rfl rfl, gwl_in0 5 rfl rfl⟩
set_option maxRecDepth 100000 in
theorem cd_X2_readNumber : Cond.code mi_X2_readNumber.1 (mi_C mi_X2_readNumber) (mi_L mi_X2_readNumber) (mi_R mi_X2_readNumber) ∈ gwl ∧ Cond.initialized mi_X2_readNumber.1.cls ∈ gwl ∧ mi_X2_readNumber.1.cls ≠ "java/lang/invoke/MethodHandle" ∧ mi_X2_readNumber.1.cls ≠ "java/lang/invoke/VarHandle" ∧ (parseMethodDescriptor mi_X2_readNumber.1.desc).map (fun d => d.parameters.length) = some 0 := ⟨gwl_in3 88 rfl rfl, gwl_in1 5 rfl rfl, by decide +kernel, by decide +kernel, by decide +kernel⟩
set_option maxRecDepth 100000 in
theorem vt_X2_readSign : Cond.instanceMethod mi_X2_readSign.1 ∈ gwl ∧ Cond.selects mi_X2_readSign.1.cls mi_X2_readSign.1 mi_X2_readSign.1 ∈ gwl := ⟨gwl_in3 91 rfl rfl, gwl_in0 6 rfl rfl⟩
set_option maxRecDepth 100000 in
theorem cd_X2_readSign : Cond.code mi_X2_readSign.1 (mi_C mi_X2_readSign) (mi_L mi_X2_readSign) (mi_R mi_X2_readSign) ∈ gwl ∧ Cond.initialized mi_X2_readSign.1.cls ∈ gwl ∧ mi_X2_readSign.1.cls ≠ "java/lang/invoke/MethodHandle" ∧ mi_X2_readSign.1.cls ≠ "java/lang/invoke/VarHandle" ∧ (parseMethodDescriptor mi_X2_readSign.1.desc).map (fun d => d.parameters.length) = some 0 := ⟨gwl_in3 92 rfl rfl, gwl_in1 5 rfl rfl, by decide +kernel, by decide +kernel, by decide +kernel⟩
set_option maxRecDepth 100000 in
theorem vt_X2_fail : Cond.instanceMethod mi_X2_fail.1 ∈ gwl ∧ Cond.selects mi_X2_fail.1.cls mi_X2_fail.1 mi_X2_fail.1 ∈ gwl := ⟨gwl_in3 79 rfl rfl, gwl_in0 3 rfl rfl⟩
set_option maxRecDepth 100000 in
theorem cd_X2_fail : Cond.code mi_X2_fail.1 (mi_C mi_X2_fail) (mi_L mi_X2_fail) (mi_R mi_X2_fail) ∈ gwl ∧ Cond.initialized mi_X2_fail.1.cls ∈ gwl ∧ mi_X2_fail.1.cls ≠ "java/lang/invoke/MethodHandle" ∧ mi_X2_fail.1.cls ≠ "java/lang/invoke/VarHandle" ∧ (parseMethodDescriptor mi_X2_fail.1.desc).map (fun d => d.parameters.length) = some 2 := ⟨gwl_in3 80 rfl rfl, gwl_in1 5 rfl rfl, by decide +kernel, by decide +kernel, by decide +kernel⟩
set_option maxRecDepth 100000 in
theorem vt_X2_takeOpen : Cond.instanceMethod mi_X2_takeOpen.1 ∈ gwl ∧ Cond.selects mi_X2_takeOpen.1.cls mi_X2_takeOpen.1 mi_X2_takeOpen.1 ∈ gwl := ⟨gwl_in3 99 rfl rfl, gwl_in0 8 rfl rfl⟩
set_option maxRecDepth 100000 in
theorem cd_X2_takeOpen : Cond.code mi_X2_takeOpen.1 (mi_C mi_X2_takeOpen) (mi_L mi_X2_takeOpen) (mi_R mi_X2_takeOpen) ∈ gwl ∧ Cond.initialized mi_X2_takeOpen.1.cls ∈ gwl ∧ mi_X2_takeOpen.1.cls ≠ "java/lang/invoke/MethodHandle" ∧ mi_X2_takeOpen.1.cls ≠ "java/lang/invoke/VarHandle" ∧ (parseMethodDescriptor mi_X2_takeOpen.1.desc).map (fun d => d.parameters.length) = some 0 := ⟨gwl_in3 100 rfl rfl, gwl_in1 5 rfl rfl, by decide +kernel, by decide +kernel, by decide +kernel⟩
set_option maxRecDepth 100000 in
theorem vt_X2_misplaced : Cond.instanceMethod mi_X2_misplaced.1 ∈ gwl ∧ Cond.selects mi_X2_misplaced.1.cls mi_X2_misplaced.1 mi_X2_misplaced.1 ∈ gwl := ⟨gwl_in3 103 rfl rfl, gwl_in0 9 rfl rfl⟩
set_option maxRecDepth 100000 in
theorem cd_X2_misplaced : Cond.code mi_X2_misplaced.1 (mi_C mi_X2_misplaced) (mi_L mi_X2_misplaced) (mi_R mi_X2_misplaced) ∈ gwl ∧ Cond.initialized mi_X2_misplaced.1.cls ∈ gwl ∧ mi_X2_misplaced.1.cls ≠ "java/lang/invoke/MethodHandle" ∧ mi_X2_misplaced.1.cls ≠ "java/lang/invoke/VarHandle" ∧ (parseMethodDescriptor mi_X2_misplaced.1.desc).map (fun d => d.parameters.length) = some 0 := ⟨gwl_in3 104 rfl rfl, gwl_in1 5 rfl rfl, by decide +kernel, by decide +kernel, by decide +kernel⟩
set_option maxRecDepth 100000 in
theorem vt_X2_takeChord : Cond.instanceMethod mi_X2_takeChord.1 ∈ gwl ∧ Cond.selects mi_X2_takeChord.1.cls mi_X2_takeChord.1 mi_X2_takeChord.1 ∈ gwl := ⟨gwl_in3 107 rfl rfl, gwl_in0 10 rfl rfl⟩
set_option maxRecDepth 100000 in
theorem cd_X2_takeChord : Cond.code mi_X2_takeChord.1 (mi_C mi_X2_takeChord) (mi_L mi_X2_takeChord) (mi_R mi_X2_takeChord) ∈ gwl ∧ Cond.initialized mi_X2_takeChord.1.cls ∈ gwl ∧ mi_X2_takeChord.1.cls ≠ "java/lang/invoke/MethodHandle" ∧ mi_X2_takeChord.1.cls ≠ "java/lang/invoke/VarHandle" ∧ (parseMethodDescriptor mi_X2_takeChord.1.desc).map (fun d => d.parameters.length) = some 0 := ⟨gwl_in3 108 rfl rfl, gwl_in1 5 rfl rfl, by decide +kernel, by decide +kernel, by decide +kernel⟩
set_option maxRecDepth 100000 in
theorem vt_X2_addBeat : Cond.instanceMethod mi_X2_addBeat.1 ∈ gwl ∧ Cond.selects mi_X2_addBeat.1.cls mi_X2_addBeat.1 mi_X2_addBeat.1 ∈ gwl := ⟨gwl_in3 111 rfl rfl, gwl_in0 11 rfl rfl⟩
set_option maxRecDepth 100000 in
theorem cd_X2_addBeat : Cond.code mi_X2_addBeat.1 (mi_C mi_X2_addBeat) (mi_L mi_X2_addBeat) (mi_R mi_X2_addBeat) ∈ gwl ∧ Cond.initialized mi_X2_addBeat.1.cls ∈ gwl ∧ mi_X2_addBeat.1.cls ≠ "java/lang/invoke/MethodHandle" ∧ mi_X2_addBeat.1.cls ≠ "java/lang/invoke/VarHandle" ∧ (parseMethodDescriptor mi_X2_addBeat.1.desc).map (fun d => d.parameters.length) = some 1 := ⟨gwl_in3 112 rfl rfl, gwl_in1 5 rfl rfl, by decide +kernel, by decide +kernel, by decide +kernel⟩
set_option maxRecDepth 100000 in
theorem vt_X2_takeNumber : Cond.instanceMethod mi_X2_takeNumber.1 ∈ gwl ∧ Cond.selects mi_X2_takeNumber.1.cls mi_X2_takeNumber.1 mi_X2_takeNumber.1 ∈ gwl := ⟨gwl_in3 116 rfl rfl, gwl_in0 12 rfl rfl⟩
set_option maxRecDepth 100000 in
theorem cd_X2_takeNumber : Cond.code mi_X2_takeNumber.1 (mi_C mi_X2_takeNumber) (mi_L mi_X2_takeNumber) (mi_R mi_X2_takeNumber) ∈ gwl ∧ Cond.initialized mi_X2_takeNumber.1.cls ∈ gwl ∧ mi_X2_takeNumber.1.cls ≠ "java/lang/invoke/MethodHandle" ∧ mi_X2_takeNumber.1.cls ≠ "java/lang/invoke/VarHandle" ∧ (parseMethodDescriptor mi_X2_takeNumber.1.desc).map (fun d => d.parameters.length) = some 0 := ⟨gwl_in3 117 rfl rfl, gwl_in1 5 rfl rfl, by decide +kernel, by decide +kernel, by decide +kernel⟩
set_option maxRecDepth 100000 in
theorem vt_X2_takeClose : Cond.instanceMethod mi_X2_takeClose.1 ∈ gwl ∧ Cond.selects mi_X2_takeClose.1.cls mi_X2_takeClose.1 mi_X2_takeClose.1 ∈ gwl := ⟨gwl_in3 121 rfl rfl, gwl_in0 13 rfl rfl⟩
set_option maxRecDepth 100000 in
theorem cd_X2_takeClose : Cond.code mi_X2_takeClose.1 (mi_C mi_X2_takeClose) (mi_L mi_X2_takeClose) (mi_R mi_X2_takeClose) ∈ gwl ∧ Cond.initialized mi_X2_takeClose.1.cls ∈ gwl ∧ mi_X2_takeClose.1.cls ≠ "java/lang/invoke/MethodHandle" ∧ mi_X2_takeClose.1.cls ≠ "java/lang/invoke/VarHandle" ∧ (parseMethodDescriptor mi_X2_takeClose.1.desc).map (fun d => d.parameters.length) = some 0 := ⟨gwl_in3 122 rfl rfl, gwl_in1 5 rfl rfl, by decide +kernel, by decide +kernel, by decide +kernel⟩
set_option maxRecDepth 100000 in
theorem vt_X2_takeEnd : Cond.instanceMethod mi_X2_takeEnd.1 ∈ gwl ∧ Cond.selects mi_X2_takeEnd.1.cls mi_X2_takeEnd.1 mi_X2_takeEnd.1 ∈ gwl := ⟨gwl_in3 125 rfl rfl, gwl_in0 14 rfl rfl⟩
set_option maxRecDepth 100000 in
theorem cd_X2_takeEnd : Cond.code mi_X2_takeEnd.1 (mi_C mi_X2_takeEnd) (mi_L mi_X2_takeEnd) (mi_R mi_X2_takeEnd) ∈ gwl ∧ Cond.initialized mi_X2_takeEnd.1.cls ∈ gwl ∧ mi_X2_takeEnd.1.cls ≠ "java/lang/invoke/MethodHandle" ∧ mi_X2_takeEnd.1.cls ≠ "java/lang/invoke/VarHandle" ∧ (parseMethodDescriptor mi_X2_takeEnd.1.desc).map (fun d => d.parameters.length) = some 0 := ⟨gwl_in3 126 rfl rfl, gwl_in1 5 rfl rfl, by decide +kernel, by decide +kernel, by decide +kernel⟩
set_option maxRecDepth 100000 in
theorem st_X9_isWithin : Cond.static mi_X9_isWithin.1 ∈ gwl := gwl_in2 154 rfl rfl
set_option maxRecDepth 100000 in
theorem cd_X9_isWithin : Cond.code mi_X9_isWithin.1 (mi_C mi_X9_isWithin) (mi_L mi_X9_isWithin) (mi_R mi_X9_isWithin) ∈ gwl ∧ Cond.initialized mi_X9_isWithin.1.cls ∈ gwl ∧ mi_X9_isWithin.1.cls ≠ "java/lang/invoke/MethodHandle" ∧ mi_X9_isWithin.1.cls ≠ "java/lang/invoke/VarHandle" ∧ (parseMethodDescriptor mi_X9_isWithin.1.desc).map (fun d => d.parameters.length) = some 3 := ⟨gwl_in2 155 rfl rfl, gwl_in1 1 rfl rfl, by decide +kernel, by decide +kernel, by decide +kernel⟩
set_option maxRecDepth 100000 in
theorem vt_X3_way : Cond.instanceMethod mi_X3_way.1 ∈ gwl ∧ Cond.selects mi_X3_way.1.cls mi_X3_way.1 mi_X3_way.1 ∈ gwl := ⟨gwl_in4 146 rfl rfl, gwl_in4 147 rfl rfl⟩
set_option maxRecDepth 100000 in
theorem cd_X3_way : Cond.code mi_X3_way.1 (mi_C mi_X3_way) (mi_L mi_X3_way) (mi_R mi_X3_way) ∈ gwl ∧ Cond.initialized mi_X3_way.1.cls ∈ gwl ∧ mi_X3_way.1.cls ≠ "java/lang/invoke/MethodHandle" ∧ mi_X3_way.1.cls ≠ "java/lang/invoke/VarHandle" ∧ (parseMethodDescriptor mi_X3_way.1.desc).map (fun d => d.parameters.length) = some 2 := ⟨gwl_in4 148 rfl rfl, gwl_in1 9 rfl rfl, by decide +kernel, by decide +kernel, by decide +kernel⟩
set_option maxRecDepth 100000 in
theorem vt_X3_firstHeard : Cond.instanceMethod mi_X3_firstHeard.1 ∈ gwl ∧ Cond.selects mi_X3_firstHeard.1.cls mi_X3_firstHeard.1 mi_X3_firstHeard.1 ∈ gwl := ⟨gwl_in4 160 rfl rfl, gwl_in4 161 rfl rfl⟩
set_option maxRecDepth 100000 in
theorem cd_X3_firstHeard : Cond.code mi_X3_firstHeard.1 (mi_C mi_X3_firstHeard) (mi_L mi_X3_firstHeard) (mi_R mi_X3_firstHeard) ∈ gwl ∧ Cond.initialized mi_X3_firstHeard.1.cls ∈ gwl ∧ mi_X3_firstHeard.1.cls ≠ "java/lang/invoke/MethodHandle" ∧ mi_X3_firstHeard.1.cls ≠ "java/lang/invoke/VarHandle" ∧ (parseMethodDescriptor mi_X3_firstHeard.1.desc).map (fun d => d.parameters.length) = some 2 := ⟨gwl_in4 162 rfl rfl, gwl_in1 9 rfl rfl, by decide +kernel, by decide +kernel, by decide +kernel⟩
set_option maxRecDepth 100000 in
theorem vt_X7_chordIn : Cond.instanceMethod mi_X7_chordIn.1 ∈ gwl ∧ Cond.selects mi_X7_chordIn.1.cls mi_X7_chordIn.1 mi_X7_chordIn.1 ∈ gwl := ⟨gwl_in3 192 rfl rfl, gwl_in3 193 rfl rfl⟩
set_option maxRecDepth 100000 in
theorem cd_X7_chordIn : Cond.code mi_X7_chordIn.1 (mi_C mi_X7_chordIn) (mi_L mi_X7_chordIn) (mi_R mi_X7_chordIn) ∈ gwl ∧ Cond.initialized mi_X7_chordIn.1.cls ∈ gwl ∧ mi_X7_chordIn.1.cls ≠ "java/lang/invoke/MethodHandle" ∧ mi_X7_chordIn.1.cls ≠ "java/lang/invoke/VarHandle" ∧ (parseMethodDescriptor mi_X7_chordIn.1.desc).map (fun d => d.parameters.length) = some 3 := ⟨gwl_in3 194 rfl rfl, gwl_in1 6 rfl rfl, by decide +kernel, by decide +kernel, by decide +kernel⟩
set_option maxRecDepth 100000 in
theorem vt_X8_drawnBy : Cond.instanceMethod mi_X8_drawnBy.1 ∈ gwl ∧ Cond.selects mi_X8_drawnBy.1.cls mi_X8_drawnBy.1 mi_X8_drawnBy.1 ∈ gwl := ⟨gwl_in2 184 rfl rfl, gwl_in2 185 rfl rfl⟩
set_option maxRecDepth 100000 in
theorem cd_X8_drawnBy : Cond.code mi_X8_drawnBy.1 (mi_C mi_X8_drawnBy) (mi_L mi_X8_drawnBy) (mi_R mi_X8_drawnBy) ∈ gwl ∧ Cond.initialized mi_X8_drawnBy.1.cls ∈ gwl ∧ mi_X8_drawnBy.1.cls ≠ "java/lang/invoke/MethodHandle" ∧ mi_X8_drawnBy.1.cls ≠ "java/lang/invoke/VarHandle" ∧ (parseMethodDescriptor mi_X8_drawnBy.1.desc).map (fun d => d.parameters.length) = some 2 := ⟨gwl_in2 186 rfl rfl, gwl_in1 3 rfl rfl, by decide +kernel, by decide +kernel, by decide +kernel⟩
set_option maxRecDepth 100000 in
theorem vt_X4_markNear : Cond.instanceMethod mi_X4_markNear.1 ∈ gwl ∧ Cond.selects mi_X4_markNear.1.cls mi_X4_markNear.1 mi_X4_markNear.1 ∈ gwl := ⟨gwl_in3 226 rfl rfl, gwl_in0 17 rfl rfl⟩
set_option maxRecDepth 100000 in
theorem cd_X4_markNear : Cond.code mi_X4_markNear.1 (mi_C mi_X4_markNear) (mi_L mi_X4_markNear) (mi_R mi_X4_markNear) ∈ gwl ∧ Cond.initialized mi_X4_markNear.1.cls ∈ gwl ∧ mi_X4_markNear.1.cls ≠ "java/lang/invoke/MethodHandle" ∧ mi_X4_markNear.1.cls ≠ "java/lang/invoke/VarHandle" ∧ (parseMethodDescriptor mi_X4_markNear.1.desc).map (fun d => d.parameters.length) = some 2 := ⟨gwl_in3 227 rfl rfl, gwl_in1 7 rfl rfl, by decide +kernel, by decide +kernel, by decide +kernel⟩
set_option maxRecDepth 100000 in
theorem st_X4_cell : Cond.static mi_X4_cell.1 ∈ gwl := gwl_in3 230 rfl rfl
set_option maxRecDepth 100000 in
theorem cd_X4_cell : Cond.code mi_X4_cell.1 (mi_C mi_X4_cell) (mi_L mi_X4_cell) (mi_R mi_X4_cell) ∈ gwl ∧ Cond.initialized mi_X4_cell.1.cls ∈ gwl ∧ mi_X4_cell.1.cls ≠ "java/lang/invoke/MethodHandle" ∧ mi_X4_cell.1.cls ≠ "java/lang/invoke/VarHandle" ∧ (parseMethodDescriptor mi_X4_cell.1.desc).map (fun d => d.parameters.length) = some 2 := ⟨gwl_in3 231 rfl rfl, gwl_in1 7 rfl rfl, by decide +kernel, by decide +kernel, by decide +kernel⟩
set_option maxRecDepth 100000 in
theorem st_J7_fill_fda19 : Cond.static mi_J7_fill_fda19.1 ∈ gwl := gwl_in3 233 rfl rfl
set_option maxRecDepth 100000 in
theorem cd_J7_fill_fda19 : Cond.code mi_J7_fill_fda19.1 (mi_C mi_J7_fill_fda19) (mi_L mi_J7_fill_fda19) (mi_R mi_J7_fill_fda19) ∈ gwl ∧ Cond.initialized mi_J7_fill_fda19.1.cls ∈ gwl ∧ mi_J7_fill_fda19.1.cls ≠ "java/lang/invoke/MethodHandle" ∧ mi_J7_fill_fda19.1.cls ≠ "java/lang/invoke/VarHandle" ∧ (parseMethodDescriptor mi_J7_fill_fda19.1.desc).map (fun d => d.parameters.length) = some 4 := ⟨gwl_in3 234 rfl rfl, gwl_in1 15 rfl rfl, by decide +kernel, by decide +kernel, by decide +kernel⟩
set_option maxRecDepth 100000 in
theorem vt_X4_listOptions : Cond.instanceMethod mi_X4_listOptions.1 ∈ gwl ∧ Cond.selects mi_X4_listOptions.1.cls mi_X4_listOptions.1 mi_X4_listOptions.1 ∈ gwl := ⟨gwl_in4 0 rfl rfl, gwl_in0 18 rfl rfl⟩
set_option maxRecDepth 100000 in
theorem cd_X4_listOptions : Cond.code mi_X4_listOptions.1 (mi_C mi_X4_listOptions) (mi_L mi_X4_listOptions) (mi_R mi_X4_listOptions) ∈ gwl ∧ Cond.initialized mi_X4_listOptions.1.cls ∈ gwl ∧ mi_X4_listOptions.1.cls ≠ "java/lang/invoke/MethodHandle" ∧ mi_X4_listOptions.1.cls ≠ "java/lang/invoke/VarHandle" ∧ (parseMethodDescriptor mi_X4_listOptions.1.desc).map (fun d => d.parameters.length) = some 2 := ⟨gwl_in4 1 rfl rfl, gwl_in1 7 rfl rfl, by decide +kernel, by decide +kernel, by decide +kernel⟩
set_option maxRecDepth 100000 in
theorem vt_X4_fillSounding : Cond.instanceMethod mi_X4_fillSounding.1 ∈ gwl ∧ Cond.selects mi_X4_fillSounding.1.cls mi_X4_fillSounding.1 mi_X4_fillSounding.1 ∈ gwl := ⟨gwl_in4 4 rfl rfl, gwl_in0 19 rfl rfl⟩
set_option maxRecDepth 100000 in
theorem cd_X4_fillSounding : Cond.code mi_X4_fillSounding.1 (mi_C mi_X4_fillSounding) (mi_L mi_X4_fillSounding) (mi_R mi_X4_fillSounding) ∈ gwl ∧ Cond.initialized mi_X4_fillSounding.1.cls ∈ gwl ∧ mi_X4_fillSounding.1.cls ≠ "java/lang/invoke/MethodHandle" ∧ mi_X4_fillSounding.1.cls ≠ "java/lang/invoke/VarHandle" ∧ (parseMethodDescriptor mi_X4_fillSounding.1.desc).map (fun d => d.parameters.length) = some 2 := ⟨gwl_in4 5 rfl rfl, gwl_in1 7 rfl rfl, by decide +kernel, by decide +kernel, by decide +kernel⟩
set_option maxRecDepth 100000 in
theorem vt_X4_fillResting : Cond.instanceMethod mi_X4_fillResting.1 ∈ gwl ∧ Cond.selects mi_X4_fillResting.1.cls mi_X4_fillResting.1 mi_X4_fillResting.1 ∈ gwl := ⟨gwl_in4 22 rfl rfl, gwl_in0 22 rfl rfl⟩
set_option maxRecDepth 100000 in
theorem cd_X4_fillResting : Cond.code mi_X4_fillResting.1 (mi_C mi_X4_fillResting) (mi_L mi_X4_fillResting) (mi_R mi_X4_fillResting) ∈ gwl ∧ Cond.initialized mi_X4_fillResting.1.cls ∈ gwl ∧ mi_X4_fillResting.1.cls ≠ "java/lang/invoke/MethodHandle" ∧ mi_X4_fillResting.1.cls ≠ "java/lang/invoke/VarHandle" ∧ (parseMethodDescriptor mi_X4_fillResting.1.desc).map (fun d => d.parameters.length) = some 2 := ⟨gwl_in4 23 rfl rfl, gwl_in1 7 rfl rfl, by decide +kernel, by decide +kernel, by decide +kernel⟩
set_option maxRecDepth 100000 in
theorem vt_X4_follow : Cond.instanceMethod mi_X4_follow.1 ∈ gwl ∧ Cond.selects mi_X4_follow.1.cls mi_X4_follow.1 mi_X4_follow.1 ∈ gwl := ⟨gwl_in4 27 rfl rfl, gwl_in0 23 rfl rfl⟩
set_option maxRecDepth 100000 in
theorem cd_X4_follow : Cond.code mi_X4_follow.1 (mi_C mi_X4_follow) (mi_L mi_X4_follow) (mi_R mi_X4_follow) ∈ gwl ∧ Cond.initialized mi_X4_follow.1.cls ∈ gwl ∧ mi_X4_follow.1.cls ≠ "java/lang/invoke/MethodHandle" ∧ mi_X4_follow.1.cls ≠ "java/lang/invoke/VarHandle" ∧ (parseMethodDescriptor mi_X4_follow.1.desc).map (fun d => d.parameters.length) = some 3 := ⟨gwl_in4 28 rfl rfl, gwl_in1 7 rfl rfl, by decide +kernel, by decide +kernel, by decide +kernel⟩
set_option maxRecDepth 100000 in
theorem vt_X8_isNear : Cond.instanceMethod mi_X8_isNear.1 ∈ gwl ∧ Cond.selects mi_X8_isNear.1.cls mi_X8_isNear.1 mi_X8_isNear.1 ∈ gwl := ⟨gwl_in3 24 rfl rfl, gwl_in3 25 rfl rfl⟩
set_option maxRecDepth 100000 in
theorem cd_X8_isNear : Cond.code mi_X8_isNear.1 (mi_C mi_X8_isNear) (mi_L mi_X8_isNear) (mi_R mi_X8_isNear) ∈ gwl ∧ Cond.initialized mi_X8_isNear.1.cls ∈ gwl ∧ mi_X8_isNear.1.cls ≠ "java/lang/invoke/MethodHandle" ∧ mi_X8_isNear.1.cls ≠ "java/lang/invoke/VarHandle" ∧ (parseMethodDescriptor mi_X8_isNear.1.desc).map (fun d => d.parameters.length) = some 3 := ⟨gwl_in3 26 rfl rfl, gwl_in1 3 rfl rfl, by decide +kernel, by decide +kernel, by decide +kernel⟩
set_option maxRecDepth 100000 in
theorem vt_X4_isOpen : Cond.instanceMethod mi_X4_isOpen.1 ∈ gwl ∧ Cond.selects mi_X4_isOpen.1.cls mi_X4_isOpen.1 mi_X4_isOpen.1 ∈ gwl := ⟨gwl_in4 8 rfl rfl, gwl_in0 20 rfl rfl⟩
set_option maxRecDepth 100000 in
theorem cd_X4_isOpen : Cond.code mi_X4_isOpen.1 (mi_C mi_X4_isOpen) (mi_L mi_X4_isOpen) (mi_R mi_X4_isOpen) ∈ gwl ∧ Cond.initialized mi_X4_isOpen.1.cls ∈ gwl ∧ mi_X4_isOpen.1.cls ≠ "java/lang/invoke/MethodHandle" ∧ mi_X4_isOpen.1.cls ≠ "java/lang/invoke/VarHandle" ∧ (parseMethodDescriptor mi_X4_isOpen.1.desc).map (fun d => d.parameters.length) = some 2 := ⟨gwl_in4 9 rfl rfl, gwl_in1 7 rfl rfl, by decide +kernel, by decide +kernel, by decide +kernel⟩
set_option maxRecDepth 100000 in
theorem st_J6_bitCount_0f7a4 : Cond.static mi_J6_bitCount_0f7a4.1 ∈ gwl := gwl_in3 149 rfl rfl
set_option maxRecDepth 100000 in
theorem cd_J6_bitCount_0f7a4 : Cond.code mi_J6_bitCount_0f7a4.1 (mi_C mi_J6_bitCount_0f7a4) (mi_L mi_J6_bitCount_0f7a4) (mi_R mi_J6_bitCount_0f7a4) ∈ gwl ∧ Cond.initialized mi_J6_bitCount_0f7a4.1.cls ∈ gwl ∧ mi_J6_bitCount_0f7a4.1.cls ≠ "java/lang/invoke/MethodHandle" ∧ mi_J6_bitCount_0f7a4.1.cls ≠ "java/lang/invoke/VarHandle" ∧ (parseMethodDescriptor mi_J6_bitCount_0f7a4.1.desc).map (fun d => d.parameters.length) = some 1 := ⟨gwl_in3 150 rfl rfl, gwl_in1 14 rfl rfl, by decide +kernel, by decide +kernel, by decide +kernel⟩
set_option maxRecDepth 100000 in
theorem vt_X1_after : Cond.instanceMethod mi_X1_after.1 ∈ gwl ∧ Cond.selects mi_X1_after.1.cls mi_X1_after.1 mi_X1_after.1 ∈ gwl := ⟨gwl_in4 12 rfl rfl, gwl_in4 13 rfl rfl⟩
set_option maxRecDepth 100000 in
theorem cd_X1_after : Cond.code mi_X1_after.1 (mi_C mi_X1_after) (mi_L mi_X1_after) (mi_R mi_X1_after) ∈ gwl ∧ Cond.initialized mi_X1_after.1.cls ∈ gwl ∧ mi_X1_after.1.cls ≠ "java/lang/invoke/MethodHandle" ∧ mi_X1_after.1.cls ≠ "java/lang/invoke/VarHandle" ∧ (parseMethodDescriptor mi_X1_after.1.desc).map (fun d => d.parameters.length) = some 2 := ⟨gwl_in4 14 rfl rfl, gwl_in1 2 rfl rfl, by decide +kernel, by decide +kernel, by decide +kernel⟩
set_option maxRecDepth 100000 in
theorem vt_X4_raise : Cond.instanceMethod mi_X4_raise.1 ∈ gwl ∧ Cond.selects mi_X4_raise.1.cls mi_X4_raise.1 mi_X4_raise.1 ∈ gwl := ⟨gwl_in4 18 rfl rfl, gwl_in0 21 rfl rfl⟩
set_option maxRecDepth 100000 in
theorem cd_X4_raise : Cond.code mi_X4_raise.1 (mi_C mi_X4_raise) (mi_L mi_X4_raise) (mi_R mi_X4_raise) ∈ gwl ∧ Cond.initialized mi_X4_raise.1.cls ∈ gwl ∧ mi_X4_raise.1.cls ≠ "java/lang/invoke/MethodHandle" ∧ mi_X4_raise.1.cls ≠ "java/lang/invoke/VarHandle" ∧ (parseMethodDescriptor mi_X4_raise.1.desc).map (fun d => d.parameters.length) = some 3 := ⟨gwl_in4 19 rfl rfl, gwl_in1 7 rfl rfl, by decide +kernel, by decide +kernel, by decide +kernel⟩
set_option maxRecDepth 100000 in
theorem vt_X4_bestOption : Cond.instanceMethod mi_X4_bestOption.1 ∈ gwl ∧ Cond.selects mi_X4_bestOption.1.cls mi_X4_bestOption.1 mi_X4_bestOption.1 ∈ gwl := ⟨gwl_in4 31 rfl rfl, gwl_in0 24 rfl rfl⟩
set_option maxRecDepth 100000 in
theorem cd_X4_bestOption : Cond.code mi_X4_bestOption.1 (mi_C mi_X4_bestOption) (mi_L mi_X4_bestOption) (mi_R mi_X4_bestOption) ∈ gwl ∧ Cond.initialized mi_X4_bestOption.1.cls ∈ gwl ∧ mi_X4_bestOption.1.cls ≠ "java/lang/invoke/MethodHandle" ∧ mi_X4_bestOption.1.cls ≠ "java/lang/invoke/VarHandle" ∧ (parseMethodDescriptor mi_X4_bestOption.1.desc).map (fun d => d.parameters.length) = some 4 := ⟨gwl_in4 32 rfl rfl, gwl_in1 7 rfl rfl, by decide +kernel, by decide +kernel, by decide +kernel⟩
set_option maxRecDepth 100000 in
theorem vt_X4_worthOf : Cond.instanceMethod mi_X4_worthOf.1 ∈ gwl ∧ Cond.selects mi_X4_worthOf.1.cls mi_X4_worthOf.1 mi_X4_worthOf.1 ∈ gwl := ⟨gwl_in4 35 rfl rfl, gwl_in0 25 rfl rfl⟩
set_option maxRecDepth 100000 in
theorem cd_X4_worthOf : Cond.code mi_X4_worthOf.1 (mi_C mi_X4_worthOf) (mi_L mi_X4_worthOf) (mi_R mi_X4_worthOf) ∈ gwl ∧ Cond.initialized mi_X4_worthOf.1.cls ∈ gwl ∧ mi_X4_worthOf.1.cls ≠ "java/lang/invoke/MethodHandle" ∧ mi_X4_worthOf.1.cls ≠ "java/lang/invoke/VarHandle" ∧ (parseMethodDescriptor mi_X4_worthOf.1.desc).map (fun d => d.parameters.length) = some 5 := ⟨gwl_in4 36 rfl rfl, gwl_in1 7 rfl rfl, by decide +kernel, by decide +kernel, by decide +kernel⟩
set_option maxRecDepth 100000 in
theorem vt_X5_isNothing : Cond.instanceMethod mi_X5_isNothing.1 ∈ gwl ∧ Cond.selects mi_X5_isNothing.1.cls mi_X5_isNothing.1 mi_X5_isNothing.1 ∈ gwl := ⟨gwl_in4 62 rfl rfl, gwl_in4 63 rfl rfl⟩
set_option maxRecDepth 100000 in
theorem cd_X5_isNothing : Cond.code mi_X5_isNothing.1 (mi_C mi_X5_isNothing) (mi_L mi_X5_isNothing) (mi_R mi_X5_isNothing) ∈ gwl ∧ Cond.initialized mi_X5_isNothing.1.cls ∈ gwl ∧ mi_X5_isNothing.1.cls ≠ "java/lang/invoke/MethodHandle" ∧ mi_X5_isNothing.1.cls ≠ "java/lang/invoke/VarHandle" ∧ (parseMethodDescriptor mi_X5_isNothing.1.desc).map (fun d => d.parameters.length) = some 1 := ⟨gwl_in4 64 rfl rfl, gwl_in1 10 rfl rfl, by decide +kernel, by decide +kernel, by decide +kernel⟩
set_option maxRecDepth 100000 in
theorem st_J7_fill_53178 : Cond.static mi_J7_fill_53178.1 ∈ gwl := gwl_in4 90 rfl rfl
set_option maxRecDepth 100000 in
theorem cd_J7_fill_53178 : Cond.code mi_J7_fill_53178.1 (mi_C mi_J7_fill_53178) (mi_L mi_J7_fill_53178) (mi_R mi_J7_fill_53178) ∈ gwl ∧ Cond.initialized mi_J7_fill_53178.1.cls ∈ gwl ∧ mi_J7_fill_53178.1.cls ≠ "java/lang/invoke/MethodHandle" ∧ mi_J7_fill_53178.1.cls ≠ "java/lang/invoke/VarHandle" ∧ (parseMethodDescriptor mi_J7_fill_53178.1.desc).map (fun d => d.parameters.length) = some 2 := ⟨gwl_in4 91 rfl rfl, gwl_in1 15 rfl rfl, by decide +kernel, by decide +kernel, by decide +kernel⟩
set_option maxRecDepth 100000 in
theorem vt_X6_explains : Cond.instanceMethod mi_X6_explains.1 ∈ gwl ∧ Cond.selects mi_X6_explains.1.cls mi_X6_explains.1 mi_X6_explains.1 ∈ gwl := ⟨gwl_in4 87 rfl rfl, gwl_in0 27 rfl rfl⟩
set_option maxRecDepth 100000 in
theorem cd_X6_explains : Cond.code mi_X6_explains.1 (mi_C mi_X6_explains) (mi_L mi_X6_explains) (mi_R mi_X6_explains) ∈ gwl ∧ Cond.initialized mi_X6_explains.1.cls ∈ gwl ∧ mi_X6_explains.1.cls ≠ "java/lang/invoke/MethodHandle" ∧ mi_X6_explains.1.cls ≠ "java/lang/invoke/VarHandle" ∧ (parseMethodDescriptor mi_X6_explains.1.desc).map (fun d => d.parameters.length) = some 4 := ⟨gwl_in4 88 rfl rfl, gwl_in1 8 rfl rfl, by decide +kernel, by decide +kernel, by decide +kernel⟩
set_option maxRecDepth 100000 in
theorem vt_X6_triedCracks : Cond.instanceMethod mi_X6_triedCracks.1 ∈ gwl ∧ Cond.selects mi_X6_triedCracks.1.cls mi_X6_triedCracks.1 mi_X6_triedCracks.1 ∈ gwl := ⟨gwl_in4 103 rfl rfl, gwl_in0 29 rfl rfl⟩
set_option maxRecDepth 100000 in
theorem cd_X6_triedCracks : Cond.code mi_X6_triedCracks.1 (mi_C mi_X6_triedCracks) (mi_L mi_X6_triedCracks) (mi_R mi_X6_triedCracks) ∈ gwl ∧ Cond.initialized mi_X6_triedCracks.1.cls ∈ gwl ∧ mi_X6_triedCracks.1.cls ≠ "java/lang/invoke/MethodHandle" ∧ mi_X6_triedCracks.1.cls ≠ "java/lang/invoke/VarHandle" ∧ (parseMethodDescriptor mi_X6_triedCracks.1.desc).map (fun d => d.parameters.length) = some 0 := ⟨gwl_in4 104 rfl rfl, gwl_in1 8 rfl rfl, by decide +kernel, by decide +kernel, by decide +kernel⟩
set_option maxRecDepth 100000 in
theorem st_X9_leastOf : Cond.static mi_X9_leastOf.1 ∈ gwl := gwl_in3 159 rfl rfl
set_option maxRecDepth 100000 in
theorem cd_X9_leastOf : Cond.code mi_X9_leastOf.1 (mi_C mi_X9_leastOf) (mi_L mi_X9_leastOf) (mi_R mi_X9_leastOf) ∈ gwl ∧ Cond.initialized mi_X9_leastOf.1.cls ∈ gwl ∧ mi_X9_leastOf.1.cls ≠ "java/lang/invoke/MethodHandle" ∧ mi_X9_leastOf.1.cls ≠ "java/lang/invoke/VarHandle" ∧ (parseMethodDescriptor mi_X9_leastOf.1.desc).map (fun d => d.parameters.length) = some 1 := ⟨gwl_in3 160 rfl rfl, gwl_in1 1 rfl rfl, by decide +kernel, by decide +kernel, by decide +kernel⟩
set_option maxRecDepth 100000 in
theorem vt_X6_agrees : Cond.instanceMethod mi_X6_agrees.1 ∈ gwl ∧ Cond.selects mi_X6_agrees.1.cls mi_X6_agrees.1 mi_X6_agrees.1 ∈ gwl := ⟨gwl_in4 95 rfl rfl, gwl_in0 28 rfl rfl⟩
set_option maxRecDepth 100000 in
theorem cd_X6_agrees : Cond.code mi_X6_agrees.1 (mi_C mi_X6_agrees) (mi_L mi_X6_agrees) (mi_R mi_X6_agrees) ∈ gwl ∧ Cond.initialized mi_X6_agrees.1.cls ∈ gwl ∧ mi_X6_agrees.1.cls ≠ "java/lang/invoke/MethodHandle" ∧ mi_X6_agrees.1.cls ≠ "java/lang/invoke/VarHandle" ∧ (parseMethodDescriptor mi_X6_agrees.1.desc).map (fun d => d.parameters.length) = some 4 := ⟨gwl_in4 96 rfl rfl, gwl_in1 8 rfl rfl, by decide +kernel, by decide +kernel, by decide +kernel⟩
set_option maxRecDepth 100000 in
theorem vt_X8_bentAt : Cond.instanceMethod mi_X8_bentAt.1 ∈ gwl ∧ Cond.selects mi_X8_bentAt.1.cls mi_X8_bentAt.1 mi_X8_bentAt.1 ∈ gwl := ⟨gwl_in2 208 rfl rfl, gwl_in2 209 rfl rfl⟩
set_option maxRecDepth 100000 in
theorem cd_X8_bentAt : Cond.code mi_X8_bentAt.1 (mi_C mi_X8_bentAt) (mi_L mi_X8_bentAt) (mi_R mi_X8_bentAt) ∈ gwl ∧ Cond.initialized mi_X8_bentAt.1.cls ∈ gwl ∧ mi_X8_bentAt.1.cls ≠ "java/lang/invoke/MethodHandle" ∧ mi_X8_bentAt.1.cls ≠ "java/lang/invoke/VarHandle" ∧ (parseMethodDescriptor mi_X8_bentAt.1.desc).map (fun d => d.parameters.length) = some 2 := ⟨gwl_in2 210 rfl rfl, gwl_in1 3 rfl rfl, by decide +kernel, by decide +kernel, by decide +kernel⟩
set_option maxRecDepth 100000 in
theorem vt_X6_crackedBits : Cond.instanceMethod mi_X6_crackedBits.1 ∈ gwl ∧ Cond.selects mi_X6_crackedBits.1.cls mi_X6_crackedBits.1 mi_X6_crackedBits.1 ∈ gwl := ⟨gwl_in4 112 rfl rfl, gwl_in0 30 rfl rfl⟩
set_option maxRecDepth 100000 in
theorem cd_X6_crackedBits : Cond.code mi_X6_crackedBits.1 (mi_C mi_X6_crackedBits) (mi_L mi_X6_crackedBits) (mi_R mi_X6_crackedBits) ∈ gwl ∧ Cond.initialized mi_X6_crackedBits.1.cls ∈ gwl ∧ mi_X6_crackedBits.1.cls ≠ "java/lang/invoke/MethodHandle" ∧ mi_X6_crackedBits.1.cls ≠ "java/lang/invoke/VarHandle" ∧ (parseMethodDescriptor mi_X6_crackedBits.1.desc).map (fun d => d.parameters.length) = some 0 := ⟨gwl_in4 113 rfl rfl, gwl_in1 8 rfl rfl, by decide +kernel, by decide +kernel, by decide +kernel⟩
set_option maxRecDepth 100000 in
theorem vt_X7_whistlesOf : Cond.instanceMethod mi_X7_whistlesOf.1 ∈ gwl ∧ Cond.selects mi_X7_whistlesOf.1.cls mi_X7_whistlesOf.1 mi_X7_whistlesOf.1 ∈ gwl := ⟨gwl_in3 155 rfl rfl, gwl_in3 156 rfl rfl⟩
set_option maxRecDepth 100000 in
theorem cd_X7_whistlesOf : Cond.code mi_X7_whistlesOf.1 (mi_C mi_X7_whistlesOf) (mi_L mi_X7_whistlesOf) (mi_R mi_X7_whistlesOf) ∈ gwl ∧ Cond.initialized mi_X7_whistlesOf.1.cls ∈ gwl ∧ mi_X7_whistlesOf.1.cls ≠ "java/lang/invoke/MethodHandle" ∧ mi_X7_whistlesOf.1.cls ≠ "java/lang/invoke/VarHandle" ∧ (parseMethodDescriptor mi_X7_whistlesOf.1.desc).map (fun d => d.parameters.length) = some 1 := ⟨gwl_in3 157 rfl rfl, gwl_in1 6 rfl rfl, by decide +kernel, by decide +kernel, by decide +kernel⟩
set_option maxRecDepth 100000 in
theorem st_X9_greatestOf : Cond.static mi_X9_greatestOf.1 ∈ gwl := gwl_in3 163 rfl rfl
set_option maxRecDepth 100000 in
theorem cd_X9_greatestOf : Cond.code mi_X9_greatestOf.1 (mi_C mi_X9_greatestOf) (mi_L mi_X9_greatestOf) (mi_R mi_X9_greatestOf) ∈ gwl ∧ Cond.initialized mi_X9_greatestOf.1.cls ∈ gwl ∧ mi_X9_greatestOf.1.cls ≠ "java/lang/invoke/MethodHandle" ∧ mi_X9_greatestOf.1.cls ≠ "java/lang/invoke/VarHandle" ∧ (parseMethodDescriptor mi_X9_greatestOf.1.desc).map (fun d => d.parameters.length) = some 1 := ⟨gwl_in3 164 rfl rfl, gwl_in1 1 rfl rfl, by decide +kernel, by decide +kernel, by decide +kernel⟩
set_option maxRecDepth 100000 in
theorem vt_X8_all : Cond.instanceMethod mi_X8_all.1 ∈ gwl ∧ Cond.selects mi_X8_all.1.cls mi_X8_all.1 mi_X8_all.1 ∈ gwl := ⟨gwl_in2 196 rfl rfl, gwl_in2 197 rfl rfl⟩
set_option maxRecDepth 100000 in
theorem cd_X8_all : Cond.code mi_X8_all.1 (mi_C mi_X8_all) (mi_L mi_X8_all) (mi_R mi_X8_all) ∈ gwl ∧ Cond.initialized mi_X8_all.1.cls ∈ gwl ∧ mi_X8_all.1.cls ≠ "java/lang/invoke/MethodHandle" ∧ mi_X8_all.1.cls ≠ "java/lang/invoke/VarHandle" ∧ (parseMethodDescriptor mi_X8_all.1.desc).map (fun d => d.parameters.length) = some 0 := ⟨gwl_in2 198 rfl rfl, gwl_in1 3 rfl rfl, by decide +kernel, by decide +kernel, by decide +kernel⟩
set_option maxRecDepth 100000 in
theorem st_J9_floorDiv_7cf53 : Cond.static mi_J9_floorDiv_7cf53.1 ∈ gwl := gwl_in2 212 rfl rfl
set_option maxRecDepth 100000 in
theorem cd_J9_floorDiv_7cf53 : Cond.code mi_J9_floorDiv_7cf53.1 (mi_C mi_J9_floorDiv_7cf53) (mi_L mi_J9_floorDiv_7cf53) (mi_R mi_J9_floorDiv_7cf53) ∈ gwl ∧ Cond.initialized mi_J9_floorDiv_7cf53.1.cls ∈ gwl ∧ mi_J9_floorDiv_7cf53.1.cls ≠ "java/lang/invoke/MethodHandle" ∧ mi_J9_floorDiv_7cf53.1.cls ≠ "java/lang/invoke/VarHandle" ∧ (parseMethodDescriptor mi_J9_floorDiv_7cf53.1.desc).map (fun d => d.parameters.length) = some 2 := ⟨gwl_in2 213 rfl rfl, gwl_in1 13 rfl rfl, by decide +kernel, by decide +kernel, by decide +kernel⟩
set_option maxRecDepth 100000 in
theorem vt_X8_offAt : Cond.instanceMethod mi_X8_offAt.1 ∈ gwl ∧ Cond.selects mi_X8_offAt.1.cls mi_X8_offAt.1 mi_X8_offAt.1 ∈ gwl := ⟨gwl_in2 204 rfl rfl, gwl_in2 205 rfl rfl⟩
set_option maxRecDepth 100000 in
theorem cd_X8_offAt : Cond.code mi_X8_offAt.1 (mi_C mi_X8_offAt) (mi_L mi_X8_offAt) (mi_R mi_X8_offAt) ∈ gwl ∧ Cond.initialized mi_X8_offAt.1.cls ∈ gwl ∧ mi_X8_offAt.1.cls ≠ "java/lang/invoke/MethodHandle" ∧ mi_X8_offAt.1.cls ≠ "java/lang/invoke/VarHandle" ∧ (parseMethodDescriptor mi_X8_offAt.1.desc).map (fun d => d.parameters.length) = some 2 := ⟨gwl_in2 206 rfl rfl, gwl_in1 3 rfl rfl, by decide +kernel, by decide +kernel, by decide +kernel⟩
set_option maxRecDepth 100000 in
theorem st_J9_abs_0f7a4 : Cond.static mi_J9_abs_0f7a4.1 ∈ gwl := gwl_in2 215 rfl rfl
set_option maxRecDepth 100000 in
theorem cd_J9_abs_0f7a4 : Cond.code mi_J9_abs_0f7a4.1 (mi_C mi_J9_abs_0f7a4) (mi_L mi_J9_abs_0f7a4) (mi_R mi_J9_abs_0f7a4) ∈ gwl ∧ Cond.initialized mi_J9_abs_0f7a4.1.cls ∈ gwl ∧ mi_J9_abs_0f7a4.1.cls ≠ "java/lang/invoke/MethodHandle" ∧ mi_J9_abs_0f7a4.1.cls ≠ "java/lang/invoke/VarHandle" ∧ (parseMethodDescriptor mi_J9_abs_0f7a4.1.desc).map (fun d => d.parameters.length) = some 1 := ⟨gwl_in2 216 rfl rfl, gwl_in1 13 rfl rfl, by decide +kernel, by decide +kernel, by decide +kernel⟩
set_option maxRecDepth 100000 in
theorem in_X1_init : Cond.instanceMethod mi_X1_init.1 ∈ gwl ∧ mi_X1_init.1.name = "<init>" ∧ mi_R mi_X1_init = none := ⟨gwl_in1 27 rfl rfl, rfl, rfl⟩
set_option maxRecDepth 100000 in
theorem cd_X1_init : Cond.code mi_X1_init.1 (mi_C mi_X1_init) (mi_L mi_X1_init) (mi_R mi_X1_init) ∈ gwl ∧ Cond.initialized mi_X1_init.1.cls ∈ gwl ∧ mi_X1_init.1.cls ≠ "java/lang/invoke/MethodHandle" ∧ mi_X1_init.1.cls ≠ "java/lang/invoke/VarHandle" ∧ (parseMethodDescriptor mi_X1_init.1.desc).map (fun d => d.parameters.length) = some 0 := ⟨gwl_in1 28 rfl rfl, gwl_in1 2 rfl rfl, by decide +kernel, by decide +kernel, by decide +kernel⟩
set_option maxRecDepth 100000 in
theorem in_X8_init : Cond.instanceMethod mi_X8_init.1 ∈ gwl ∧ mi_X8_init.1.name = "<init>" ∧ mi_R mi_X8_init = none := ⟨gwl_in1 61 rfl rfl, rfl, rfl⟩
set_option maxRecDepth 100000 in
theorem cd_X8_init : Cond.code mi_X8_init.1 (mi_C mi_X8_init) (mi_L mi_X8_init) (mi_R mi_X8_init) ∈ gwl ∧ Cond.initialized mi_X8_init.1.cls ∈ gwl ∧ mi_X8_init.1.cls ≠ "java/lang/invoke/MethodHandle" ∧ mi_X8_init.1.cls ≠ "java/lang/invoke/VarHandle" ∧ (parseMethodDescriptor mi_X8_init.1.desc).map (fun d => d.parameters.length) = some 0 := ⟨gwl_in1 62 rfl rfl, gwl_in1 3 rfl rfl, by decide +kernel, by decide +kernel, by decide +kernel⟩
set_option maxRecDepth 100000 in
theorem in_X0_init : Cond.instanceMethod mi_X0_init.1 ∈ gwl ∧ mi_X0_init.1.name = "<init>" ∧ mi_R mi_X0_init = none := ⟨gwl_in1 110 rfl rfl, rfl, rfl⟩
set_option maxRecDepth 100000 in
theorem cd_X0_init : Cond.code mi_X0_init.1 (mi_C mi_X0_init) (mi_L mi_X0_init) (mi_R mi_X0_init) ∈ gwl ∧ Cond.initialized mi_X0_init.1.cls ∈ gwl ∧ mi_X0_init.1.cls ≠ "java/lang/invoke/MethodHandle" ∧ mi_X0_init.1.cls ≠ "java/lang/invoke/VarHandle" ∧ (parseMethodDescriptor mi_X0_init.1.desc).map (fun d => d.parameters.length) = some 0 := ⟨gwl_in1 111 rfl rfl, gwl_in1 4 rfl rfl, by decide +kernel, by decide +kernel, by decide +kernel⟩
set_option maxRecDepth 100000 in
theorem in_X2_init : Cond.instanceMethod mi_X2_init.1 ∈ gwl ∧ mi_X2_init.1.name = "<init>" ∧ mi_R mi_X2_init = none := ⟨gwl_in1 133 rfl rfl, rfl, rfl⟩
set_option maxRecDepth 100000 in
theorem cd_X2_init : Cond.code mi_X2_init.1 (mi_C mi_X2_init) (mi_L mi_X2_init) (mi_R mi_X2_init) ∈ gwl ∧ Cond.initialized mi_X2_init.1.cls ∈ gwl ∧ mi_X2_init.1.cls ≠ "java/lang/invoke/MethodHandle" ∧ mi_X2_init.1.cls ≠ "java/lang/invoke/VarHandle" ∧ (parseMethodDescriptor mi_X2_init.1.desc).map (fun d => d.parameters.length) = some 0 := ⟨gwl_in1 134 rfl rfl, gwl_in1 5 rfl rfl, by decide +kernel, by decide +kernel, by decide +kernel⟩
set_option maxRecDepth 100000 in
theorem in_X7_init : Cond.instanceMethod mi_X7_init.1 ∈ gwl ∧ mi_X7_init.1.name = "<init>" ∧ mi_R mi_X7_init = none := ⟨gwl_in1 188 rfl rfl, rfl, rfl⟩
set_option maxRecDepth 100000 in
theorem cd_X7_init : Cond.code mi_X7_init.1 (mi_C mi_X7_init) (mi_L mi_X7_init) (mi_R mi_X7_init) ∈ gwl ∧ Cond.initialized mi_X7_init.1.cls ∈ gwl ∧ mi_X7_init.1.cls ≠ "java/lang/invoke/MethodHandle" ∧ mi_X7_init.1.cls ≠ "java/lang/invoke/VarHandle" ∧ (parseMethodDescriptor mi_X7_init.1.desc).map (fun d => d.parameters.length) = some 0 := ⟨gwl_in1 189 rfl rfl, gwl_in1 6 rfl rfl, by decide +kernel, by decide +kernel, by decide +kernel⟩
set_option maxRecDepth 100000 in
theorem in_X4_init : Cond.instanceMethod mi_X4_init.1 ∈ gwl ∧ mi_X4_init.1.name = "<init>" ∧ mi_R mi_X4_init = none := ⟨gwl_in1 209 rfl rfl, rfl, rfl⟩
set_option maxRecDepth 100000 in
theorem cd_X4_init : Cond.code mi_X4_init.1 (mi_C mi_X4_init) (mi_L mi_X4_init) (mi_R mi_X4_init) ∈ gwl ∧ Cond.initialized mi_X4_init.1.cls ∈ gwl ∧ mi_X4_init.1.cls ≠ "java/lang/invoke/MethodHandle" ∧ mi_X4_init.1.cls ≠ "java/lang/invoke/VarHandle" ∧ (parseMethodDescriptor mi_X4_init.1.desc).map (fun d => d.parameters.length) = some 0 := ⟨gwl_in1 210 rfl rfl, gwl_in1 7 rfl rfl, by decide +kernel, by decide +kernel, by decide +kernel⟩
set_option maxRecDepth 100000 in
theorem in_X6_init : Cond.instanceMethod mi_X6_init.1 ∈ gwl ∧ mi_X6_init.1.name = "<init>" ∧ mi_R mi_X6_init = none := ⟨gwl_in2 24 rfl rfl, rfl, rfl⟩
set_option maxRecDepth 100000 in
theorem cd_X6_init : Cond.code mi_X6_init.1 (mi_C mi_X6_init) (mi_L mi_X6_init) (mi_R mi_X6_init) ∈ gwl ∧ Cond.initialized mi_X6_init.1.cls ∈ gwl ∧ mi_X6_init.1.cls ≠ "java/lang/invoke/MethodHandle" ∧ mi_X6_init.1.cls ≠ "java/lang/invoke/VarHandle" ∧ (parseMethodDescriptor mi_X6_init.1.desc).map (fun d => d.parameters.length) = some 0 := ⟨gwl_in2 25 rfl rfl, gwl_in1 8 rfl rfl, by decide +kernel, by decide +kernel, by decide +kernel⟩
set_option maxRecDepth 100000 in
theorem in_X3_init : Cond.instanceMethod mi_X3_init.1 ∈ gwl ∧ mi_X3_init.1.name = "<init>" ∧ mi_R mi_X3_init = none := ⟨gwl_in2 55 rfl rfl, rfl, rfl⟩
set_option maxRecDepth 100000 in
theorem cd_X3_init : Cond.code mi_X3_init.1 (mi_C mi_X3_init) (mi_L mi_X3_init) (mi_R mi_X3_init) ∈ gwl ∧ Cond.initialized mi_X3_init.1.cls ∈ gwl ∧ mi_X3_init.1.cls ≠ "java/lang/invoke/MethodHandle" ∧ mi_X3_init.1.cls ≠ "java/lang/invoke/VarHandle" ∧ (parseMethodDescriptor mi_X3_init.1.desc).map (fun d => d.parameters.length) = some 0 := ⟨gwl_in2 56 rfl rfl, gwl_in1 9 rfl rfl, by decide +kernel, by decide +kernel, by decide +kernel⟩
set_option maxRecDepth 100000 in
theorem in_X5_init : Cond.instanceMethod mi_X5_init.1 ∈ gwl ∧ mi_X5_init.1.name = "<init>" ∧ mi_R mi_X5_init = none := ⟨gwl_in2 102 rfl rfl, rfl, rfl⟩
set_option maxRecDepth 100000 in
theorem cd_X5_init : Cond.code mi_X5_init.1 (mi_C mi_X5_init) (mi_L mi_X5_init) (mi_R mi_X5_init) ∈ gwl ∧ Cond.initialized mi_X5_init.1.cls ∈ gwl ∧ mi_X5_init.1.cls ≠ "java/lang/invoke/MethodHandle" ∧ mi_X5_init.1.cls ≠ "java/lang/invoke/VarHandle" ∧ (parseMethodDescriptor mi_X5_init.1.desc).map (fun d => d.parameters.length) = some 0 := ⟨gwl_in2 103 rfl rfl, gwl_in1 10 rfl rfl, by decide +kernel, by decide +kernel, by decide +kernel⟩
set_option maxRecDepth 100000 in
theorem vt_X0_keep : Cond.instanceMethod mi_X0_keep.1 ∈ gwl ∧ Cond.selects mi_X0_keep.1.cls mi_X0_keep.1 mi_X0_keep.1 ∈ gwl := ⟨gwl_in2 157 rfl rfl, gwl_in2 158 rfl rfl⟩
set_option maxRecDepth 100000 in
theorem cd_X0_keep : Cond.code mi_X0_keep.1 (mi_C mi_X0_keep) (mi_L mi_X0_keep) (mi_R mi_X0_keep) ∈ gwl ∧ Cond.initialized mi_X0_keep.1.cls ∈ gwl ∧ mi_X0_keep.1.cls ≠ "java/lang/invoke/MethodHandle" ∧ mi_X0_keep.1.cls ≠ "java/lang/invoke/VarHandle" ∧ (parseMethodDescriptor mi_X0_keep.1.desc).map (fun d => d.parameters.length) = some 2 := ⟨gwl_in2 159 rfl rfl, gwl_in1 4 rfl rfl, by decide +kernel, by decide +kernel, by decide +kernel⟩
set_option maxRecDepth 100000 in
theorem vt_X8_hasAll : Cond.instanceMethod mi_X8_hasAll.1 ∈ gwl ∧ Cond.selects mi_X8_hasAll.1.cls mi_X8_hasAll.1 mi_X8_hasAll.1 ∈ gwl := ⟨gwl_in2 192 rfl rfl, gwl_in2 193 rfl rfl⟩
set_option maxRecDepth 100000 in
theorem cd_X8_hasAll : Cond.code mi_X8_hasAll.1 (mi_C mi_X8_hasAll) (mi_L mi_X8_hasAll) (mi_R mi_X8_hasAll) ∈ gwl ∧ Cond.initialized mi_X8_hasAll.1.cls ∈ gwl ∧ mi_X8_hasAll.1.cls ≠ "java/lang/invoke/MethodHandle" ∧ mi_X8_hasAll.1.cls ≠ "java/lang/invoke/VarHandle" ∧ (parseMethodDescriptor mi_X8_hasAll.1.desc).map (fun d => d.parameters.length) = some 1 := ⟨gwl_in2 194 rfl rfl, gwl_in1 3 rfl rfl, by decide +kernel, by decide +kernel, by decide +kernel⟩
set_option maxRecDepth 100000 in
theorem vt_X8_strayOf : Cond.instanceMethod mi_X8_strayOf.1 ∈ gwl ∧ Cond.selects mi_X8_strayOf.1.cls mi_X8_strayOf.1 mi_X8_strayOf.1 ∈ gwl := ⟨gwl_in2 200 rfl rfl, gwl_in2 201 rfl rfl⟩
set_option maxRecDepth 100000 in
theorem cd_X8_strayOf : Cond.code mi_X8_strayOf.1 (mi_C mi_X8_strayOf) (mi_L mi_X8_strayOf) (mi_R mi_X8_strayOf) ∈ gwl ∧ Cond.initialized mi_X8_strayOf.1.cls ∈ gwl ∧ mi_X8_strayOf.1.cls ≠ "java/lang/invoke/MethodHandle" ∧ mi_X8_strayOf.1.cls ≠ "java/lang/invoke/VarHandle" ∧ (parseMethodDescriptor mi_X8_strayOf.1.desc).map (fun d => d.parameters.length) = some 2 := ⟨gwl_in2 202 rfl rfl, gwl_in1 3 rfl rfl, by decide +kernel, by decide +kernel, by decide +kernel⟩
set_option maxRecDepth 100000 in
theorem vt_X1_pass : Cond.instanceMethod mi_X1_pass.1 ∈ gwl ∧ Cond.selects mi_X1_pass.1.cls mi_X1_pass.1 mi_X1_pass.1 ∈ gwl := ⟨gwl_in2 221 rfl rfl, gwl_in2 222 rfl rfl⟩
set_option maxRecDepth 100000 in
theorem cd_X1_pass : Cond.code mi_X1_pass.1 (mi_C mi_X1_pass) (mi_L mi_X1_pass) (mi_R mi_X1_pass) ∈ gwl ∧ Cond.initialized mi_X1_pass.1.cls ∈ gwl ∧ mi_X1_pass.1.cls ≠ "java/lang/invoke/MethodHandle" ∧ mi_X1_pass.1.cls ≠ "java/lang/invoke/VarHandle" ∧ (parseMethodDescriptor mi_X1_pass.1.desc).map (fun d => d.parameters.length) = some 1 := ⟨gwl_in2 223 rfl rfl, gwl_in1 2 rfl rfl, by decide +kernel, by decide +kernel, by decide +kernel⟩
set_option maxRecDepth 100000 in
theorem vt_X8_add : Cond.instanceMethod mi_X8_add.1 ∈ gwl ∧ Cond.selects mi_X8_add.1.cls mi_X8_add.1 mi_X8_add.1 ∈ gwl := ⟨gwl_in2 230 rfl rfl, gwl_in2 231 rfl rfl⟩
set_option maxRecDepth 100000 in
theorem cd_X8_add : Cond.code mi_X8_add.1 (mi_C mi_X8_add) (mi_L mi_X8_add) (mi_R mi_X8_add) ∈ gwl ∧ Cond.initialized mi_X8_add.1.cls ∈ gwl ∧ mi_X8_add.1.cls ≠ "java/lang/invoke/MethodHandle" ∧ mi_X8_add.1.cls ≠ "java/lang/invoke/VarHandle" ∧ (parseMethodDescriptor mi_X8_add.1.desc).map (fun d => d.parameters.length) = some 4 := ⟨gwl_in2 232 rfl rfl, gwl_in1 3 rfl rfl, by decide +kernel, by decide +kernel, by decide +kernel⟩
set_option maxRecDepth 100000 in
theorem vt_X8_has : Cond.instanceMethod mi_X8_has.1 ∈ gwl ∧ Cond.selects mi_X8_has.1.cls mi_X8_has.1 mi_X8_has.1 ∈ gwl := ⟨gwl_in2 239 rfl rfl, gwl_in3 0 rfl rfl⟩
set_option maxRecDepth 100000 in
theorem cd_X8_has : Cond.code mi_X8_has.1 (mi_C mi_X8_has) (mi_L mi_X8_has) (mi_R mi_X8_has) ∈ gwl ∧ Cond.initialized mi_X8_has.1.cls ∈ gwl ∧ mi_X8_has.1.cls ≠ "java/lang/invoke/MethodHandle" ∧ mi_X8_has.1.cls ≠ "java/lang/invoke/VarHandle" ∧ (parseMethodDescriptor mi_X8_has.1.desc).map (fun d => d.parameters.length) = some 1 := ⟨gwl_in3 1 rfl rfl, gwl_in1 3 rfl rfl, by decide +kernel, by decide +kernel, by decide +kernel⟩
set_option maxRecDepth 100000 in
theorem vt_X8_bringNear : Cond.instanceMethod mi_X8_bringNear.1 ∈ gwl ∧ Cond.selects mi_X8_bringNear.1.cls mi_X8_bringNear.1 mi_X8_bringNear.1 ∈ gwl := ⟨gwl_in3 32 rfl rfl, gwl_in3 33 rfl rfl⟩
set_option maxRecDepth 100000 in
theorem cd_X8_bringNear : Cond.code mi_X8_bringNear.1 (mi_C mi_X8_bringNear) (mi_L mi_X8_bringNear) (mi_R mi_X8_bringNear) ∈ gwl ∧ Cond.initialized mi_X8_bringNear.1.cls ∈ gwl ∧ mi_X8_bringNear.1.cls ≠ "java/lang/invoke/MethodHandle" ∧ mi_X8_bringNear.1.cls ≠ "java/lang/invoke/VarHandle" ∧ (parseMethodDescriptor mi_X8_bringNear.1.desc).map (fun d => d.parameters.length) = some 1 := ⟨gwl_in3 34 rfl rfl, gwl_in1 3 rfl rfl, by decide +kernel, by decide +kernel, by decide +kernel⟩
set_option maxRecDepth 100000 in
theorem vt_X8_exactAt : Cond.instanceMethod mi_X8_exactAt.1 ∈ gwl ∧ Cond.selects mi_X8_exactAt.1.cls mi_X8_exactAt.1 mi_X8_exactAt.1 ∈ gwl := ⟨gwl_in3 37 rfl rfl, gwl_in3 38 rfl rfl⟩
set_option maxRecDepth 100000 in
theorem cd_X8_exactAt : Cond.code mi_X8_exactAt.1 (mi_C mi_X8_exactAt) (mi_L mi_X8_exactAt) (mi_R mi_X8_exactAt) ∈ gwl ∧ Cond.initialized mi_X8_exactAt.1.cls ∈ gwl ∧ mi_X8_exactAt.1.cls ≠ "java/lang/invoke/MethodHandle" ∧ mi_X8_exactAt.1.cls ≠ "java/lang/invoke/VarHandle" ∧ (parseMethodDescriptor mi_X8_exactAt.1.desc).map (fun d => d.parameters.length) = some 1 := ⟨gwl_in3 39 rfl rfl, gwl_in1 3 rfl rfl, by decide +kernel, by decide +kernel, by decide +kernel⟩
set_option maxRecDepth 100000 in
theorem vt_X2_append : Cond.instanceMethod mi_X2_append.1 ∈ gwl ∧ Cond.selects mi_X2_append.1.cls mi_X2_append.1 mi_X2_append.1 ∈ gwl := ⟨gwl_in3 50 rfl rfl, gwl_in3 51 rfl rfl⟩
set_option maxRecDepth 100000 in
theorem cd_X2_append : Cond.code mi_X2_append.1 (mi_C mi_X2_append) (mi_L mi_X2_append) (mi_R mi_X2_append) ∈ gwl ∧ Cond.initialized mi_X2_append.1.cls ∈ gwl ∧ mi_X2_append.1.cls ≠ "java/lang/invoke/MethodHandle" ∧ mi_X2_append.1.cls ≠ "java/lang/invoke/VarHandle" ∧ (parseMethodDescriptor mi_X2_append.1.desc).map (fun d => d.parameters.length) = some 1 := ⟨gwl_in3 52 rfl rfl, gwl_in1 5 rfl rfl, by decide +kernel, by decide +kernel, by decide +kernel⟩
set_option maxRecDepth 100000 in
theorem vt_X2_readAll : Cond.instanceMethod mi_X2_readAll.1 ∈ gwl ∧ Cond.selects mi_X2_readAll.1.cls mi_X2_readAll.1 mi_X2_readAll.1 ∈ gwl := ⟨gwl_in3 62 rfl rfl, gwl_in3 63 rfl rfl⟩
set_option maxRecDepth 100000 in
theorem cd_X2_readAll : Cond.code mi_X2_readAll.1 (mi_C mi_X2_readAll) (mi_L mi_X2_readAll) (mi_R mi_X2_readAll) ∈ gwl ∧ Cond.initialized mi_X2_readAll.1.cls ∈ gwl ∧ mi_X2_readAll.1.cls ≠ "java/lang/invoke/MethodHandle" ∧ mi_X2_readAll.1.cls ≠ "java/lang/invoke/VarHandle" ∧ (parseMethodDescriptor mi_X2_readAll.1.desc).map (fun d => d.parameters.length) = some 0 := ⟨gwl_in3 64 rfl rfl, gwl_in1 5 rfl rfl, by decide +kernel, by decide +kernel, by decide +kernel⟩
set_option maxRecDepth 100000 in
theorem vt_X7_add : Cond.instanceMethod mi_X7_add.1 ∈ gwl ∧ Cond.selects mi_X7_add.1.cls mi_X7_add.1 mi_X7_add.1 ∈ gwl := ⟨gwl_in3 128 rfl rfl, gwl_in3 129 rfl rfl⟩
set_option maxRecDepth 100000 in
theorem cd_X7_add : Cond.code mi_X7_add.1 (mi_C mi_X7_add) (mi_L mi_X7_add) (mi_R mi_X7_add) ∈ gwl ∧ Cond.initialized mi_X7_add.1.cls ∈ gwl ∧ mi_X7_add.1.cls ≠ "java/lang/invoke/MethodHandle" ∧ mi_X7_add.1.cls ≠ "java/lang/invoke/VarHandle" ∧ (parseMethodDescriptor mi_X7_add.1.desc).map (fun d => d.parameters.length) = some 2 := ⟨gwl_in3 130 rfl rfl, gwl_in1 6 rfl rfl, by decide +kernel, by decide +kernel, by decide +kernel⟩
set_option maxRecDepth 100000 in
theorem vt_X7_has : Cond.instanceMethod mi_X7_has.1 ∈ gwl ∧ Cond.selects mi_X7_has.1.cls mi_X7_has.1 mi_X7_has.1 ∈ gwl := ⟨gwl_in3 141 rfl rfl, gwl_in3 142 rfl rfl⟩
set_option maxRecDepth 100000 in
theorem cd_X7_has : Cond.code mi_X7_has.1 (mi_C mi_X7_has) (mi_L mi_X7_has) (mi_R mi_X7_has) ∈ gwl ∧ Cond.initialized mi_X7_has.1.cls ∈ gwl ∧ mi_X7_has.1.cls ≠ "java/lang/invoke/MethodHandle" ∧ mi_X7_has.1.cls ≠ "java/lang/invoke/VarHandle" ∧ (parseMethodDescriptor mi_X7_has.1.desc).map (fun d => d.parameters.length) = some 1 := ⟨gwl_in3 143 rfl rfl, gwl_in1 6 rfl rfl, by decide +kernel, by decide +kernel, by decide +kernel⟩
set_option maxRecDepth 100000 in
theorem vt_X7_sounding : Cond.instanceMethod mi_X7_sounding.1 ∈ gwl ∧ Cond.selects mi_X7_sounding.1.cls mi_X7_sounding.1 mi_X7_sounding.1 ∈ gwl := ⟨gwl_in3 145 rfl rfl, gwl_in3 146 rfl rfl⟩
set_option maxRecDepth 100000 in
theorem cd_X7_sounding : Cond.code mi_X7_sounding.1 (mi_C mi_X7_sounding) (mi_L mi_X7_sounding) (mi_R mi_X7_sounding) ∈ gwl ∧ Cond.initialized mi_X7_sounding.1.cls ∈ gwl ∧ mi_X7_sounding.1.cls ≠ "java/lang/invoke/MethodHandle" ∧ mi_X7_sounding.1.cls ≠ "java/lang/invoke/VarHandle" ∧ (parseMethodDescriptor mi_X7_sounding.1.desc).map (fun d => d.parameters.length) = some 1 := ⟨gwl_in3 147 rfl rfl, gwl_in1 6 rfl rfl, by decide +kernel, by decide +kernel, by decide +kernel⟩
set_option maxRecDepth 100000 in
theorem vt_X9_isBeat : Cond.instanceMethod mi_X9_isBeat.1 ∈ gwl ∧ Cond.selects mi_X9_isBeat.1.cls mi_X9_isBeat.1 mi_X9_isBeat.1 ∈ gwl := ⟨gwl_in3 167 rfl rfl, gwl_in0 15 rfl rfl⟩
set_option maxRecDepth 100000 in
theorem cd_X9_isBeat : Cond.code mi_X9_isBeat.1 (mi_C mi_X9_isBeat) (mi_L mi_X9_isBeat) (mi_R mi_X9_isBeat) ∈ gwl ∧ Cond.initialized mi_X9_isBeat.1.cls ∈ gwl ∧ mi_X9_isBeat.1.cls ≠ "java/lang/invoke/MethodHandle" ∧ mi_X9_isBeat.1.cls ≠ "java/lang/invoke/VarHandle" ∧ (parseMethodDescriptor mi_X9_isBeat.1.desc).map (fun d => d.parameters.length) = some 3 := ⟨gwl_in3 168 rfl rfl, gwl_in1 1 rfl rfl, by decide +kernel, by decide +kernel, by decide +kernel⟩
set_option maxRecDepth 100000 in
theorem vt_X9_tryOut : Cond.instanceMethod mi_X9_tryOut.1 ∈ gwl ∧ Cond.selects mi_X9_tryOut.1.cls mi_X9_tryOut.1 mi_X9_tryOut.1 ∈ gwl := ⟨gwl_in3 175 rfl rfl, gwl_in0 16 rfl rfl⟩
set_option maxRecDepth 100000 in
theorem cd_X9_tryOut : Cond.code mi_X9_tryOut.1 (mi_C mi_X9_tryOut) (mi_L mi_X9_tryOut) (mi_R mi_X9_tryOut) ∈ gwl ∧ Cond.initialized mi_X9_tryOut.1.cls ∈ gwl ∧ mi_X9_tryOut.1.cls ≠ "java/lang/invoke/MethodHandle" ∧ mi_X9_tryOut.1.cls ≠ "java/lang/invoke/VarHandle" ∧ (parseMethodDescriptor mi_X9_tryOut.1.desc).map (fun d => d.parameters.length) = some 2 := ⟨gwl_in3 176 rfl rfl, gwl_in1 1 rfl rfl, by decide +kernel, by decide +kernel, by decide +kernel⟩
set_option maxRecDepth 100000 in
theorem vt_X1_copyFrom : Cond.instanceMethod mi_X1_copyFrom.1 ∈ gwl ∧ Cond.selects mi_X1_copyFrom.1.cls mi_X1_copyFrom.1 mi_X1_copyFrom.1 ∈ gwl := ⟨gwl_in3 188 rfl rfl, gwl_in3 189 rfl rfl⟩
set_option maxRecDepth 100000 in
theorem cd_X1_copyFrom : Cond.code mi_X1_copyFrom.1 (mi_C mi_X1_copyFrom) (mi_L mi_X1_copyFrom) (mi_R mi_X1_copyFrom) ∈ gwl ∧ Cond.initialized mi_X1_copyFrom.1.cls ∈ gwl ∧ mi_X1_copyFrom.1.cls ≠ "java/lang/invoke/MethodHandle" ∧ mi_X1_copyFrom.1.cls ≠ "java/lang/invoke/VarHandle" ∧ (parseMethodDescriptor mi_X1_copyFrom.1.desc).map (fun d => d.parameters.length) = some 1 := ⟨gwl_in3 190 rfl rfl, gwl_in1 2 rfl rfl, by decide +kernel, by decide +kernel, by decide +kernel⟩
set_option maxRecDepth 100000 in
theorem st_X9_isKey : Cond.static mi_X9_isKey.1 ∈ gwl := gwl_in3 178 rfl rfl
set_option maxRecDepth 100000 in
theorem cd_X9_isKey : Cond.code mi_X9_isKey.1 (mi_C mi_X9_isKey) (mi_L mi_X9_isKey) (mi_R mi_X9_isKey) ∈ gwl ∧ Cond.initialized mi_X9_isKey.1.cls ∈ gwl ∧ mi_X9_isKey.1.cls ≠ "java/lang/invoke/MethodHandle" ∧ mi_X9_isKey.1.cls ≠ "java/lang/invoke/VarHandle" ∧ (parseMethodDescriptor mi_X9_isKey.1.desc).map (fun d => d.parameters.length) = some 1 := ⟨gwl_in3 179 rfl rfl, gwl_in1 1 rfl rfl, by decide +kernel, by decide +kernel, by decide +kernel⟩
set_option maxRecDepth 100000 in
theorem vt_X7_goes : Cond.instanceMethod mi_X7_goes.1 ∈ gwl ∧ Cond.selects mi_X7_goes.1.cls mi_X7_goes.1 mi_X7_goes.1 ∈ gwl := ⟨gwl_in3 181 rfl rfl, gwl_in3 182 rfl rfl⟩
set_option maxRecDepth 100000 in
theorem cd_X7_goes : Cond.code mi_X7_goes.1 (mi_C mi_X7_goes) (mi_L mi_X7_goes) (mi_R mi_X7_goes) ∈ gwl ∧ Cond.initialized mi_X7_goes.1.cls ∈ gwl ∧ mi_X7_goes.1.cls ≠ "java/lang/invoke/MethodHandle" ∧ mi_X7_goes.1.cls ≠ "java/lang/invoke/VarHandle" ∧ (parseMethodDescriptor mi_X7_goes.1.desc).map (fun d => d.parameters.length) = some 3 := ⟨gwl_in3 183 rfl rfl, gwl_in1 6 rfl rfl, by decide +kernel, by decide +kernel, by decide +kernel⟩
set_option maxRecDepth 100000 in
theorem vt_X4_isFor : Cond.instanceMethod mi_X4_isFor.1 ∈ gwl ∧ Cond.selects mi_X4_isFor.1.cls mi_X4_isFor.1 mi_X4_isFor.1 ∈ gwl := ⟨gwl_in3 210 rfl rfl, gwl_in3 211 rfl rfl⟩
set_option maxRecDepth 100000 in
theorem cd_X4_isFor : Cond.code mi_X4_isFor.1 (mi_C mi_X4_isFor) (mi_L mi_X4_isFor) (mi_R mi_X4_isFor) ∈ gwl ∧ Cond.initialized mi_X4_isFor.1.cls ∈ gwl ∧ mi_X4_isFor.1.cls ≠ "java/lang/invoke/MethodHandle" ∧ mi_X4_isFor.1.cls ≠ "java/lang/invoke/VarHandle" ∧ (parseMethodDescriptor mi_X4_isFor.1.desc).map (fun d => d.parameters.length) = some 5 := ⟨gwl_in3 212 rfl rfl, gwl_in1 7 rfl rfl, by decide +kernel, by decide +kernel, by decide +kernel⟩
set_option maxRecDepth 100000 in
theorem vt_X4_takeTune : Cond.instanceMethod mi_X4_takeTune.1 ∈ gwl ∧ Cond.selects mi_X4_takeTune.1.cls mi_X4_takeTune.1 mi_X4_takeTune.1 ∈ gwl := ⟨gwl_in3 214 rfl rfl, gwl_in3 215 rfl rfl⟩
set_option maxRecDepth 100000 in
theorem cd_X4_takeTune : Cond.code mi_X4_takeTune.1 (mi_C mi_X4_takeTune) (mi_L mi_X4_takeTune) (mi_R mi_X4_takeTune) ∈ gwl ∧ Cond.initialized mi_X4_takeTune.1.cls ∈ gwl ∧ mi_X4_takeTune.1.cls ≠ "java/lang/invoke/MethodHandle" ∧ mi_X4_takeTune.1.cls ≠ "java/lang/invoke/VarHandle" ∧ (parseMethodDescriptor mi_X4_takeTune.1.desc).map (fun d => d.parameters.length) = some 3 := ⟨gwl_in3 216 rfl rfl, gwl_in1 7 rfl rfl, by decide +kernel, by decide +kernel, by decide +kernel⟩
set_option maxRecDepth 100000 in
theorem vt_X4_solve : Cond.instanceMethod mi_X4_solve.1 ∈ gwl ∧ Cond.selects mi_X4_solve.1.cls mi_X4_solve.1 mi_X4_solve.1 ∈ gwl := ⟨gwl_in3 219 rfl rfl, gwl_in3 220 rfl rfl⟩
set_option maxRecDepth 100000 in
theorem cd_X4_solve : Cond.code mi_X4_solve.1 (mi_C mi_X4_solve) (mi_L mi_X4_solve) (mi_R mi_X4_solve) ∈ gwl ∧ Cond.initialized mi_X4_solve.1.cls ∈ gwl ∧ mi_X4_solve.1.cls ≠ "java/lang/invoke/MethodHandle" ∧ mi_X4_solve.1.cls ≠ "java/lang/invoke/VarHandle" ∧ (parseMethodDescriptor mi_X4_solve.1.desc).map (fun d => d.parameters.length) = some 4 := ⟨gwl_in3 221 rfl rfl, gwl_in1 7 rfl rfl, by decide +kernel, by decide +kernel, by decide +kernel⟩
set_option maxRecDepth 100000 in
theorem vt_X4_remember : Cond.instanceMethod mi_X4_remember.1 ∈ gwl ∧ Cond.selects mi_X4_remember.1.cls mi_X4_remember.1 mi_X4_remember.1 ∈ gwl := ⟨gwl_in4 38 rfl rfl, gwl_in4 39 rfl rfl⟩
set_option maxRecDepth 100000 in
theorem cd_X4_remember : Cond.code mi_X4_remember.1 (mi_C mi_X4_remember) (mi_L mi_X4_remember) (mi_R mi_X4_remember) ∈ gwl ∧ Cond.initialized mi_X4_remember.1.cls ∈ gwl ∧ mi_X4_remember.1.cls ≠ "java/lang/invoke/MethodHandle" ∧ mi_X4_remember.1.cls ≠ "java/lang/invoke/VarHandle" ∧ (parseMethodDescriptor mi_X4_remember.1.desc).map (fun d => d.parameters.length) = some 5 := ⟨gwl_in4 40 rfl rfl, gwl_in1 7 rfl rfl, by decide +kernel, by decide +kernel, by decide +kernel⟩
set_option maxRecDepth 100000 in
theorem vt_X4_answer : Cond.instanceMethod mi_X4_answer.1 ∈ gwl ∧ Cond.selects mi_X4_answer.1.cls mi_X4_answer.1 mi_X4_answer.1 ∈ gwl := ⟨gwl_in4 42 rfl rfl, gwl_in4 43 rfl rfl⟩
set_option maxRecDepth 100000 in
theorem cd_X4_answer : Cond.code mi_X4_answer.1 (mi_C mi_X4_answer) (mi_L mi_X4_answer) (mi_R mi_X4_answer) ∈ gwl ∧ Cond.initialized mi_X4_answer.1.cls ∈ gwl ∧ mi_X4_answer.1.cls ≠ "java/lang/invoke/MethodHandle" ∧ mi_X4_answer.1.cls ≠ "java/lang/invoke/VarHandle" ∧ (parseMethodDescriptor mi_X4_answer.1.desc).map (fun d => d.parameters.length) = some 1 := ⟨gwl_in4 44 rfl rfl, gwl_in1 7 rfl rfl, by decide +kernel, by decide +kernel, by decide +kernel⟩
set_option maxRecDepth 100000 in
theorem vt_X5_has : Cond.instanceMethod mi_X5_has.1 ∈ gwl ∧ Cond.selects mi_X5_has.1.cls mi_X5_has.1 mi_X5_has.1 ∈ gwl := ⟨gwl_in4 50 rfl rfl, gwl_in4 51 rfl rfl⟩
set_option maxRecDepth 100000 in
theorem cd_X5_has : Cond.code mi_X5_has.1 (mi_C mi_X5_has) (mi_L mi_X5_has) (mi_R mi_X5_has) ∈ gwl ∧ Cond.initialized mi_X5_has.1.cls ∈ gwl ∧ mi_X5_has.1.cls ≠ "java/lang/invoke/MethodHandle" ∧ mi_X5_has.1.cls ≠ "java/lang/invoke/VarHandle" ∧ (parseMethodDescriptor mi_X5_has.1.desc).map (fun d => d.parameters.length) = some 1 := ⟨gwl_in4 52 rfl rfl, gwl_in1 10 rfl rfl, by decide +kernel, by decide +kernel, by decide +kernel⟩
set_option maxRecDepth 100000 in
theorem vt_X5_isLane : Cond.instanceMethod mi_X5_isLane.1 ∈ gwl ∧ Cond.selects mi_X5_isLane.1.cls mi_X5_isLane.1 mi_X5_isLane.1 ∈ gwl := ⟨gwl_in4 54 rfl rfl, gwl_in4 55 rfl rfl⟩
set_option maxRecDepth 100000 in
theorem cd_X5_isLane : Cond.code mi_X5_isLane.1 (mi_C mi_X5_isLane) (mi_L mi_X5_isLane) (mi_R mi_X5_isLane) ∈ gwl ∧ Cond.initialized mi_X5_isLane.1.cls ∈ gwl ∧ mi_X5_isLane.1.cls ≠ "java/lang/invoke/MethodHandle" ∧ mi_X5_isLane.1.cls ≠ "java/lang/invoke/VarHandle" ∧ (parseMethodDescriptor mi_X5_isLane.1.desc).map (fun d => d.parameters.length) = some 1 := ⟨gwl_in4 56 rfl rfl, gwl_in1 10 rfl rfl, by decide +kernel, by decide +kernel, by decide +kernel⟩
set_option maxRecDepth 100000 in
theorem vt_X5_faultAs : Cond.instanceMethod mi_X5_faultAs.1 ∈ gwl ∧ Cond.selects mi_X5_faultAs.1.cls mi_X5_faultAs.1 mi_X5_faultAs.1 ∈ gwl := ⟨gwl_in4 58 rfl rfl, gwl_in4 59 rfl rfl⟩
set_option maxRecDepth 100000 in
theorem cd_X5_faultAs : Cond.code mi_X5_faultAs.1 (mi_C mi_X5_faultAs) (mi_L mi_X5_faultAs) (mi_R mi_X5_faultAs) ∈ gwl ∧ Cond.initialized mi_X5_faultAs.1.cls ∈ gwl ∧ mi_X5_faultAs.1.cls ≠ "java/lang/invoke/MethodHandle" ∧ mi_X5_faultAs.1.cls ≠ "java/lang/invoke/VarHandle" ∧ (parseMethodDescriptor mi_X5_faultAs.1.desc).map (fun d => d.parameters.length) = some 2 := ⟨gwl_in4 60 rfl rfl, gwl_in1 10 rfl rfl, by decide +kernel, by decide +kernel, by decide +kernel⟩
set_option maxRecDepth 100000 in
theorem vt_X9_takeHeard : Cond.instanceMethod mi_X9_takeHeard.1 ∈ gwl ∧ Cond.selects mi_X9_takeHeard.1.cls mi_X9_takeHeard.1 mi_X9_takeHeard.1 ∈ gwl := ⟨gwl_in4 67 rfl rfl, gwl_in0 26 rfl rfl⟩
set_option maxRecDepth 100000 in
theorem cd_X9_takeHeard : Cond.code mi_X9_takeHeard.1 (mi_C mi_X9_takeHeard) (mi_L mi_X9_takeHeard) (mi_R mi_X9_takeHeard) ∈ gwl ∧ Cond.initialized mi_X9_takeHeard.1.cls ∈ gwl ∧ mi_X9_takeHeard.1.cls ≠ "java/lang/invoke/MethodHandle" ∧ mi_X9_takeHeard.1.cls ≠ "java/lang/invoke/VarHandle" ∧ (parseMethodDescriptor mi_X9_takeHeard.1.desc).map (fun d => d.parameters.length) = some 4 := ⟨gwl_in4 68 rfl rfl, gwl_in1 1 rfl rfl, by decide +kernel, by decide +kernel, by decide +kernel⟩
set_option maxRecDepth 100000 in
theorem vt_X6_find : Cond.instanceMethod mi_X6_find.1 ∈ gwl ∧ Cond.selects mi_X6_find.1.cls mi_X6_find.1 mi_X6_find.1 ∈ gwl := ⟨gwl_in4 82 rfl rfl, gwl_in4 83 rfl rfl⟩
set_option maxRecDepth 100000 in
theorem cd_X6_find : Cond.code mi_X6_find.1 (mi_C mi_X6_find) (mi_L mi_X6_find) (mi_R mi_X6_find) ∈ gwl ∧ Cond.initialized mi_X6_find.1.cls ∈ gwl ∧ mi_X6_find.1.cls ≠ "java/lang/invoke/MethodHandle" ∧ mi_X6_find.1.cls ≠ "java/lang/invoke/VarHandle" ∧ (parseMethodDescriptor mi_X6_find.1.desc).map (fun d => d.parameters.length) = some 3 := ⟨gwl_in4 84 rfl rfl, gwl_in1 8 rfl rfl, by decide +kernel, by decide +kernel, by decide +kernel⟩
set_option maxRecDepth 100000 in
theorem vt_X6_answer : Cond.instanceMethod mi_X6_answer.1 ∈ gwl ∧ Cond.selects mi_X6_answer.1.cls mi_X6_answer.1 mi_X6_answer.1 ∈ gwl := ⟨gwl_in4 107 rfl rfl, gwl_in4 108 rfl rfl⟩
set_option maxRecDepth 100000 in
theorem cd_X6_answer : Cond.code mi_X6_answer.1 (mi_C mi_X6_answer) (mi_L mi_X6_answer) (mi_R mi_X6_answer) ∈ gwl ∧ Cond.initialized mi_X6_answer.1.cls ∈ gwl ∧ mi_X6_answer.1.cls ≠ "java/lang/invoke/MethodHandle" ∧ mi_X6_answer.1.cls ≠ "java/lang/invoke/VarHandle" ∧ (parseMethodDescriptor mi_X6_answer.1.desc).map (fun d => d.parameters.length) = some 1 := ⟨gwl_in4 109 rfl rfl, gwl_in1 8 rfl rfl, by decide +kernel, by decide +kernel, by decide +kernel⟩
set_option maxRecDepth 100000 in
theorem st_X9_isPlace : Cond.static mi_X9_isPlace.1 ∈ gwl := gwl_in4 119 rfl rfl
set_option maxRecDepth 100000 in
theorem cd_X9_isPlace : Cond.code mi_X9_isPlace.1 (mi_C mi_X9_isPlace) (mi_L mi_X9_isPlace) (mi_R mi_X9_isPlace) ∈ gwl ∧ Cond.initialized mi_X9_isPlace.1.cls ∈ gwl ∧ mi_X9_isPlace.1.cls ≠ "java/lang/invoke/MethodHandle" ∧ mi_X9_isPlace.1.cls ≠ "java/lang/invoke/VarHandle" ∧ (parseMethodDescriptor mi_X9_isPlace.1.desc).map (fun d => d.parameters.length) = some 1 := ⟨gwl_in4 120 rfl rfl, gwl_in1 1 rfl rfl, by decide +kernel, by decide +kernel, by decide +kernel⟩
set_option maxRecDepth 100000 in
theorem vt_X3_addBoat : Cond.instanceMethod mi_X3_addBoat.1 ∈ gwl ∧ Cond.selects mi_X3_addBoat.1.cls mi_X3_addBoat.1 mi_X3_addBoat.1 ∈ gwl := ⟨gwl_in4 122 rfl rfl, gwl_in4 123 rfl rfl⟩
set_option maxRecDepth 100000 in
theorem cd_X3_addBoat : Cond.code mi_X3_addBoat.1 (mi_C mi_X3_addBoat) (mi_L mi_X3_addBoat) (mi_R mi_X3_addBoat) ∈ gwl ∧ Cond.initialized mi_X3_addBoat.1.cls ∈ gwl ∧ mi_X3_addBoat.1.cls ≠ "java/lang/invoke/MethodHandle" ∧ mi_X3_addBoat.1.cls ≠ "java/lang/invoke/VarHandle" ∧ (parseMethodDescriptor mi_X3_addBoat.1.desc).map (fun d => d.parameters.length) = some 2 := ⟨gwl_in4 124 rfl rfl, gwl_in1 9 rfl rfl, by decide +kernel, by decide +kernel, by decide +kernel⟩
set_option maxRecDepth 100000 in
theorem vt_X3_bendsAt : Cond.instanceMethod mi_X3_bendsAt.1 ∈ gwl ∧ Cond.selects mi_X3_bendsAt.1.cls mi_X3_bendsAt.1 mi_X3_bendsAt.1 ∈ gwl := ⟨gwl_in4 130 rfl rfl, gwl_in4 131 rfl rfl⟩
set_option maxRecDepth 100000 in
theorem cd_X3_bendsAt : Cond.code mi_X3_bendsAt.1 (mi_C mi_X3_bendsAt) (mi_L mi_X3_bendsAt) (mi_R mi_X3_bendsAt) ∈ gwl ∧ Cond.initialized mi_X3_bendsAt.1.cls ∈ gwl ∧ mi_X3_bendsAt.1.cls ≠ "java/lang/invoke/MethodHandle" ∧ mi_X3_bendsAt.1.cls ≠ "java/lang/invoke/VarHandle" ∧ (parseMethodDescriptor mi_X3_bendsAt.1.desc).map (fun d => d.parameters.length) = some 1 := ⟨gwl_in4 132 rfl rfl, gwl_in1 9 rfl rfl, by decide +kernel, by decide +kernel, by decide +kernel⟩
set_option maxRecDepth 100000 in
theorem vt_X3_addBend : Cond.instanceMethod mi_X3_addBend.1 ∈ gwl ∧ Cond.selects mi_X3_addBend.1.cls mi_X3_addBend.1 mi_X3_addBend.1 ∈ gwl := ⟨gwl_in4 134 rfl rfl, gwl_in4 135 rfl rfl⟩
set_option maxRecDepth 100000 in
theorem cd_X3_addBend : Cond.code mi_X3_addBend.1 (mi_C mi_X3_addBend) (mi_L mi_X3_addBend) (mi_R mi_X3_addBend) ∈ gwl ∧ Cond.initialized mi_X3_addBend.1.cls ∈ gwl ∧ mi_X3_addBend.1.cls ≠ "java/lang/invoke/MethodHandle" ∧ mi_X3_addBend.1.cls ≠ "java/lang/invoke/VarHandle" ∧ (parseMethodDescriptor mi_X3_addBend.1.desc).map (fun d => d.parameters.length) = some 2 := ⟨gwl_in4 136 rfl rfl, gwl_in1 9 rfl rfl, by decide +kernel, by decide +kernel, by decide +kernel⟩
set_option maxRecDepth 100000 in
theorem vt_X3_hasBoat : Cond.instanceMethod mi_X3_hasBoat.1 ∈ gwl ∧ Cond.selects mi_X3_hasBoat.1.cls mi_X3_hasBoat.1 mi_X3_hasBoat.1 ∈ gwl := ⟨gwl_in4 156 rfl rfl, gwl_in4 157 rfl rfl⟩
set_option maxRecDepth 100000 in
theorem cd_X3_hasBoat : Cond.code mi_X3_hasBoat.1 (mi_C mi_X3_hasBoat) (mi_L mi_X3_hasBoat) (mi_R mi_X3_hasBoat) ∈ gwl ∧ Cond.initialized mi_X3_hasBoat.1.cls ∈ gwl ∧ mi_X3_hasBoat.1.cls ≠ "java/lang/invoke/MethodHandle" ∧ mi_X3_hasBoat.1.cls ≠ "java/lang/invoke/VarHandle" ∧ (parseMethodDescriptor mi_X3_hasBoat.1.desc).map (fun d => d.parameters.length) = some 1 := ⟨gwl_in4 158 rfl rfl, gwl_in1 9 rfl rfl, by decide +kernel, by decide +kernel, by decide +kernel⟩
set_option maxRecDepth 100000 in
theorem vt_X3_walk : Cond.instanceMethod mi_X3_walk.1 ∈ gwl ∧ Cond.selects mi_X3_walk.1.cls mi_X3_walk.1 mi_X3_walk.1 ∈ gwl := ⟨gwl_in4 169 rfl rfl, gwl_in4 170 rfl rfl⟩
set_option maxRecDepth 100000 in
theorem cd_X3_walk : Cond.code mi_X3_walk.1 (mi_C mi_X3_walk) (mi_L mi_X3_walk) (mi_R mi_X3_walk) ∈ gwl ∧ Cond.initialized mi_X3_walk.1.cls ∈ gwl ∧ mi_X3_walk.1.cls ≠ "java/lang/invoke/MethodHandle" ∧ mi_X3_walk.1.cls ≠ "java/lang/invoke/VarHandle" ∧ (parseMethodDescriptor mi_X3_walk.1.desc).map (fun d => d.parameters.length) = some 2 := ⟨gwl_in4 171 rfl rfl, gwl_in1 9 rfl rfl, by decide +kernel, by decide +kernel, by decide +kernel⟩
set_option maxRecDepth 100000 in
theorem vt_X0_restore : Cond.instanceMethod mi_X0_restore.1 ∈ gwl ∧ Cond.selects mi_X0_restore.1.cls mi_X0_restore.1 mi_X0_restore.1 ∈ gwl := ⟨gwl_in4 178 rfl rfl, gwl_in4 179 rfl rfl⟩
set_option maxRecDepth 100000 in
theorem cd_X0_restore : Cond.code mi_X0_restore.1 (mi_C mi_X0_restore) (mi_L mi_X0_restore) (mi_R mi_X0_restore) ∈ gwl ∧ Cond.initialized mi_X0_restore.1.cls ∈ gwl ∧ mi_X0_restore.1.cls ≠ "java/lang/invoke/MethodHandle" ∧ mi_X0_restore.1.cls ≠ "java/lang/invoke/VarHandle" ∧ (parseMethodDescriptor mi_X0_restore.1.desc).map (fun d => d.parameters.length) = some 2 := ⟨gwl_in4 180 rfl rfl, gwl_in1 4 rfl rfl, by decide +kernel, by decide +kernel, by decide +kernel⟩
set_option maxRecDepth 100000 in
theorem vt_X5_renew : Cond.instanceMethod mi_X5_renew.1 ∈ gwl ∧ Cond.selects mi_X5_renew.1.cls mi_X5_renew.1 mi_X5_renew.1 ∈ gwl := ⟨gwl_in4 186 rfl rfl, gwl_in4 187 rfl rfl⟩
set_option maxRecDepth 100000 in
theorem cd_X5_renew : Cond.code mi_X5_renew.1 (mi_C mi_X5_renew) (mi_L mi_X5_renew) (mi_R mi_X5_renew) ∈ gwl ∧ Cond.initialized mi_X5_renew.1.cls ∈ gwl ∧ mi_X5_renew.1.cls ≠ "java/lang/invoke/MethodHandle" ∧ mi_X5_renew.1.cls ≠ "java/lang/invoke/VarHandle" ∧ (parseMethodDescriptor mi_X5_renew.1.desc).map (fun d => d.parameters.length) = some 3 := ⟨gwl_in4 188 rfl rfl, gwl_in1 10 rfl rfl, by decide +kernel, by decide +kernel, by decide +kernel⟩
set_option maxRecDepth 100000 in
theorem vt_X5_hasCell : Cond.instanceMethod mi_X5_hasCell.1 ∈ gwl ∧ Cond.selects mi_X5_hasCell.1.cls mi_X5_hasCell.1 mi_X5_hasCell.1 ∈ gwl := ⟨gwl_in4 74 rfl rfl, gwl_in4 75 rfl rfl⟩
set_option maxRecDepth 100000 in
theorem cd_X5_hasCell : Cond.code mi_X5_hasCell.1 (mi_C mi_X5_hasCell) (mi_L mi_X5_hasCell) (mi_R mi_X5_hasCell) ∈ gwl ∧ Cond.initialized mi_X5_hasCell.1.cls ∈ gwl ∧ mi_X5_hasCell.1.cls ≠ "java/lang/invoke/MethodHandle" ∧ mi_X5_hasCell.1.cls ≠ "java/lang/invoke/VarHandle" ∧ (parseMethodDescriptor mi_X5_hasCell.1.desc).map (fun d => d.parameters.length) = some 2 := ⟨gwl_in4 76 rfl rfl, gwl_in1 10 rfl rfl, by decide +kernel, by decide +kernel, by decide +kernel⟩
set_option maxRecDepth 100000 in
theorem vt_X5_put : Cond.instanceMethod mi_X5_put.1 ∈ gwl ∧ Cond.selects mi_X5_put.1.cls mi_X5_put.1 mi_X5_put.1 ∈ gwl := ⟨gwl_in4 196 rfl rfl, gwl_in4 197 rfl rfl⟩
set_option maxRecDepth 100000 in
theorem cd_X5_put : Cond.code mi_X5_put.1 (mi_C mi_X5_put) (mi_L mi_X5_put) (mi_R mi_X5_put) ∈ gwl ∧ Cond.initialized mi_X5_put.1.cls ∈ gwl ∧ mi_X5_put.1.cls ≠ "java/lang/invoke/MethodHandle" ∧ mi_X5_put.1.cls ≠ "java/lang/invoke/VarHandle" ∧ (parseMethodDescriptor mi_X5_put.1.desc).map (fun d => d.parameters.length) = some 3 := ⟨gwl_in4 198 rfl rfl, gwl_in1 10 rfl rfl, by decide +kernel, by decide +kernel, by decide +kernel⟩
set_option maxRecDepth 100000 in
theorem vt_X9_scanOne : Cond.instanceMethod mi_X9_scanOne.1 ∈ gwl ∧ Cond.selects mi_X9_scanOne.1.cls mi_X9_scanOne.1 mi_X9_scanOne.1 ∈ gwl := ⟨gwl_in4 205 rfl rfl, gwl_in0 31 rfl rfl⟩
set_option maxRecDepth 100000 in
theorem cd_X9_scanOne : Cond.code mi_X9_scanOne.1 (mi_C mi_X9_scanOne) (mi_L mi_X9_scanOne) (mi_R mi_X9_scanOne) ∈ gwl ∧ Cond.initialized mi_X9_scanOne.1.cls ∈ gwl ∧ mi_X9_scanOne.1.cls ≠ "java/lang/invoke/MethodHandle" ∧ mi_X9_scanOne.1.cls ≠ "java/lang/invoke/VarHandle" ∧ (parseMethodDescriptor mi_X9_scanOne.1.desc).map (fun d => d.parameters.length) = some 2 := ⟨gwl_in4 206 rfl rfl, gwl_in1 1 rfl rfl, by decide +kernel, by decide +kernel, by decide +kernel⟩
set_option maxRecDepth 100000 in
theorem vt_X8_cracked : Cond.instanceMethod mi_X8_cracked.1 ∈ gwl ∧ Cond.selects mi_X8_cracked.1.cls mi_X8_cracked.1 mi_X8_cracked.1 ∈ gwl := ⟨gwl_in4 212 rfl rfl, gwl_in4 213 rfl rfl⟩
set_option maxRecDepth 100000 in
theorem cd_X8_cracked : Cond.code mi_X8_cracked.1 (mi_C mi_X8_cracked) (mi_L mi_X8_cracked) (mi_R mi_X8_cracked) ∈ gwl ∧ Cond.initialized mi_X8_cracked.1.cls ∈ gwl ∧ mi_X8_cracked.1.cls ≠ "java/lang/invoke/MethodHandle" ∧ mi_X8_cracked.1.cls ≠ "java/lang/invoke/VarHandle" ∧ (parseMethodDescriptor mi_X8_cracked.1.desc).map (fun d => d.parameters.length) = some 0 := ⟨gwl_in4 214 rfl rfl, gwl_in1 3 rfl rfl, by decide +kernel, by decide +kernel, by decide +kernel⟩
set_option maxRecDepth 100000 in
theorem vt_X6_forget : Cond.instanceMethod mi_X6_forget.1 ∈ gwl ∧ Cond.selects mi_X6_forget.1.cls mi_X6_forget.1 mi_X6_forget.1 ∈ gwl := ⟨gwl_in4 70 rfl rfl, gwl_in4 71 rfl rfl⟩
set_option maxRecDepth 100000 in
theorem cd_X6_forget : Cond.code mi_X6_forget.1 (mi_C mi_X6_forget) (mi_L mi_X6_forget) (mi_R mi_X6_forget) ∈ gwl ∧ Cond.initialized mi_X6_forget.1.cls ∈ gwl ∧ mi_X6_forget.1.cls ≠ "java/lang/invoke/MethodHandle" ∧ mi_X6_forget.1.cls ≠ "java/lang/invoke/VarHandle" ∧ (parseMethodDescriptor mi_X6_forget.1.desc).map (fun d => d.parameters.length) = some 0 := ⟨gwl_in4 72 rfl rfl, gwl_in1 8 rfl rfl, by decide +kernel, by decide +kernel, by decide +kernel⟩
set_option maxRecDepth 100000 in
theorem vt_X6_addBeat : Cond.instanceMethod mi_X6_addBeat.1 ∈ gwl ∧ Cond.selects mi_X6_addBeat.1.cls mi_X6_addBeat.1 mi_X6_addBeat.1 ∈ gwl := ⟨gwl_in4 78 rfl rfl, gwl_in4 79 rfl rfl⟩
set_option maxRecDepth 100000 in
theorem cd_X6_addBeat : Cond.code mi_X6_addBeat.1 (mi_C mi_X6_addBeat) (mi_L mi_X6_addBeat) (mi_R mi_X6_addBeat) ∈ gwl ∧ Cond.initialized mi_X6_addBeat.1.cls ∈ gwl ∧ mi_X6_addBeat.1.cls ≠ "java/lang/invoke/MethodHandle" ∧ mi_X6_addBeat.1.cls ≠ "java/lang/invoke/VarHandle" ∧ (parseMethodDescriptor mi_X6_addBeat.1.desc).map (fun d => d.parameters.length) = some 2 := ⟨gwl_in4 80 rfl rfl, gwl_in1 8 rfl rfl, by decide +kernel, by decide +kernel, by decide +kernel⟩
set_option maxRecDepth 100000 in
theorem st_X10_in : Cond.static mi_X10_in.1 ∈ gwl := gwl_in5 158 rfl rfl
set_option maxRecDepth 100000 in
theorem cd_X10_in : Cond.code mi_X10_in.1 (mi_C mi_X10_in) (mi_L mi_X10_in) (mi_R mi_X10_in) ∈ gwl ∧ Cond.initialized mi_X10_in.1.cls ∈ gwl ∧ mi_X10_in.1.cls ≠ "java/lang/invoke/MethodHandle" ∧ mi_X10_in.1.cls ≠ "java/lang/invoke/VarHandle" ∧ (parseMethodDescriptor mi_X10_in.1.desc).map (fun d => d.parameters.length) = some 3 := ⟨gwl_in5 159 rfl rfl, gwl_in1 11 rfl rfl, by decide +kernel, by decide +kernel, by decide +kernel⟩
set_option maxRecDepth 100000 in
theorem vt_X10_keeps : Cond.instanceMethod mi_X10_keeps.1 ∈ gwl ∧ Cond.selects mi_X10_keeps.1.cls mi_X10_keeps.1 mi_X10_keeps.1 ∈ gwl := ⟨gwl_in5 162 rfl rfl, gwl_in0 32 rfl rfl⟩
set_option maxRecDepth 100000 in
theorem cd_X10_keeps : Cond.code mi_X10_keeps.1 (mi_C mi_X10_keeps) (mi_L mi_X10_keeps) (mi_R mi_X10_keeps) ∈ gwl ∧ Cond.initialized mi_X10_keeps.1.cls ∈ gwl ∧ mi_X10_keeps.1.cls ≠ "java/lang/invoke/MethodHandle" ∧ mi_X10_keeps.1.cls ≠ "java/lang/invoke/VarHandle" ∧ (parseMethodDescriptor mi_X10_keeps.1.desc).map (fun d => d.parameters.length) = some 0 := ⟨gwl_in5 163 rfl rfl, gwl_in1 11 rfl rfl, by decide +kernel, by decide +kernel, by decide +kernel⟩
set_option maxRecDepth 100000 in
theorem vt_X10_drawn : Cond.instanceMethod mi_X10_drawn.1 ∈ gwl ∧ Cond.selects mi_X10_drawn.1.cls mi_X10_drawn.1 mi_X10_drawn.1 ∈ gwl := ⟨gwl_in5 185 rfl rfl, gwl_in0 33 rfl rfl⟩
set_option maxRecDepth 100000 in
theorem cd_X10_drawn : Cond.code mi_X10_drawn.1 (mi_C mi_X10_drawn) (mi_L mi_X10_drawn) (mi_R mi_X10_drawn) ∈ gwl ∧ Cond.initialized mi_X10_drawn.1.cls ∈ gwl ∧ mi_X10_drawn.1.cls ≠ "java/lang/invoke/MethodHandle" ∧ mi_X10_drawn.1.cls ≠ "java/lang/invoke/VarHandle" ∧ (parseMethodDescriptor mi_X10_drawn.1.desc).map (fun d => d.parameters.length) = some 1 := ⟨gwl_in5 186 rfl rfl, gwl_in1 11 rfl rfl, by decide +kernel, by decide +kernel, by decide +kernel⟩
set_option maxRecDepth 100000 in
theorem st_X10_down : Cond.static mi_X10_down.1 ∈ gwl := gwl_in5 204 rfl rfl
set_option maxRecDepth 100000 in
theorem cd_X10_down : Cond.code mi_X10_down.1 (mi_C mi_X10_down) (mi_L mi_X10_down) (mi_R mi_X10_down) ∈ gwl ∧ Cond.initialized mi_X10_down.1.cls ∈ gwl ∧ mi_X10_down.1.cls ≠ "java/lang/invoke/MethodHandle" ∧ mi_X10_down.1.cls ≠ "java/lang/invoke/VarHandle" ∧ (parseMethodDescriptor mi_X10_down.1.desc).map (fun d => d.parameters.length) = some 2 := ⟨gwl_in5 205 rfl rfl, gwl_in1 11 rfl rfl, by decide +kernel, by decide +kernel, by decide +kernel⟩
set_option maxRecDepth 100000 in
theorem vt_X10_off : Cond.instanceMethod mi_X10_off.1 ∈ gwl ∧ Cond.selects mi_X10_off.1.cls mi_X10_off.1 mi_X10_off.1 ∈ gwl := ⟨gwl_in5 201 rfl rfl, gwl_in0 36 rfl rfl⟩
set_option maxRecDepth 100000 in
theorem cd_X10_off : Cond.code mi_X10_off.1 (mi_C mi_X10_off) (mi_L mi_X10_off) (mi_R mi_X10_off) ∈ gwl ∧ Cond.initialized mi_X10_off.1.cls ∈ gwl ∧ mi_X10_off.1.cls ≠ "java/lang/invoke/MethodHandle" ∧ mi_X10_off.1.cls ≠ "java/lang/invoke/VarHandle" ∧ (parseMethodDescriptor mi_X10_off.1.desc).map (fun d => d.parameters.length) = some 2 := ⟨gwl_in5 202 rfl rfl, gwl_in1 11 rfl rfl, by decide +kernel, by decide +kernel, by decide +kernel⟩
set_option maxRecDepth 100000 in
theorem st_X10_size : Cond.static mi_X10_size.1 ∈ gwl := gwl_in5 207 rfl rfl
set_option maxRecDepth 100000 in
theorem cd_X10_size : Cond.code mi_X10_size.1 (mi_C mi_X10_size) (mi_L mi_X10_size) (mi_R mi_X10_size) ∈ gwl ∧ Cond.initialized mi_X10_size.1.cls ∈ gwl ∧ mi_X10_size.1.cls ≠ "java/lang/invoke/MethodHandle" ∧ mi_X10_size.1.cls ≠ "java/lang/invoke/VarHandle" ∧ (parseMethodDescriptor mi_X10_size.1.desc).map (fun d => d.parameters.length) = some 1 := ⟨gwl_in5 208 rfl rfl, gwl_in1 11 rfl rfl, by decide +kernel, by decide +kernel, by decide +kernel⟩
set_option maxRecDepth 100000 in
theorem vt_X10_strayOf : Cond.instanceMethod mi_X10_strayOf.1 ∈ gwl ∧ Cond.selects mi_X10_strayOf.1.cls mi_X10_strayOf.1 mi_X10_strayOf.1 ∈ gwl := ⟨gwl_in5 197 rfl rfl, gwl_in0 35 rfl rfl⟩
set_option maxRecDepth 100000 in
theorem cd_X10_strayOf : Cond.code mi_X10_strayOf.1 (mi_C mi_X10_strayOf) (mi_L mi_X10_strayOf) (mi_R mi_X10_strayOf) ∈ gwl ∧ Cond.initialized mi_X10_strayOf.1.cls ∈ gwl ∧ mi_X10_strayOf.1.cls ≠ "java/lang/invoke/MethodHandle" ∧ mi_X10_strayOf.1.cls ≠ "java/lang/invoke/VarHandle" ∧ (parseMethodDescriptor mi_X10_strayOf.1.desc).map (fun d => d.parameters.length) = some 2 := ⟨gwl_in5 198 rfl rfl, gwl_in1 11 rfl rfl, by decide +kernel, by decide +kernel, by decide +kernel⟩
set_option maxRecDepth 100000 in
theorem vt_X10_goes : Cond.instanceMethod mi_X10_goes.1 ∈ gwl ∧ Cond.selects mi_X10_goes.1.cls mi_X10_goes.1 mi_X10_goes.1 ∈ gwl := ⟨gwl_in5 193 rfl rfl, gwl_in0 34 rfl rfl⟩
set_option maxRecDepth 100000 in
theorem cd_X10_goes : Cond.code mi_X10_goes.1 (mi_C mi_X10_goes) (mi_L mi_X10_goes) (mi_R mi_X10_goes) ∈ gwl ∧ Cond.initialized mi_X10_goes.1.cls ∈ gwl ∧ mi_X10_goes.1.cls ≠ "java/lang/invoke/MethodHandle" ∧ mi_X10_goes.1.cls ≠ "java/lang/invoke/VarHandle" ∧ (parseMethodDescriptor mi_X10_goes.1.desc).map (fun d => d.parameters.length) = some 1 := ⟨gwl_in5 194 rfl rfl, gwl_in1 11 rfl rfl, by decide +kernel, by decide +kernel, by decide +kernel⟩
set_option maxRecDepth 100000 in
theorem vt_X10_isWhistle : Cond.instanceMethod mi_X10_isWhistle.1 ∈ gwl ∧ Cond.selects mi_X10_isWhistle.1.cls mi_X10_isWhistle.1 mi_X10_isWhistle.1 ∈ gwl := ⟨gwl_in5 221 rfl rfl, gwl_in0 37 rfl rfl⟩
set_option maxRecDepth 100000 in
theorem cd_X10_isWhistle : Cond.code mi_X10_isWhistle.1 (mi_C mi_X10_isWhistle) (mi_L mi_X10_isWhistle) (mi_R mi_X10_isWhistle) ∈ gwl ∧ Cond.initialized mi_X10_isWhistle.1.cls ∈ gwl ∧ mi_X10_isWhistle.1.cls ≠ "java/lang/invoke/MethodHandle" ∧ mi_X10_isWhistle.1.cls ≠ "java/lang/invoke/VarHandle" ∧ (parseMethodDescriptor mi_X10_isWhistle.1.desc).map (fun d => d.parameters.length) = some 1 := ⟨gwl_in5 222 rfl rfl, gwl_in1 11 rfl rfl, by decide +kernel, by decide +kernel, by decide +kernel⟩
set_option maxRecDepth 100000 in
theorem vt_X10_fails : Cond.instanceMethod mi_X10_fails.1 ∈ gwl ∧ Cond.selects mi_X10_fails.1.cls mi_X10_fails.1 mi_X10_fails.1 ∈ gwl := ⟨gwl_in6 47 rfl rfl, gwl_in0 41 rfl rfl⟩
set_option maxRecDepth 100000 in
theorem cd_X10_fails : Cond.code mi_X10_fails.1 (mi_C mi_X10_fails) (mi_L mi_X10_fails) (mi_R mi_X10_fails) ∈ gwl ∧ Cond.initialized mi_X10_fails.1.cls ∈ gwl ∧ mi_X10_fails.1.cls ≠ "java/lang/invoke/MethodHandle" ∧ mi_X10_fails.1.cls ≠ "java/lang/invoke/VarHandle" ∧ (parseMethodDescriptor mi_X10_fails.1.desc).map (fun d => d.parameters.length) = some 2 := ⟨gwl_in6 48 rfl rfl, gwl_in1 11 rfl rfl, by decide +kernel, by decide +kernel, by decide +kernel⟩
set_option maxRecDepth 100000 in
theorem vt_X10_look : Cond.instanceMethod mi_X10_look.1 ∈ gwl ∧ Cond.selects mi_X10_look.1.cls mi_X10_look.1 mi_X10_look.1 ∈ gwl := ⟨gwl_in6 37 rfl rfl, gwl_in0 39 rfl rfl⟩
set_option maxRecDepth 100000 in
theorem cd_X10_look : Cond.code mi_X10_look.1 (mi_C mi_X10_look) (mi_L mi_X10_look) (mi_R mi_X10_look) ∈ gwl ∧ Cond.initialized mi_X10_look.1.cls ∈ gwl ∧ mi_X10_look.1.cls ≠ "java/lang/invoke/MethodHandle" ∧ mi_X10_look.1.cls ≠ "java/lang/invoke/VarHandle" ∧ (parseMethodDescriptor mi_X10_look.1.desc).map (fun d => d.parameters.length) = some 1 := ⟨gwl_in6 38 rfl rfl, gwl_in1 11 rfl rfl, by decide +kernel, by decide +kernel, by decide +kernel⟩
set_option maxRecDepth 100000 in
theorem st_X10_bits : Cond.static mi_X10_bits.1 ∈ gwl := gwl_in6 50 rfl rfl
set_option maxRecDepth 100000 in
theorem cd_X10_bits : Cond.code mi_X10_bits.1 (mi_C mi_X10_bits) (mi_L mi_X10_bits) (mi_R mi_X10_bits) ∈ gwl ∧ Cond.initialized mi_X10_bits.1.cls ∈ gwl ∧ mi_X10_bits.1.cls ≠ "java/lang/invoke/MethodHandle" ∧ mi_X10_bits.1.cls ≠ "java/lang/invoke/VarHandle" ∧ (parseMethodDescriptor mi_X10_bits.1.desc).map (fun d => d.parameters.length) = some 1 := ⟨gwl_in6 51 rfl rfl, gwl_in1 11 rfl rfl, by decide +kernel, by decide +kernel, by decide +kernel⟩
set_option maxRecDepth 100000 in
theorem vt_X10_readChord : Cond.instanceMethod mi_X10_readChord.1 ∈ gwl ∧ Cond.selects mi_X10_readChord.1.cls mi_X10_readChord.1 mi_X10_readChord.1 ∈ gwl := ⟨gwl_in6 43 rfl rfl, gwl_in0 40 rfl rfl⟩
set_option maxRecDepth 100000 in
theorem cd_X10_readChord : Cond.code mi_X10_readChord.1 (mi_C mi_X10_readChord) (mi_L mi_X10_readChord) (mi_R mi_X10_readChord) ∈ gwl ∧ Cond.initialized mi_X10_readChord.1.cls ∈ gwl ∧ mi_X10_readChord.1.cls ≠ "java/lang/invoke/MethodHandle" ∧ mi_X10_readChord.1.cls ≠ "java/lang/invoke/VarHandle" ∧ (parseMethodDescriptor mi_X10_readChord.1.desc).map (fun d => d.parameters.length) = some 0 := ⟨gwl_in6 44 rfl rfl, gwl_in1 11 rfl rfl, by decide +kernel, by decide +kernel, by decide +kernel⟩
set_option maxRecDepth 100000 in
theorem vt_X10_wants : Cond.instanceMethod mi_X10_wants.1 ∈ gwl ∧ Cond.selects mi_X10_wants.1.cls mi_X10_wants.1 mi_X10_wants.1 ∈ gwl := ⟨gwl_in6 56 rfl rfl, gwl_in0 42 rfl rfl⟩
set_option maxRecDepth 100000 in
theorem cd_X10_wants : Cond.code mi_X10_wants.1 (mi_C mi_X10_wants) (mi_L mi_X10_wants) (mi_R mi_X10_wants) ∈ gwl ∧ Cond.initialized mi_X10_wants.1.cls ∈ gwl ∧ mi_X10_wants.1.cls ≠ "java/lang/invoke/MethodHandle" ∧ mi_X10_wants.1.cls ≠ "java/lang/invoke/VarHandle" ∧ (parseMethodDescriptor mi_X10_wants.1.desc).map (fun d => d.parameters.length) = some 2 := ⟨gwl_in6 57 rfl rfl, gwl_in1 11 rfl rfl, by decide +kernel, by decide +kernel, by decide +kernel⟩
set_option maxRecDepth 100000 in
theorem vt_X10_isSign : Cond.instanceMethod mi_X10_isSign.1 ∈ gwl ∧ Cond.selects mi_X10_isSign.1.cls mi_X10_isSign.1 mi_X10_isSign.1 ∈ gwl := ⟨gwl_in6 64 rfl rfl, gwl_in0 44 rfl rfl⟩
set_option maxRecDepth 100000 in
theorem cd_X10_isSign : Cond.code mi_X10_isSign.1 (mi_C mi_X10_isSign) (mi_L mi_X10_isSign) (mi_R mi_X10_isSign) ∈ gwl ∧ Cond.initialized mi_X10_isSign.1.cls ∈ gwl ∧ mi_X10_isSign.1.cls ≠ "java/lang/invoke/MethodHandle" ∧ mi_X10_isSign.1.cls ≠ "java/lang/invoke/VarHandle" ∧ (parseMethodDescriptor mi_X10_isSign.1.desc).map (fun d => d.parameters.length) = some 1 := ⟨gwl_in6 65 rfl rfl, gwl_in1 11 rfl rfl, by decide +kernel, by decide +kernel, by decide +kernel⟩
set_option maxRecDepth 100000 in
theorem vt_X10_beatRead : Cond.instanceMethod mi_X10_beatRead.1 ∈ gwl ∧ Cond.selects mi_X10_beatRead.1.cls mi_X10_beatRead.1 mi_X10_beatRead.1 ∈ gwl := ⟨gwl_in6 68 rfl rfl, gwl_in0 45 rfl rfl⟩
set_option maxRecDepth 100000 in
theorem cd_X10_beatRead : Cond.code mi_X10_beatRead.1 (mi_C mi_X10_beatRead) (mi_L mi_X10_beatRead) (mi_R mi_X10_beatRead) ∈ gwl ∧ Cond.initialized mi_X10_beatRead.1.cls ∈ gwl ∧ mi_X10_beatRead.1.cls ≠ "java/lang/invoke/MethodHandle" ∧ mi_X10_beatRead.1.cls ≠ "java/lang/invoke/VarHandle" ∧ (parseMethodDescriptor mi_X10_beatRead.1.desc).map (fun d => d.parameters.length) = some 1 := ⟨gwl_in6 69 rfl rfl, gwl_in1 11 rfl rfl, by decide +kernel, by decide +kernel, by decide +kernel⟩
set_option maxRecDepth 100000 in
theorem vt_X10_next : Cond.instanceMethod mi_X10_next.1 ∈ gwl ∧ Cond.selects mi_X10_next.1.cls mi_X10_next.1 mi_X10_next.1 ∈ gwl := ⟨gwl_in6 33 rfl rfl, gwl_in0 38 rfl rfl⟩
set_option maxRecDepth 100000 in
theorem cd_X10_next : Cond.code mi_X10_next.1 (mi_C mi_X10_next) (mi_L mi_X10_next) (mi_R mi_X10_next) ∈ gwl ∧ Cond.initialized mi_X10_next.1.cls ∈ gwl ∧ mi_X10_next.1.cls ≠ "java/lang/invoke/MethodHandle" ∧ mi_X10_next.1.cls ≠ "java/lang/invoke/VarHandle" ∧ (parseMethodDescriptor mi_X10_next.1.desc).map (fun d => d.parameters.length) = some 0 := ⟨gwl_in6 34 rfl rfl, gwl_in1 11 rfl rfl, by decide +kernel, by decide +kernel, by decide +kernel⟩
set_option maxRecDepth 100000 in
theorem vt_X10_closes : Cond.instanceMethod mi_X10_closes.1 ∈ gwl ∧ Cond.selects mi_X10_closes.1.cls mi_X10_closes.1 mi_X10_closes.1 ∈ gwl := ⟨gwl_in6 72 rfl rfl, gwl_in0 46 rfl rfl⟩
set_option maxRecDepth 100000 in
theorem cd_X10_closes : Cond.code mi_X10_closes.1 (mi_C mi_X10_closes) (mi_L mi_X10_closes) (mi_R mi_X10_closes) ∈ gwl ∧ Cond.initialized mi_X10_closes.1.cls ∈ gwl ∧ mi_X10_closes.1.cls ≠ "java/lang/invoke/MethodHandle" ∧ mi_X10_closes.1.cls ≠ "java/lang/invoke/VarHandle" ∧ (parseMethodDescriptor mi_X10_closes.1.desc).map (fun d => d.parameters.length) = some 0 := ⟨gwl_in6 73 rfl rfl, gwl_in1 11 rfl rfl, by decide +kernel, by decide +kernel, by decide +kernel⟩
set_option maxRecDepth 100000 in
theorem vt_X10_readTune : Cond.instanceMethod mi_X10_readTune.1 ∈ gwl ∧ Cond.selects mi_X10_readTune.1.cls mi_X10_readTune.1 mi_X10_readTune.1 ∈ gwl := ⟨gwl_in6 60 rfl rfl, gwl_in0 43 rfl rfl⟩
set_option maxRecDepth 100000 in
theorem cd_X10_readTune : Cond.code mi_X10_readTune.1 (mi_C mi_X10_readTune) (mi_L mi_X10_readTune) (mi_R mi_X10_readTune) ∈ gwl ∧ Cond.initialized mi_X10_readTune.1.cls ∈ gwl ∧ mi_X10_readTune.1.cls ≠ "java/lang/invoke/MethodHandle" ∧ mi_X10_readTune.1.cls ≠ "java/lang/invoke/VarHandle" ∧ (parseMethodDescriptor mi_X10_readTune.1.desc).map (fun d => d.parameters.length) = some 0 := ⟨gwl_in6 61 rfl rfl, gwl_in1 11 rfl rfl, by decide +kernel, by decide +kernel, by decide +kernel⟩
set_option maxRecDepth 100000 in
theorem vt_X10_chordAt : Cond.instanceMethod mi_X10_chordAt.1 ∈ gwl ∧ Cond.selects mi_X10_chordAt.1.cls mi_X10_chordAt.1 mi_X10_chordAt.1 ∈ gwl := ⟨gwl_in6 90 rfl rfl, gwl_in0 48 rfl rfl⟩
set_option maxRecDepth 100000 in
theorem cd_X10_chordAt : Cond.code mi_X10_chordAt.1 (mi_C mi_X10_chordAt) (mi_L mi_X10_chordAt) (mi_R mi_X10_chordAt) ∈ gwl ∧ Cond.initialized mi_X10_chordAt.1.cls ∈ gwl ∧ mi_X10_chordAt.1.cls ≠ "java/lang/invoke/MethodHandle" ∧ mi_X10_chordAt.1.cls ≠ "java/lang/invoke/VarHandle" ∧ (parseMethodDescriptor mi_X10_chordAt.1.desc).map (fun d => d.parameters.length) = some 2 := ⟨gwl_in6 91 rfl rfl, gwl_in1 11 rfl rfl, by decide +kernel, by decide +kernel, by decide +kernel⟩
set_option maxRecDepth 100000 in
theorem vt_X10_isTune : Cond.instanceMethod mi_X10_isTune.1 ∈ gwl ∧ Cond.selects mi_X10_isTune.1.cls mi_X10_isTune.1 mi_X10_isTune.1 ∈ gwl := ⟨gwl_in6 84 rfl rfl, gwl_in0 47 rfl rfl⟩
set_option maxRecDepth 100000 in
theorem cd_X10_isTune : Cond.code mi_X10_isTune.1 (mi_C mi_X10_isTune) (mi_L mi_X10_isTune) (mi_R mi_X10_isTune) ∈ gwl ∧ Cond.initialized mi_X10_isTune.1.cls ∈ gwl ∧ mi_X10_isTune.1.cls ≠ "java/lang/invoke/MethodHandle" ∧ mi_X10_isTune.1.cls ≠ "java/lang/invoke/VarHandle" ∧ (parseMethodDescriptor mi_X10_isTune.1.desc).map (fun d => d.parameters.length) = some 1 := ⟨gwl_in6 85 rfl rfl, gwl_in1 11 rfl rfl, by decide +kernel, by decide +kernel, by decide +kernel⟩
set_option maxRecDepth 100000 in
theorem vt_X10_allOf : Cond.instanceMethod mi_X10_allOf.1 ∈ gwl ∧ Cond.selects mi_X10_allOf.1.cls mi_X10_allOf.1 mi_X10_allOf.1 ∈ gwl := ⟨gwl_in6 94 rfl rfl, gwl_in0 49 rfl rfl⟩
set_option maxRecDepth 100000 in
theorem cd_X10_allOf : Cond.code mi_X10_allOf.1 (mi_C mi_X10_allOf) (mi_L mi_X10_allOf) (mi_R mi_X10_allOf) ∈ gwl ∧ Cond.initialized mi_X10_allOf.1.cls ∈ gwl ∧ mi_X10_allOf.1.cls ≠ "java/lang/invoke/MethodHandle" ∧ mi_X10_allOf.1.cls ≠ "java/lang/invoke/VarHandle" ∧ (parseMethodDescriptor mi_X10_allOf.1.desc).map (fun d => d.parameters.length) = some 1 := ⟨gwl_in6 95 rfl rfl, gwl_in1 11 rfl rfl, by decide +kernel, by decide +kernel, by decide +kernel⟩
set_option maxRecDepth 100000 in
theorem vt_X10_moved : Cond.instanceMethod mi_X10_moved.1 ∈ gwl ∧ Cond.selects mi_X10_moved.1.cls mi_X10_moved.1 mi_X10_moved.1 ∈ gwl := ⟨gwl_in6 116 rfl rfl, gwl_in0 53 rfl rfl⟩
set_option maxRecDepth 100000 in
theorem cd_X10_moved : Cond.code mi_X10_moved.1 (mi_C mi_X10_moved) (mi_L mi_X10_moved) (mi_R mi_X10_moved) ∈ gwl ∧ Cond.initialized mi_X10_moved.1.cls ∈ gwl ∧ mi_X10_moved.1.cls ≠ "java/lang/invoke/MethodHandle" ∧ mi_X10_moved.1.cls ≠ "java/lang/invoke/VarHandle" ∧ (parseMethodDescriptor mi_X10_moved.1.desc).map (fun d => d.parameters.length) = some 2 := ⟨gwl_in6 117 rfl rfl, gwl_in1 11 rfl rfl, by decide +kernel, by decide +kernel, by decide +kernel⟩
set_option maxRecDepth 100000 in
theorem vt_X10_goesAll : Cond.instanceMethod mi_X10_goesAll.1 ∈ gwl ∧ Cond.selects mi_X10_goesAll.1.cls mi_X10_goesAll.1 mi_X10_goesAll.1 ∈ gwl := ⟨gwl_in6 112 rfl rfl, gwl_in0 52 rfl rfl⟩
set_option maxRecDepth 100000 in
theorem cd_X10_goesAll : Cond.code mi_X10_goesAll.1 (mi_C mi_X10_goesAll) (mi_L mi_X10_goesAll) (mi_R mi_X10_goesAll) ∈ gwl ∧ Cond.initialized mi_X10_goesAll.1.cls ∈ gwl ∧ mi_X10_goesAll.1.cls ≠ "java/lang/invoke/MethodHandle" ∧ mi_X10_goesAll.1.cls ≠ "java/lang/invoke/VarHandle" ∧ (parseMethodDescriptor mi_X10_goesAll.1.desc).map (fun d => d.parameters.length) = some 2 := ⟨gwl_in6 113 rfl rfl, gwl_in1 11 rfl rfl, by decide +kernel, by decide +kernel, by decide +kernel⟩
set_option maxRecDepth 100000 in
theorem vt_X10_isIn : Cond.instanceMethod mi_X10_isIn.1 ∈ gwl ∧ Cond.selects mi_X10_isIn.1.cls mi_X10_isIn.1 mi_X10_isIn.1 ∈ gwl := ⟨gwl_in6 104 rfl rfl, gwl_in0 50 rfl rfl⟩
set_option maxRecDepth 100000 in
theorem cd_X10_isIn : Cond.code mi_X10_isIn.1 (mi_C mi_X10_isIn) (mi_L mi_X10_isIn) (mi_R mi_X10_isIn) ∈ gwl ∧ Cond.initialized mi_X10_isIn.1.cls ∈ gwl ∧ mi_X10_isIn.1.cls ≠ "java/lang/invoke/MethodHandle" ∧ mi_X10_isIn.1.cls ≠ "java/lang/invoke/VarHandle" ∧ (parseMethodDescriptor mi_X10_isIn.1.desc).map (fun d => d.parameters.length) = some 2 := ⟨gwl_in6 105 rfl rfl, gwl_in1 11 rfl rfl, by decide +kernel, by decide +kernel, by decide +kernel⟩
set_option maxRecDepth 100000 in
theorem vt_X10_tried : Cond.instanceMethod mi_X10_tried.1 ∈ gwl ∧ Cond.selects mi_X10_tried.1.cls mi_X10_tried.1 mi_X10_tried.1 ∈ gwl := ⟨gwl_in6 108 rfl rfl, gwl_in0 51 rfl rfl⟩
set_option maxRecDepth 100000 in
theorem cd_X10_tried : Cond.code mi_X10_tried.1 (mi_C mi_X10_tried) (mi_L mi_X10_tried) (mi_R mi_X10_tried) ∈ gwl ∧ Cond.initialized mi_X10_tried.1.cls ∈ gwl ∧ mi_X10_tried.1.cls ≠ "java/lang/invoke/MethodHandle" ∧ mi_X10_tried.1.cls ≠ "java/lang/invoke/VarHandle" ∧ (parseMethodDescriptor mi_X10_tried.1.desc).map (fun d => d.parameters.length) = some 2 := ⟨gwl_in6 109 rfl rfl, gwl_in1 11 rfl rfl, by decide +kernel, by decide +kernel, by decide +kernel⟩
set_option maxRecDepth 100000 in
theorem vt_X10_spot : Cond.instanceMethod mi_X10_spot.1 ∈ gwl ∧ Cond.selects mi_X10_spot.1.cls mi_X10_spot.1 mi_X10_spot.1 ∈ gwl := ⟨gwl_in6 146 rfl rfl, gwl_in0 57 rfl rfl⟩
set_option maxRecDepth 100000 in
theorem cd_X10_spot : Cond.code mi_X10_spot.1 (mi_C mi_X10_spot) (mi_L mi_X10_spot) (mi_R mi_X10_spot) ∈ gwl ∧ Cond.initialized mi_X10_spot.1.cls ∈ gwl ∧ mi_X10_spot.1.cls ≠ "java/lang/invoke/MethodHandle" ∧ mi_X10_spot.1.cls ≠ "java/lang/invoke/VarHandle" ∧ (parseMethodDescriptor mi_X10_spot.1.desc).map (fun d => d.parameters.length) = some 3 := ⟨gwl_in6 147 rfl rfl, gwl_in1 11 rfl rfl, by decide +kernel, by decide +kernel, by decide +kernel⟩
set_option maxRecDepth 100000 in
theorem vt_X10_then : Cond.instanceMethod mi_X10_then.1 ∈ gwl ∧ Cond.selects mi_X10_then.1.cls mi_X10_then.1 mi_X10_then.1 ∈ gwl := ⟨gwl_in6 150 rfl rfl, gwl_in0 58 rfl rfl⟩
set_option maxRecDepth 100000 in
theorem cd_X10_then : Cond.code mi_X10_then.1 (mi_C mi_X10_then) (mi_L mi_X10_then) (mi_R mi_X10_then) ∈ gwl ∧ Cond.initialized mi_X10_then.1.cls ∈ gwl ∧ mi_X10_then.1.cls ≠ "java/lang/invoke/MethodHandle" ∧ mi_X10_then.1.cls ≠ "java/lang/invoke/VarHandle" ∧ (parseMethodDescriptor mi_X10_then.1.desc).map (fun d => d.parameters.length) = some 2 := ⟨gwl_in6 151 rfl rfl, gwl_in1 11 rfl rfl, by decide +kernel, by decide +kernel, by decide +kernel⟩
set_option maxRecDepth 100000 in
theorem vt_X10_prepares : Cond.instanceMethod mi_X10_prepares.1 ∈ gwl ∧ Cond.selects mi_X10_prepares.1.cls mi_X10_prepares.1 mi_X10_prepares.1 ∈ gwl := ⟨gwl_in6 138 rfl rfl, gwl_in0 55 rfl rfl⟩
set_option maxRecDepth 100000 in
theorem cd_X10_prepares : Cond.code mi_X10_prepares.1 (mi_C mi_X10_prepares) (mi_L mi_X10_prepares) (mi_R mi_X10_prepares) ∈ gwl ∧ Cond.initialized mi_X10_prepares.1.cls ∈ gwl ∧ mi_X10_prepares.1.cls ≠ "java/lang/invoke/MethodHandle" ∧ mi_X10_prepares.1.cls ≠ "java/lang/invoke/VarHandle" ∧ (parseMethodDescriptor mi_X10_prepares.1.desc).map (fun d => d.parameters.length) = some 1 := ⟨gwl_in6 139 rfl rfl, gwl_in1 11 rfl rfl, by decide +kernel, by decide +kernel, by decide +kernel⟩
set_option maxRecDepth 100000 in
theorem vt_X10_meets : Cond.instanceMethod mi_X10_meets.1 ∈ gwl ∧ Cond.selects mi_X10_meets.1.cls mi_X10_meets.1 mi_X10_meets.1 ∈ gwl := ⟨gwl_in6 142 rfl rfl, gwl_in0 56 rfl rfl⟩
set_option maxRecDepth 100000 in
theorem cd_X10_meets : Cond.code mi_X10_meets.1 (mi_C mi_X10_meets) (mi_L mi_X10_meets) (mi_R mi_X10_meets) ∈ gwl ∧ Cond.initialized mi_X10_meets.1.cls ∈ gwl ∧ mi_X10_meets.1.cls ≠ "java/lang/invoke/MethodHandle" ∧ mi_X10_meets.1.cls ≠ "java/lang/invoke/VarHandle" ∧ (parseMethodDescriptor mi_X10_meets.1.desc).map (fun d => d.parameters.length) = some 3 := ⟨gwl_in6 143 rfl rfl, gwl_in1 11 rfl rfl, by decide +kernel, by decide +kernel, by decide +kernel⟩
set_option maxRecDepth 100000 in
theorem vt_X10_bestSound : Cond.instanceMethod mi_X10_bestSound.1 ∈ gwl ∧ Cond.selects mi_X10_bestSound.1.cls mi_X10_bestSound.1 mi_X10_bestSound.1 ∈ gwl := ⟨gwl_in6 154 rfl rfl, gwl_in0 59 rfl rfl⟩
set_option maxRecDepth 100000 in
theorem cd_X10_bestSound : Cond.code mi_X10_bestSound.1 (mi_C mi_X10_bestSound) (mi_L mi_X10_bestSound) (mi_R mi_X10_bestSound) ∈ gwl ∧ Cond.initialized mi_X10_bestSound.1.cls ∈ gwl ∧ mi_X10_bestSound.1.cls ≠ "java/lang/invoke/MethodHandle" ∧ mi_X10_bestSound.1.cls ≠ "java/lang/invoke/VarHandle" ∧ (parseMethodDescriptor mi_X10_bestSound.1.desc).map (fun d => d.parameters.length) = some 4 := ⟨gwl_in6 155 rfl rfl, gwl_in1 11 rfl rfl, by decide +kernel, by decide +kernel, by decide +kernel⟩
set_option maxRecDepth 100000 in
theorem vt_X10_fills : Cond.instanceMethod mi_X10_fills.1 ∈ gwl ∧ Cond.selects mi_X10_fills.1.cls mi_X10_fills.1 mi_X10_fills.1 ∈ gwl := ⟨gwl_in6 134 rfl rfl, gwl_in0 54 rfl rfl⟩
set_option maxRecDepth 100000 in
theorem cd_X10_fills : Cond.code mi_X10_fills.1 (mi_C mi_X10_fills) (mi_L mi_X10_fills) (mi_R mi_X10_fills) ∈ gwl ∧ Cond.initialized mi_X10_fills.1.cls ∈ gwl ∧ mi_X10_fills.1.cls ≠ "java/lang/invoke/MethodHandle" ∧ mi_X10_fills.1.cls ≠ "java/lang/invoke/VarHandle" ∧ (parseMethodDescriptor mi_X10_fills.1.desc).map (fun d => d.parameters.length) = some 4 := ⟨gwl_in6 135 rfl rfl, gwl_in1 11 rfl rfl, by decide +kernel, by decide +kernel, by decide +kernel⟩
set_option maxRecDepth 100000 in
theorem st_X10_lowest : Cond.static mi_X10_lowest.1 ∈ gwl := gwl_in6 169 rfl rfl
set_option maxRecDepth 100000 in
theorem cd_X10_lowest : Cond.code mi_X10_lowest.1 (mi_C mi_X10_lowest) (mi_L mi_X10_lowest) (mi_R mi_X10_lowest) ∈ gwl ∧ Cond.initialized mi_X10_lowest.1.cls ∈ gwl ∧ mi_X10_lowest.1.cls ≠ "java/lang/invoke/MethodHandle" ∧ mi_X10_lowest.1.cls ≠ "java/lang/invoke/VarHandle" ∧ (parseMethodDescriptor mi_X10_lowest.1.desc).map (fun d => d.parameters.length) = some 1 := ⟨gwl_in6 170 rfl rfl, gwl_in1 11 rfl rfl, by decide +kernel, by decide +kernel, by decide +kernel⟩
set_option maxRecDepth 100000 in
theorem vt_X10_drawnWith : Cond.instanceMethod mi_X10_drawnWith.1 ∈ gwl ∧ Cond.selects mi_X10_drawnWith.1.cls mi_X10_drawnWith.1 mi_X10_drawnWith.1 ∈ gwl := ⟨gwl_in6 173 rfl rfl, gwl_in0 61 rfl rfl⟩
set_option maxRecDepth 100000 in
theorem cd_X10_drawnWith : Cond.code mi_X10_drawnWith.1 (mi_C mi_X10_drawnWith) (mi_L mi_X10_drawnWith) (mi_R mi_X10_drawnWith) ∈ gwl ∧ Cond.initialized mi_X10_drawnWith.1.cls ∈ gwl ∧ mi_X10_drawnWith.1.cls ≠ "java/lang/invoke/MethodHandle" ∧ mi_X10_drawnWith.1.cls ≠ "java/lang/invoke/VarHandle" ∧ (parseMethodDescriptor mi_X10_drawnWith.1.desc).map (fun d => d.parameters.length) = some 2 := ⟨gwl_in6 174 rfl rfl, gwl_in1 11 rfl rfl, by decide +kernel, by decide +kernel, by decide +kernel⟩
set_option maxRecDepth 100000 in
theorem st_X10_isSheet : Cond.static mi_X10_isSheet.1 ∈ gwl := gwl_in6 162 rfl rfl
set_option maxRecDepth 100000 in
theorem cd_X10_isSheet : Cond.code mi_X10_isSheet.1 (mi_C mi_X10_isSheet) (mi_L mi_X10_isSheet) (mi_R mi_X10_isSheet) ∈ gwl ∧ Cond.initialized mi_X10_isSheet.1.cls ∈ gwl ∧ mi_X10_isSheet.1.cls ≠ "java/lang/invoke/MethodHandle" ∧ mi_X10_isSheet.1.cls ≠ "java/lang/invoke/VarHandle" ∧ (parseMethodDescriptor mi_X10_isSheet.1.desc).map (fun d => d.parameters.length) = some 2 := ⟨gwl_in6 163 rfl rfl, gwl_in1 11 rfl rfl, by decide +kernel, by decide +kernel, by decide +kernel⟩
set_option maxRecDepth 100000 in
theorem vt_X10_explains : Cond.instanceMethod mi_X10_explains.1 ∈ gwl ∧ Cond.selects mi_X10_explains.1.cls mi_X10_explains.1 mi_X10_explains.1 ∈ gwl := ⟨gwl_in6 166 rfl rfl, gwl_in0 60 rfl rfl⟩
set_option maxRecDepth 100000 in
theorem cd_X10_explains : Cond.code mi_X10_explains.1 (mi_C mi_X10_explains) (mi_L mi_X10_explains) (mi_R mi_X10_explains) ∈ gwl ∧ Cond.initialized mi_X10_explains.1.cls ∈ gwl ∧ mi_X10_explains.1.cls ≠ "java/lang/invoke/MethodHandle" ∧ mi_X10_explains.1.cls ≠ "java/lang/invoke/VarHandle" ∧ (parseMethodDescriptor mi_X10_explains.1.desc).map (fun d => d.parameters.length) = some 6 := ⟨gwl_in6 167 rfl rfl, gwl_in1 11 rfl rfl, by decide +kernel, by decide +kernel, by decide +kernel⟩
set_option maxRecDepth 100000 in
theorem vt_X10_farOf : Cond.instanceMethod mi_X10_farOf.1 ∈ gwl ∧ Cond.selects mi_X10_farOf.1.cls mi_X10_farOf.1 mi_X10_farOf.1 ∈ gwl := ⟨gwl_in6 195 rfl rfl, gwl_in0 62 rfl rfl⟩
set_option maxRecDepth 100000 in
theorem cd_X10_farOf : Cond.code mi_X10_farOf.1 (mi_C mi_X10_farOf) (mi_L mi_X10_farOf) (mi_R mi_X10_farOf) ∈ gwl ∧ Cond.initialized mi_X10_farOf.1.cls ∈ gwl ∧ mi_X10_farOf.1.cls ≠ "java/lang/invoke/MethodHandle" ∧ mi_X10_farOf.1.cls ≠ "java/lang/invoke/VarHandle" ∧ (parseMethodDescriptor mi_X10_farOf.1.desc).map (fun d => d.parameters.length) = some 2 := ⟨gwl_in6 196 rfl rfl, gwl_in1 11 rfl rfl, by decide +kernel, by decide +kernel, by decide +kernel⟩
set_option maxRecDepth 100000 in
theorem vt_X10_heardAt : Cond.instanceMethod mi_X10_heardAt.1 ∈ gwl ∧ Cond.selects mi_X10_heardAt.1.cls mi_X10_heardAt.1 mi_X10_heardAt.1 ∈ gwl := ⟨gwl_in6 203 rfl rfl, gwl_in0 63 rfl rfl⟩
set_option maxRecDepth 100000 in
theorem cd_X10_heardAt : Cond.code mi_X10_heardAt.1 (mi_C mi_X10_heardAt) (mi_L mi_X10_heardAt) (mi_R mi_X10_heardAt) ∈ gwl ∧ Cond.initialized mi_X10_heardAt.1.cls ∈ gwl ∧ mi_X10_heardAt.1.cls ≠ "java/lang/invoke/MethodHandle" ∧ mi_X10_heardAt.1.cls ≠ "java/lang/invoke/VarHandle" ∧ (parseMethodDescriptor mi_X10_heardAt.1.desc).map (fun d => d.parameters.length) = some 2 := ⟨gwl_in6 204 rfl rfl, gwl_in1 11 rfl rfl, by decide +kernel, by decide +kernel, by decide +kernel⟩
set_option maxRecDepth 100000 in
theorem vt_X10_whistle : Cond.instanceMethod mi_X10_whistle.1 ∈ gwl ∧ Cond.selects mi_X10_whistle.1.cls mi_X10_whistle.1 mi_X10_whistle.1 ∈ gwl := ⟨gwl_in5 210 rfl rfl, gwl_in5 211 rfl rfl⟩
set_option maxRecDepth 100000 in
theorem cd_X10_whistle : Cond.code mi_X10_whistle.1 (mi_C mi_X10_whistle) (mi_L mi_X10_whistle) (mi_R mi_X10_whistle) ∈ gwl ∧ Cond.initialized mi_X10_whistle.1.cls ∈ gwl ∧ mi_X10_whistle.1.cls ≠ "java/lang/invoke/MethodHandle" ∧ mi_X10_whistle.1.cls ≠ "java/lang/invoke/VarHandle" ∧ (parseMethodDescriptor mi_X10_whistle.1.desc).map (fun d => d.parameters.length) = some 4 := ⟨gwl_in5 212 rfl rfl, gwl_in1 11 rfl rfl, by decide +kernel, by decide +kernel, by decide +kernel⟩
set_option maxRecDepth 100000 in
theorem st_J7_rangeCheck_23922 : Cond.static mi_J7_rangeCheck_23922.1 ∈ gwl := gwl_in3 236 rfl rfl
set_option maxRecDepth 100000 in
theorem cd_J7_rangeCheck_23922 : Cond.code mi_J7_rangeCheck_23922.1 (mi_C mi_J7_rangeCheck_23922) (mi_L mi_J7_rangeCheck_23922) (mi_R mi_J7_rangeCheck_23922) ∈ gwl ∧ Cond.initialized mi_J7_rangeCheck_23922.1.cls ∈ gwl ∧ mi_J7_rangeCheck_23922.1.cls ≠ "java/lang/invoke/MethodHandle" ∧ mi_J7_rangeCheck_23922.1.cls ≠ "java/lang/invoke/VarHandle" ∧ (parseMethodDescriptor mi_J7_rangeCheck_23922.1.desc).map (fun d => d.parameters.length) = some 3 := ⟨gwl_in3 237 rfl rfl, gwl_in1 15 rfl rfl, by decide +kernel, by decide +kernel, by decide +kernel⟩
set_option maxRecDepth 100000 in
theorem in_X9_init : Cond.instanceMethod mi_X9_init.1 ∈ gwl ∧ mi_X9_init.1.name = "<init>" ∧ mi_R mi_X9_init = none := ⟨gwl_in1 19 rfl rfl, rfl, rfl⟩
set_option maxRecDepth 100000 in
theorem cd_X9_init : Cond.code mi_X9_init.1 (mi_C mi_X9_init) (mi_L mi_X9_init) (mi_R mi_X9_init) ∈ gwl ∧ Cond.initialized mi_X9_init.1.cls ∈ gwl ∧ mi_X9_init.1.cls ≠ "java/lang/invoke/MethodHandle" ∧ mi_X9_init.1.cls ≠ "java/lang/invoke/VarHandle" ∧ (parseMethodDescriptor mi_X9_init.1.desc).map (fun d => d.parameters.length) = some 0 := ⟨gwl_in1 20 rfl rfl, gwl_in1 1 rfl rfl, by decide +kernel, by decide +kernel, by decide +kernel⟩
set_option maxRecDepth 100000 in
theorem in_X10_init : Cond.instanceMethod mi_X10_init.1 ∈ gwl ∧ mi_X10_init.1.name = "<init>" ∧ mi_R mi_X10_init = none := ⟨gwl_in4 218 rfl rfl, rfl, rfl⟩
set_option maxRecDepth 100000 in
theorem cd_X10_init : Cond.code mi_X10_init.1 (mi_C mi_X10_init) (mi_L mi_X10_init) (mi_R mi_X10_init) ∈ gwl ∧ Cond.initialized mi_X10_init.1.cls ∈ gwl ∧ mi_X10_init.1.cls ≠ "java/lang/invoke/MethodHandle" ∧ mi_X10_init.1.cls ≠ "java/lang/invoke/VarHandle" ∧ (parseMethodDescriptor mi_X10_init.1.desc).map (fun d => d.parameters.length) = some 0 := ⟨gwl_in4 219 rfl rfl, gwl_in1 11 rfl rfl, by decide +kernel, by decide +kernel, by decide +kernel⟩
set_option maxRecDepth 100000 in
theorem vt_X9_fire : Cond.instanceMethod mi_X9_fire.1 ∈ gwl ∧ Cond.selects mi_X9_fire.1.cls mi_X9_fire.1 mi_X9_fire.1 ∈ gwl := ⟨gwl_in2 150 rfl rfl, gwl_in2 151 rfl rfl⟩
set_option maxRecDepth 100000 in
theorem cd_X9_fire : Cond.code mi_X9_fire.1 (mi_C mi_X9_fire) (mi_L mi_X9_fire) (mi_R mi_X9_fire) ∈ gwl ∧ Cond.initialized mi_X9_fire.1.cls ∈ gwl ∧ mi_X9_fire.1.cls ≠ "java/lang/invoke/MethodHandle" ∧ mi_X9_fire.1.cls ≠ "java/lang/invoke/VarHandle" ∧ (parseMethodDescriptor mi_X9_fire.1.desc).map (fun d => d.parameters.length) = some 1 := ⟨gwl_in2 152 rfl rfl, gwl_in1 1 rfl rfl, by decide +kernel, by decide +kernel, by decide +kernel⟩
set_option maxRecDepth 100000 in
theorem vt_X10_fire : Cond.instanceMethod mi_X10_fire.1 ∈ gwl ∧ Cond.selects mi_X10_fire.1.cls mi_X10_fire.1 mi_X10_fire.1 ∈ gwl := ⟨gwl_in5 153 rfl rfl, gwl_in5 154 rfl rfl⟩
set_option maxRecDepth 100000 in
theorem cd_X10_fire : Cond.code mi_X10_fire.1 (mi_C mi_X10_fire) (mi_L mi_X10_fire) (mi_R mi_X10_fire) ∈ gwl ∧ Cond.initialized mi_X10_fire.1.cls ∈ gwl ∧ mi_X10_fire.1.cls ≠ "java/lang/invoke/MethodHandle" ∧ mi_X10_fire.1.cls ≠ "java/lang/invoke/VarHandle" ∧ (parseMethodDescriptor mi_X10_fire.1.desc).map (fun d => d.parameters.length) = some 1 := ⟨gwl_in5 155 rfl rfl, gwl_in1 11 rfl rfl, by decide +kernel, by decide +kernel, by decide +kernel⟩
set_option maxRecDepth 100000 in
theorem vt_X9_water : Cond.instanceMethod mi_X9_water.1 ∈ gwl ∧ Cond.selects mi_X9_water.1.cls mi_X9_water.1 mi_X9_water.1 ∈ gwl := ⟨gwl_in2 167 rfl rfl, gwl_in2 168 rfl rfl⟩
set_option maxRecDepth 100000 in
theorem cd_X9_water : Cond.code mi_X9_water.1 (mi_C mi_X9_water) (mi_L mi_X9_water) (mi_R mi_X9_water) ∈ gwl ∧ Cond.initialized mi_X9_water.1.cls ∈ gwl ∧ mi_X9_water.1.cls ≠ "java/lang/invoke/MethodHandle" ∧ mi_X9_water.1.cls ≠ "java/lang/invoke/VarHandle" ∧ (parseMethodDescriptor mi_X9_water.1.desc).map (fun d => d.parameters.length) = some 1 := ⟨gwl_in2 169 rfl rfl, gwl_in1 1 rfl rfl, by decide +kernel, by decide +kernel, by decide +kernel⟩
set_option maxRecDepth 100000 in
theorem vt_X10_water : Cond.instanceMethod mi_X10_water.1 ∈ gwl ∧ Cond.selects mi_X10_water.1.cls mi_X10_water.1 mi_X10_water.1 ∈ gwl := ⟨gwl_in5 165 rfl rfl, gwl_in5 166 rfl rfl⟩
set_option maxRecDepth 100000 in
theorem cd_X10_water : Cond.code mi_X10_water.1 (mi_C mi_X10_water) (mi_L mi_X10_water) (mi_R mi_X10_water) ∈ gwl ∧ Cond.initialized mi_X10_water.1.cls ∈ gwl ∧ mi_X10_water.1.cls ≠ "java/lang/invoke/MethodHandle" ∧ mi_X10_water.1.cls ≠ "java/lang/invoke/VarHandle" ∧ (parseMethodDescriptor mi_X10_water.1.desc).map (fun d => d.parameters.length) = some 1 := ⟨gwl_in5 167 rfl rfl, gwl_in1 11 rfl rfl, by decide +kernel, by decide +kernel, by decide +kernel⟩
set_option maxRecDepth 100000 in
theorem vt_X9_valve : Cond.instanceMethod mi_X9_valve.1 ∈ gwl ∧ Cond.selects mi_X9_valve.1.cls mi_X9_valve.1 mi_X9_valve.1 ∈ gwl := ⟨gwl_in2 172 rfl rfl, gwl_in2 173 rfl rfl⟩
set_option maxRecDepth 100000 in
theorem cd_X9_valve : Cond.code mi_X9_valve.1 (mi_C mi_X9_valve) (mi_L mi_X9_valve) (mi_R mi_X9_valve) ∈ gwl ∧ Cond.initialized mi_X9_valve.1.cls ∈ gwl ∧ mi_X9_valve.1.cls ≠ "java/lang/invoke/MethodHandle" ∧ mi_X9_valve.1.cls ≠ "java/lang/invoke/VarHandle" ∧ (parseMethodDescriptor mi_X9_valve.1.desc).map (fun d => d.parameters.length) = some 1 := ⟨gwl_in2 174 rfl rfl, gwl_in1 1 rfl rfl, by decide +kernel, by decide +kernel, by decide +kernel⟩
set_option maxRecDepth 100000 in
theorem vt_X10_valve : Cond.instanceMethod mi_X10_valve.1 ∈ gwl ∧ Cond.selects mi_X10_valve.1.cls mi_X10_valve.1 mi_X10_valve.1 ∈ gwl := ⟨gwl_in5 170 rfl rfl, gwl_in5 171 rfl rfl⟩
set_option maxRecDepth 100000 in
theorem cd_X10_valve : Cond.code mi_X10_valve.1 (mi_C mi_X10_valve) (mi_L mi_X10_valve) (mi_R mi_X10_valve) ∈ gwl ∧ Cond.initialized mi_X10_valve.1.cls ∈ gwl ∧ mi_X10_valve.1.cls ≠ "java/lang/invoke/MethodHandle" ∧ mi_X10_valve.1.cls ≠ "java/lang/invoke/VarHandle" ∧ (parseMethodDescriptor mi_X10_valve.1.desc).map (fun d => d.parameters.length) = some 1 := ⟨gwl_in5 172 rfl rfl, gwl_in1 11 rfl rfl, by decide +kernel, by decide +kernel, by decide +kernel⟩
set_option maxRecDepth 100000 in
theorem vt_X9_pressure : Cond.instanceMethod mi_X9_pressure.1 ∈ gwl ∧ Cond.selects mi_X9_pressure.1.cls mi_X9_pressure.1 mi_X9_pressure.1 ∈ gwl := ⟨gwl_in2 176 rfl rfl, gwl_in2 177 rfl rfl⟩
set_option maxRecDepth 100000 in
theorem cd_X9_pressure : Cond.code mi_X9_pressure.1 (mi_C mi_X9_pressure) (mi_L mi_X9_pressure) (mi_R mi_X9_pressure) ∈ gwl ∧ Cond.initialized mi_X9_pressure.1.cls ∈ gwl ∧ mi_X9_pressure.1.cls ≠ "java/lang/invoke/MethodHandle" ∧ mi_X9_pressure.1.cls ≠ "java/lang/invoke/VarHandle" ∧ (parseMethodDescriptor mi_X9_pressure.1.desc).map (fun d => d.parameters.length) = some 1 := ⟨gwl_in2 178 rfl rfl, gwl_in1 1 rfl rfl, by decide +kernel, by decide +kernel, by decide +kernel⟩
set_option maxRecDepth 100000 in
theorem vt_X10_pressure : Cond.instanceMethod mi_X10_pressure.1 ∈ gwl ∧ Cond.selects mi_X10_pressure.1.cls mi_X10_pressure.1 mi_X10_pressure.1 ∈ gwl := ⟨gwl_in5 176 rfl rfl, gwl_in5 177 rfl rfl⟩
set_option maxRecDepth 100000 in
theorem cd_X10_pressure : Cond.code mi_X10_pressure.1 (mi_C mi_X10_pressure) (mi_L mi_X10_pressure) (mi_R mi_X10_pressure) ∈ gwl ∧ Cond.initialized mi_X10_pressure.1.cls ∈ gwl ∧ mi_X10_pressure.1.cls ≠ "java/lang/invoke/MethodHandle" ∧ mi_X10_pressure.1.cls ≠ "java/lang/invoke/VarHandle" ∧ (parseMethodDescriptor mi_X10_pressure.1.desc).map (fun d => d.parameters.length) = some 1 := ⟨gwl_in5 178 rfl rfl, gwl_in1 11 rfl rfl, by decide +kernel, by decide +kernel, by decide +kernel⟩
set_option maxRecDepth 100000 in
theorem vt_X9_boiler : Cond.instanceMethod mi_X9_boiler.1 ∈ gwl ∧ Cond.selects mi_X9_boiler.1.cls mi_X9_boiler.1 mi_X9_boiler.1 ∈ gwl := ⟨gwl_in2 180 rfl rfl, gwl_in2 181 rfl rfl⟩
set_option maxRecDepth 100000 in
theorem cd_X9_boiler : Cond.code mi_X9_boiler.1 (mi_C mi_X9_boiler) (mi_L mi_X9_boiler) (mi_R mi_X9_boiler) ∈ gwl ∧ Cond.initialized mi_X9_boiler.1.cls ∈ gwl ∧ mi_X9_boiler.1.cls ≠ "java/lang/invoke/MethodHandle" ∧ mi_X9_boiler.1.cls ≠ "java/lang/invoke/VarHandle" ∧ (parseMethodDescriptor mi_X9_boiler.1.desc).map (fun d => d.parameters.length) = some 1 := ⟨gwl_in2 182 rfl rfl, gwl_in1 1 rfl rfl, by decide +kernel, by decide +kernel, by decide +kernel⟩
set_option maxRecDepth 100000 in
theorem vt_X10_boiler : Cond.instanceMethod mi_X10_boiler.1 ∈ gwl ∧ Cond.selects mi_X10_boiler.1.cls mi_X10_boiler.1 mi_X10_boiler.1 ∈ gwl := ⟨gwl_in5 180 rfl rfl, gwl_in5 181 rfl rfl⟩
set_option maxRecDepth 100000 in
theorem cd_X10_boiler : Cond.code mi_X10_boiler.1 (mi_C mi_X10_boiler) (mi_L mi_X10_boiler) (mi_R mi_X10_boiler) ∈ gwl ∧ Cond.initialized mi_X10_boiler.1.cls ∈ gwl ∧ mi_X10_boiler.1.cls ≠ "java/lang/invoke/MethodHandle" ∧ mi_X10_boiler.1.cls ≠ "java/lang/invoke/VarHandle" ∧ (parseMethodDescriptor mi_X10_boiler.1.desc).map (fun d => d.parameters.length) = some 1 := ⟨gwl_in5 182 rfl rfl, gwl_in1 11 rfl rfl, by decide +kernel, by decide +kernel, by decide +kernel⟩
set_option maxRecDepth 100000 in
theorem vt_X9_beat : Cond.instanceMethod mi_X9_beat.1 ∈ gwl ∧ Cond.selects mi_X9_beat.1.cls mi_X9_beat.1 mi_X9_beat.1 ∈ gwl := ⟨gwl_in2 188 rfl rfl, gwl_in2 189 rfl rfl⟩
set_option maxRecDepth 100000 in
theorem cd_X9_beat : Cond.code mi_X9_beat.1 (mi_C mi_X9_beat) (mi_L mi_X9_beat) (mi_R mi_X9_beat) ∈ gwl ∧ Cond.initialized mi_X9_beat.1.cls ∈ gwl ∧ mi_X9_beat.1.cls ≠ "java/lang/invoke/MethodHandle" ∧ mi_X9_beat.1.cls ≠ "java/lang/invoke/VarHandle" ∧ (parseMethodDescriptor mi_X9_beat.1.desc).map (fun d => d.parameters.length) = some 1 := ⟨gwl_in2 190 rfl rfl, gwl_in1 1 rfl rfl, by decide +kernel, by decide +kernel, by decide +kernel⟩
set_option maxRecDepth 100000 in
theorem vt_X10_beat : Cond.instanceMethod mi_X10_beat.1 ∈ gwl ∧ Cond.selects mi_X10_beat.1.cls mi_X10_beat.1 mi_X10_beat.1 ∈ gwl := ⟨gwl_in5 188 rfl rfl, gwl_in5 189 rfl rfl⟩
set_option maxRecDepth 100000 in
theorem cd_X10_beat : Cond.code mi_X10_beat.1 (mi_C mi_X10_beat) (mi_L mi_X10_beat) (mi_R mi_X10_beat) ∈ gwl ∧ Cond.initialized mi_X10_beat.1.cls ∈ gwl ∧ mi_X10_beat.1.cls ≠ "java/lang/invoke/MethodHandle" ∧ mi_X10_beat.1.cls ≠ "java/lang/invoke/VarHandle" ∧ (parseMethodDescriptor mi_X10_beat.1.desc).map (fun d => d.parameters.length) = some 1 := ⟨gwl_in5 190 rfl rfl, gwl_in1 11 rfl rfl, by decide +kernel, by decide +kernel, by decide +kernel⟩
set_option maxRecDepth 100000 in
theorem vt_X9_whistle : Cond.instanceMethod mi_X9_whistle.1 ∈ gwl ∧ Cond.selects mi_X9_whistle.1.cls mi_X9_whistle.1 mi_X9_whistle.1 ∈ gwl := ⟨gwl_in2 226 rfl rfl, gwl_in2 227 rfl rfl⟩
set_option maxRecDepth 100000 in
theorem cd_X9_whistle : Cond.code mi_X9_whistle.1 (mi_C mi_X9_whistle) (mi_L mi_X9_whistle) (mi_R mi_X9_whistle) ∈ gwl ∧ Cond.initialized mi_X9_whistle.1.cls ∈ gwl ∧ mi_X9_whistle.1.cls ≠ "java/lang/invoke/MethodHandle" ∧ mi_X9_whistle.1.cls ≠ "java/lang/invoke/VarHandle" ∧ (parseMethodDescriptor mi_X9_whistle.1.desc).map (fun d => d.parameters.length) = some 4 := ⟨gwl_in2 228 rfl rfl, gwl_in1 1 rfl rfl, by decide +kernel, by decide +kernel, by decide +kernel⟩
set_option maxRecDepth 100000 in
theorem vt_X9_told : Cond.instanceMethod mi_X9_told.1 ∈ gwl ∧ Cond.selects mi_X9_told.1.cls mi_X9_told.1 mi_X9_told.1 ∈ gwl := ⟨gwl_in2 235 rfl rfl, gwl_in2 236 rfl rfl⟩
set_option maxRecDepth 100000 in
theorem cd_X9_told : Cond.code mi_X9_told.1 (mi_C mi_X9_told) (mi_L mi_X9_told) (mi_R mi_X9_told) ∈ gwl ∧ Cond.initialized mi_X9_told.1.cls ∈ gwl ∧ mi_X9_told.1.cls ≠ "java/lang/invoke/MethodHandle" ∧ mi_X9_told.1.cls ≠ "java/lang/invoke/VarHandle" ∧ (parseMethodDescriptor mi_X9_told.1.desc).map (fun d => d.parameters.length) = some 2 := ⟨gwl_in2 237 rfl rfl, gwl_in1 1 rfl rfl, by decide +kernel, by decide +kernel, by decide +kernel⟩
set_option maxRecDepth 100000 in
theorem vt_X10_told : Cond.instanceMethod mi_X10_told.1 ∈ gwl ∧ Cond.selects mi_X10_told.1.cls mi_X10_told.1 mi_X10_told.1 ∈ gwl := ⟨gwl_in5 216 rfl rfl, gwl_in5 217 rfl rfl⟩
set_option maxRecDepth 100000 in
theorem cd_X10_told : Cond.code mi_X10_told.1 (mi_C mi_X10_told) (mi_L mi_X10_told) (mi_R mi_X10_told) ∈ gwl ∧ Cond.initialized mi_X10_told.1.cls ∈ gwl ∧ mi_X10_told.1.cls ≠ "java/lang/invoke/MethodHandle" ∧ mi_X10_told.1.cls ≠ "java/lang/invoke/VarHandle" ∧ (parseMethodDescriptor mi_X10_told.1.desc).map (fun d => d.parameters.length) = some 2 := ⟨gwl_in5 218 rfl rfl, gwl_in1 11 rfl rfl, by decide +kernel, by decide +kernel, by decide +kernel⟩
set_option maxRecDepth 100000 in
theorem vt_X9_stem : Cond.instanceMethod mi_X9_stem.1 ∈ gwl ∧ Cond.selects mi_X9_stem.1.cls mi_X9_stem.1 mi_X9_stem.1 ∈ gwl := ⟨gwl_in3 3 rfl rfl, gwl_in3 4 rfl rfl⟩
set_option maxRecDepth 100000 in
theorem cd_X9_stem : Cond.code mi_X9_stem.1 (mi_C mi_X9_stem) (mi_L mi_X9_stem) (mi_R mi_X9_stem) ∈ gwl ∧ Cond.initialized mi_X9_stem.1.cls ∈ gwl ∧ mi_X9_stem.1.cls ≠ "java/lang/invoke/MethodHandle" ∧ mi_X9_stem.1.cls ≠ "java/lang/invoke/VarHandle" ∧ (parseMethodDescriptor mi_X9_stem.1.desc).map (fun d => d.parameters.length) = some 2 := ⟨gwl_in3 5 rfl rfl, gwl_in1 1 rfl rfl, by decide +kernel, by decide +kernel, by decide +kernel⟩
set_option maxRecDepth 100000 in
theorem vt_X10_stem : Cond.instanceMethod mi_X10_stem.1 ∈ gwl ∧ Cond.selects mi_X10_stem.1.cls mi_X10_stem.1 mi_X10_stem.1 ∈ gwl := ⟨gwl_in5 225 rfl rfl, gwl_in5 226 rfl rfl⟩
set_option maxRecDepth 100000 in
theorem cd_X10_stem : Cond.code mi_X10_stem.1 (mi_C mi_X10_stem) (mi_L mi_X10_stem) (mi_R mi_X10_stem) ∈ gwl ∧ Cond.initialized mi_X10_stem.1.cls ∈ gwl ∧ mi_X10_stem.1.cls ≠ "java/lang/invoke/MethodHandle" ∧ mi_X10_stem.1.cls ≠ "java/lang/invoke/VarHandle" ∧ (parseMethodDescriptor mi_X10_stem.1.desc).map (fun d => d.parameters.length) = some 2 := ⟨gwl_in5 227 rfl rfl, gwl_in1 11 rfl rfl, by decide +kernel, by decide +kernel, by decide +kernel⟩
set_option maxRecDepth 100000 in
theorem vt_X9_crack : Cond.instanceMethod mi_X9_crack.1 ∈ gwl ∧ Cond.selects mi_X9_crack.1.cls mi_X9_crack.1 mi_X9_crack.1 ∈ gwl := ⟨gwl_in3 7 rfl rfl, gwl_in3 8 rfl rfl⟩
set_option maxRecDepth 100000 in
theorem cd_X9_crack : Cond.code mi_X9_crack.1 (mi_C mi_X9_crack) (mi_L mi_X9_crack) (mi_R mi_X9_crack) ∈ gwl ∧ Cond.initialized mi_X9_crack.1.cls ∈ gwl ∧ mi_X9_crack.1.cls ≠ "java/lang/invoke/MethodHandle" ∧ mi_X9_crack.1.cls ≠ "java/lang/invoke/VarHandle" ∧ (parseMethodDescriptor mi_X9_crack.1.desc).map (fun d => d.parameters.length) = some 2 := ⟨gwl_in3 9 rfl rfl, gwl_in1 1 rfl rfl, by decide +kernel, by decide +kernel, by decide +kernel⟩
set_option maxRecDepth 100000 in
theorem vt_X10_crack : Cond.instanceMethod mi_X10_crack.1 ∈ gwl ∧ Cond.selects mi_X10_crack.1.cls mi_X10_crack.1 mi_X10_crack.1 ∈ gwl := ⟨gwl_in5 231 rfl rfl, gwl_in5 232 rfl rfl⟩
set_option maxRecDepth 100000 in
theorem cd_X10_crack : Cond.code mi_X10_crack.1 (mi_C mi_X10_crack) (mi_L mi_X10_crack) (mi_R mi_X10_crack) ∈ gwl ∧ Cond.initialized mi_X10_crack.1.cls ∈ gwl ∧ mi_X10_crack.1.cls ≠ "java/lang/invoke/MethodHandle" ∧ mi_X10_crack.1.cls ≠ "java/lang/invoke/VarHandle" ∧ (parseMethodDescriptor mi_X10_crack.1.desc).map (fun d => d.parameters.length) = some 2 := ⟨gwl_in5 233 rfl rfl, gwl_in1 11 rfl rfl, by decide +kernel, by decide +kernel, by decide +kernel⟩
set_option maxRecDepth 100000 in
theorem vt_X9_leak : Cond.instanceMethod mi_X9_leak.1 ∈ gwl ∧ Cond.selects mi_X9_leak.1.cls mi_X9_leak.1 mi_X9_leak.1 ∈ gwl := ⟨gwl_in3 11 rfl rfl, gwl_in3 12 rfl rfl⟩
set_option maxRecDepth 100000 in
theorem cd_X9_leak : Cond.code mi_X9_leak.1 (mi_C mi_X9_leak) (mi_L mi_X9_leak) (mi_R mi_X9_leak) ∈ gwl ∧ Cond.initialized mi_X9_leak.1.cls ∈ gwl ∧ mi_X9_leak.1.cls ≠ "java/lang/invoke/MethodHandle" ∧ mi_X9_leak.1.cls ≠ "java/lang/invoke/VarHandle" ∧ (parseMethodDescriptor mi_X9_leak.1.desc).map (fun d => d.parameters.length) = some 2 := ⟨gwl_in3 13 rfl rfl, gwl_in1 1 rfl rfl, by decide +kernel, by decide +kernel, by decide +kernel⟩
set_option maxRecDepth 100000 in
theorem vt_X10_leak : Cond.instanceMethod mi_X10_leak.1 ∈ gwl ∧ Cond.selects mi_X10_leak.1.cls mi_X10_leak.1 mi_X10_leak.1 ∈ gwl := ⟨gwl_in5 236 rfl rfl, gwl_in5 237 rfl rfl⟩
set_option maxRecDepth 100000 in
theorem cd_X10_leak : Cond.code mi_X10_leak.1 (mi_C mi_X10_leak) (mi_L mi_X10_leak) (mi_R mi_X10_leak) ∈ gwl ∧ Cond.initialized mi_X10_leak.1.cls ∈ gwl ∧ mi_X10_leak.1.cls ≠ "java/lang/invoke/MethodHandle" ∧ mi_X10_leak.1.cls ≠ "java/lang/invoke/VarHandle" ∧ (parseMethodDescriptor mi_X10_leak.1.desc).map (fun d => d.parameters.length) = some 2 := ⟨gwl_in5 238 rfl rfl, gwl_in1 11 rfl rfl, by decide +kernel, by decide +kernel, by decide +kernel⟩
set_option maxRecDepth 100000 in
theorem vt_X9_pitch : Cond.instanceMethod mi_X9_pitch.1 ∈ gwl ∧ Cond.selects mi_X9_pitch.1.cls mi_X9_pitch.1 mi_X9_pitch.1 ∈ gwl := ⟨gwl_in3 15 rfl rfl, gwl_in3 16 rfl rfl⟩
set_option maxRecDepth 100000 in
theorem cd_X9_pitch : Cond.code mi_X9_pitch.1 (mi_C mi_X9_pitch) (mi_L mi_X9_pitch) (mi_R mi_X9_pitch) ∈ gwl ∧ Cond.initialized mi_X9_pitch.1.cls ∈ gwl ∧ mi_X9_pitch.1.cls ≠ "java/lang/invoke/MethodHandle" ∧ mi_X9_pitch.1.cls ≠ "java/lang/invoke/VarHandle" ∧ (parseMethodDescriptor mi_X9_pitch.1.desc).map (fun d => d.parameters.length) = some 2 := ⟨gwl_in3 17 rfl rfl, gwl_in1 1 rfl rfl, by decide +kernel, by decide +kernel, by decide +kernel⟩
set_option maxRecDepth 100000 in
theorem vt_X10_pitch : Cond.instanceMethod mi_X10_pitch.1 ∈ gwl ∧ Cond.selects mi_X10_pitch.1.cls mi_X10_pitch.1 mi_X10_pitch.1 ∈ gwl := ⟨gwl_in6 0 rfl rfl, gwl_in6 1 rfl rfl⟩
set_option maxRecDepth 100000 in
theorem cd_X10_pitch : Cond.code mi_X10_pitch.1 (mi_C mi_X10_pitch) (mi_L mi_X10_pitch) (mi_R mi_X10_pitch) ∈ gwl ∧ Cond.initialized mi_X10_pitch.1.cls ∈ gwl ∧ mi_X10_pitch.1.cls ≠ "java/lang/invoke/MethodHandle" ∧ mi_X10_pitch.1.cls ≠ "java/lang/invoke/VarHandle" ∧ (parseMethodDescriptor mi_X10_pitch.1.desc).map (fun d => d.parameters.length) = some 2 := ⟨gwl_in6 2 rfl rfl, gwl_in1 11 rfl rfl, by decide +kernel, by decide +kernel, by decide +kernel⟩
set_option maxRecDepth 100000 in
theorem vt_X9_holds : Cond.instanceMethod mi_X9_holds.1 ∈ gwl ∧ Cond.selects mi_X9_holds.1.cls mi_X9_holds.1 mi_X9_holds.1 ∈ gwl := ⟨gwl_in3 20 rfl rfl, gwl_in3 21 rfl rfl⟩
set_option maxRecDepth 100000 in
theorem cd_X9_holds : Cond.code mi_X9_holds.1 (mi_C mi_X9_holds) (mi_L mi_X9_holds) (mi_R mi_X9_holds) ∈ gwl ∧ Cond.initialized mi_X9_holds.1.cls ∈ gwl ∧ mi_X9_holds.1.cls ≠ "java/lang/invoke/MethodHandle" ∧ mi_X9_holds.1.cls ≠ "java/lang/invoke/VarHandle" ∧ (parseMethodDescriptor mi_X9_holds.1.desc).map (fun d => d.parameters.length) = some 2 := ⟨gwl_in3 22 rfl rfl, gwl_in1 1 rfl rfl, by decide +kernel, by decide +kernel, by decide +kernel⟩
set_option maxRecDepth 100000 in
theorem vt_X10_holds : Cond.instanceMethod mi_X10_holds.1 ∈ gwl ∧ Cond.selects mi_X10_holds.1.cls mi_X10_holds.1 mi_X10_holds.1 ∈ gwl := ⟨gwl_in6 4 rfl rfl, gwl_in6 5 rfl rfl⟩
set_option maxRecDepth 100000 in
theorem cd_X10_holds : Cond.code mi_X10_holds.1 (mi_C mi_X10_holds) (mi_L mi_X10_holds) (mi_R mi_X10_holds) ∈ gwl ∧ Cond.initialized mi_X10_holds.1.cls ∈ gwl ∧ mi_X10_holds.1.cls ≠ "java/lang/invoke/MethodHandle" ∧ mi_X10_holds.1.cls ≠ "java/lang/invoke/VarHandle" ∧ (parseMethodDescriptor mi_X10_holds.1.desc).map (fun d => d.parameters.length) = some 2 := ⟨gwl_in6 6 rfl rfl, gwl_in1 11 rfl rfl, by decide +kernel, by decide +kernel, by decide +kernel⟩
set_option maxRecDepth 100000 in
theorem vt_X9_tuneAll : Cond.instanceMethod mi_X9_tuneAll.1 ∈ gwl ∧ Cond.selects mi_X9_tuneAll.1.cls mi_X9_tuneAll.1 mi_X9_tuneAll.1 ∈ gwl := ⟨gwl_in3 28 rfl rfl, gwl_in3 29 rfl rfl⟩
set_option maxRecDepth 100000 in
theorem cd_X9_tuneAll : Cond.code mi_X9_tuneAll.1 (mi_C mi_X9_tuneAll) (mi_L mi_X9_tuneAll) (mi_R mi_X9_tuneAll) ∈ gwl ∧ Cond.initialized mi_X9_tuneAll.1.cls ∈ gwl ∧ mi_X9_tuneAll.1.cls ≠ "java/lang/invoke/MethodHandle" ∧ mi_X9_tuneAll.1.cls ≠ "java/lang/invoke/VarHandle" ∧ (parseMethodDescriptor mi_X9_tuneAll.1.desc).map (fun d => d.parameters.length) = some 1 := ⟨gwl_in3 30 rfl rfl, gwl_in1 1 rfl rfl, by decide +kernel, by decide +kernel, by decide +kernel⟩
set_option maxRecDepth 100000 in
theorem vt_X10_tuneAll : Cond.instanceMethod mi_X10_tuneAll.1 ∈ gwl ∧ Cond.selects mi_X10_tuneAll.1.cls mi_X10_tuneAll.1 mi_X10_tuneAll.1 ∈ gwl := ⟨gwl_in6 9 rfl rfl, gwl_in6 10 rfl rfl⟩
set_option maxRecDepth 100000 in
theorem cd_X10_tuneAll : Cond.code mi_X10_tuneAll.1 (mi_C mi_X10_tuneAll) (mi_L mi_X10_tuneAll) (mi_R mi_X10_tuneAll) ∈ gwl ∧ Cond.initialized mi_X10_tuneAll.1.cls ∈ gwl ∧ mi_X10_tuneAll.1.cls ≠ "java/lang/invoke/MethodHandle" ∧ mi_X10_tuneAll.1.cls ≠ "java/lang/invoke/VarHandle" ∧ (parseMethodDescriptor mi_X10_tuneAll.1.desc).map (fun d => d.parameters.length) = some 1 := ⟨gwl_in6 11 rfl rfl, gwl_in1 11 rfl rfl, by decide +kernel, by decide +kernel, by decide +kernel⟩
set_option maxRecDepth 100000 in
theorem vt_X9_agree : Cond.instanceMethod mi_X9_agree.1 ∈ gwl ∧ Cond.selects mi_X9_agree.1.cls mi_X9_agree.1 mi_X9_agree.1 ∈ gwl := ⟨gwl_in3 41 rfl rfl, gwl_in3 42 rfl rfl⟩
set_option maxRecDepth 100000 in
theorem cd_X9_agree : Cond.code mi_X9_agree.1 (mi_C mi_X9_agree) (mi_L mi_X9_agree) (mi_R mi_X9_agree) ∈ gwl ∧ Cond.initialized mi_X9_agree.1.cls ∈ gwl ∧ mi_X9_agree.1.cls ≠ "java/lang/invoke/MethodHandle" ∧ mi_X9_agree.1.cls ≠ "java/lang/invoke/VarHandle" ∧ (parseMethodDescriptor mi_X9_agree.1.desc).map (fun d => d.parameters.length) = some 1 := ⟨gwl_in3 43 rfl rfl, gwl_in1 1 rfl rfl, by decide +kernel, by decide +kernel, by decide +kernel⟩
set_option maxRecDepth 100000 in
theorem vt_X10_agree : Cond.instanceMethod mi_X10_agree.1 ∈ gwl ∧ Cond.selects mi_X10_agree.1.cls mi_X10_agree.1 mi_X10_agree.1 ∈ gwl := ⟨gwl_in6 13 rfl rfl, gwl_in6 14 rfl rfl⟩
set_option maxRecDepth 100000 in
theorem cd_X10_agree : Cond.code mi_X10_agree.1 (mi_C mi_X10_agree) (mi_L mi_X10_agree) (mi_R mi_X10_agree) ∈ gwl ∧ Cond.initialized mi_X10_agree.1.cls ∈ gwl ∧ mi_X10_agree.1.cls ≠ "java/lang/invoke/MethodHandle" ∧ mi_X10_agree.1.cls ≠ "java/lang/invoke/VarHandle" ∧ (parseMethodDescriptor mi_X10_agree.1.desc).map (fun d => d.parameters.length) = some 1 := ⟨gwl_in6 15 rfl rfl, gwl_in1 11 rfl rfl, by decide +kernel, by decide +kernel, by decide +kernel⟩
set_option maxRecDepth 100000 in
theorem vt_X9_feed : Cond.instanceMethod mi_X9_feed.1 ∈ gwl ∧ Cond.selects mi_X9_feed.1.cls mi_X9_feed.1 mi_X9_feed.1 ∈ gwl := ⟨gwl_in3 46 rfl rfl, gwl_in3 47 rfl rfl⟩
set_option maxRecDepth 100000 in
theorem cd_X9_feed : Cond.code mi_X9_feed.1 (mi_C mi_X9_feed) (mi_L mi_X9_feed) (mi_R mi_X9_feed) ∈ gwl ∧ Cond.initialized mi_X9_feed.1.cls ∈ gwl ∧ mi_X9_feed.1.cls ≠ "java/lang/invoke/MethodHandle" ∧ mi_X9_feed.1.cls ≠ "java/lang/invoke/VarHandle" ∧ (parseMethodDescriptor mi_X9_feed.1.desc).map (fun d => d.parameters.length) = some 1 := ⟨gwl_in3 48 rfl rfl, gwl_in1 1 rfl rfl, by decide +kernel, by decide +kernel, by decide +kernel⟩
set_option maxRecDepth 100000 in
theorem vt_X10_feed : Cond.instanceMethod mi_X10_feed.1 ∈ gwl ∧ Cond.selects mi_X10_feed.1.cls mi_X10_feed.1 mi_X10_feed.1 ∈ gwl := ⟨gwl_in6 19 rfl rfl, gwl_in6 20 rfl rfl⟩
set_option maxRecDepth 100000 in
theorem cd_X10_feed : Cond.code mi_X10_feed.1 (mi_C mi_X10_feed) (mi_L mi_X10_feed) (mi_R mi_X10_feed) ∈ gwl ∧ Cond.initialized mi_X10_feed.1.cls ∈ gwl ∧ mi_X10_feed.1.cls ≠ "java/lang/invoke/MethodHandle" ∧ mi_X10_feed.1.cls ≠ "java/lang/invoke/VarHandle" ∧ (parseMethodDescriptor mi_X10_feed.1.desc).map (fun d => d.parameters.length) = some 1 := ⟨gwl_in6 21 rfl rfl, gwl_in1 11 rfl rfl, by decide +kernel, by decide +kernel, by decide +kernel⟩
set_option maxRecDepth 100000 in
theorem vt_X9_end : Cond.instanceMethod mi_X9_end.1 ∈ gwl ∧ Cond.selects mi_X9_end.1.cls mi_X9_end.1 mi_X9_end.1 ∈ gwl := ⟨gwl_in3 54 rfl rfl, gwl_in3 55 rfl rfl⟩
set_option maxRecDepth 100000 in
theorem cd_X9_end : Cond.code mi_X9_end.1 (mi_C mi_X9_end) (mi_L mi_X9_end) (mi_R mi_X9_end) ∈ gwl ∧ Cond.initialized mi_X9_end.1.cls ∈ gwl ∧ mi_X9_end.1.cls ≠ "java/lang/invoke/MethodHandle" ∧ mi_X9_end.1.cls ≠ "java/lang/invoke/VarHandle" ∧ (parseMethodDescriptor mi_X9_end.1.desc).map (fun d => d.parameters.length) = some 1 := ⟨gwl_in3 56 rfl rfl, gwl_in1 1 rfl rfl, by decide +kernel, by decide +kernel, by decide +kernel⟩
set_option maxRecDepth 100000 in
theorem vt_X10_end : Cond.instanceMethod mi_X10_end.1 ∈ gwl ∧ Cond.selects mi_X10_end.1.cls mi_X10_end.1 mi_X10_end.1 ∈ gwl := ⟨gwl_in6 24 rfl rfl, gwl_in6 25 rfl rfl⟩
set_option maxRecDepth 100000 in
theorem cd_X10_end : Cond.code mi_X10_end.1 (mi_C mi_X10_end) (mi_L mi_X10_end) (mi_R mi_X10_end) ∈ gwl ∧ Cond.initialized mi_X10_end.1.cls ∈ gwl ∧ mi_X10_end.1.cls ≠ "java/lang/invoke/MethodHandle" ∧ mi_X10_end.1.cls ≠ "java/lang/invoke/VarHandle" ∧ (parseMethodDescriptor mi_X10_end.1.desc).map (fun d => d.parameters.length) = some 1 := ⟨gwl_in6 26 rfl rfl, gwl_in1 11 rfl rfl, by decide +kernel, by decide +kernel, by decide +kernel⟩
set_option maxRecDepth 100000 in
theorem vt_X9_tune : Cond.instanceMethod mi_X9_tune.1 ∈ gwl ∧ Cond.selects mi_X9_tune.1.cls mi_X9_tune.1 mi_X9_tune.1 ∈ gwl := ⟨gwl_in3 58 rfl rfl, gwl_in3 59 rfl rfl⟩
set_option maxRecDepth 100000 in
theorem cd_X9_tune : Cond.code mi_X9_tune.1 (mi_C mi_X9_tune) (mi_L mi_X9_tune) (mi_R mi_X9_tune) ∈ gwl ∧ Cond.initialized mi_X9_tune.1.cls ∈ gwl ∧ mi_X9_tune.1.cls ≠ "java/lang/invoke/MethodHandle" ∧ mi_X9_tune.1.cls ≠ "java/lang/invoke/VarHandle" ∧ (parseMethodDescriptor mi_X9_tune.1.desc).map (fun d => d.parameters.length) = some 0 := ⟨gwl_in3 60 rfl rfl, gwl_in1 1 rfl rfl, by decide +kernel, by decide +kernel, by decide +kernel⟩
set_option maxRecDepth 100000 in
theorem vt_X10_tune : Cond.instanceMethod mi_X10_tune.1 ∈ gwl ∧ Cond.selects mi_X10_tune.1.cls mi_X10_tune.1 mi_X10_tune.1 ∈ gwl := ⟨gwl_in6 28 rfl rfl, gwl_in6 29 rfl rfl⟩
set_option maxRecDepth 100000 in
theorem cd_X10_tune : Cond.code mi_X10_tune.1 (mi_C mi_X10_tune) (mi_L mi_X10_tune) (mi_R mi_X10_tune) ∈ gwl ∧ Cond.initialized mi_X10_tune.1.cls ∈ gwl ∧ mi_X10_tune.1.cls ≠ "java/lang/invoke/MethodHandle" ∧ mi_X10_tune.1.cls ≠ "java/lang/invoke/VarHandle" ∧ (parseMethodDescriptor mi_X10_tune.1.desc).map (fun d => d.parameters.length) = some 0 := ⟨gwl_in6 30 rfl rfl, gwl_in1 11 rfl rfl, by decide +kernel, by decide +kernel, by decide +kernel⟩
set_option maxRecDepth 100000 in
theorem vt_X9_fault : Cond.instanceMethod mi_X9_fault.1 ∈ gwl ∧ Cond.selects mi_X9_fault.1.cls mi_X9_fault.1 mi_X9_fault.1 ∈ gwl := ⟨gwl_in3 133 rfl rfl, gwl_in3 134 rfl rfl⟩
set_option maxRecDepth 100000 in
theorem cd_X9_fault : Cond.code mi_X9_fault.1 (mi_C mi_X9_fault) (mi_L mi_X9_fault) (mi_R mi_X9_fault) ∈ gwl ∧ Cond.initialized mi_X9_fault.1.cls ∈ gwl ∧ mi_X9_fault.1.cls ≠ "java/lang/invoke/MethodHandle" ∧ mi_X9_fault.1.cls ≠ "java/lang/invoke/VarHandle" ∧ (parseMethodDescriptor mi_X9_fault.1.desc).map (fun d => d.parameters.length) = some 0 := ⟨gwl_in3 135 rfl rfl, gwl_in1 1 rfl rfl, by decide +kernel, by decide +kernel, by decide +kernel⟩
set_option maxRecDepth 100000 in
theorem vt_X10_fault : Cond.instanceMethod mi_X10_fault.1 ∈ gwl ∧ Cond.selects mi_X10_fault.1.cls mi_X10_fault.1 mi_X10_fault.1 ∈ gwl := ⟨gwl_in6 75 rfl rfl, gwl_in6 76 rfl rfl⟩
set_option maxRecDepth 100000 in
theorem cd_X10_fault : Cond.code mi_X10_fault.1 (mi_C mi_X10_fault) (mi_L mi_X10_fault) (mi_R mi_X10_fault) ∈ gwl ∧ Cond.initialized mi_X10_fault.1.cls ∈ gwl ∧ mi_X10_fault.1.cls ≠ "java/lang/invoke/MethodHandle" ∧ mi_X10_fault.1.cls ≠ "java/lang/invoke/VarHandle" ∧ (parseMethodDescriptor mi_X10_fault.1.desc).map (fun d => d.parameters.length) = some 0 := ⟨gwl_in6 77 rfl rfl, gwl_in1 11 rfl rfl, by decide +kernel, by decide +kernel, by decide +kernel⟩
set_option maxRecDepth 100000 in
theorem vt_X9_tuneOf : Cond.instanceMethod mi_X9_tuneOf.1 ∈ gwl ∧ Cond.selects mi_X9_tuneOf.1.cls mi_X9_tuneOf.1 mi_X9_tuneOf.1 ∈ gwl := ⟨gwl_in3 137 rfl rfl, gwl_in3 138 rfl rfl⟩
set_option maxRecDepth 100000 in
theorem cd_X9_tuneOf : Cond.code mi_X9_tuneOf.1 (mi_C mi_X9_tuneOf) (mi_L mi_X9_tuneOf) (mi_R mi_X9_tuneOf) ∈ gwl ∧ Cond.initialized mi_X9_tuneOf.1.cls ∈ gwl ∧ mi_X9_tuneOf.1.cls ≠ "java/lang/invoke/MethodHandle" ∧ mi_X9_tuneOf.1.cls ≠ "java/lang/invoke/VarHandle" ∧ (parseMethodDescriptor mi_X9_tuneOf.1.desc).map (fun d => d.parameters.length) = some 2 := ⟨gwl_in3 139 rfl rfl, gwl_in1 1 rfl rfl, by decide +kernel, by decide +kernel, by decide +kernel⟩
set_option maxRecDepth 100000 in
theorem vt_X10_tuneOf : Cond.instanceMethod mi_X10_tuneOf.1 ∈ gwl ∧ Cond.selects mi_X10_tuneOf.1.cls mi_X10_tuneOf.1 mi_X10_tuneOf.1 ∈ gwl := ⟨gwl_in6 79 rfl rfl, gwl_in6 80 rfl rfl⟩
set_option maxRecDepth 100000 in
theorem cd_X10_tuneOf : Cond.code mi_X10_tuneOf.1 (mi_C mi_X10_tuneOf) (mi_L mi_X10_tuneOf) (mi_R mi_X10_tuneOf) ∈ gwl ∧ Cond.initialized mi_X10_tuneOf.1.cls ∈ gwl ∧ mi_X10_tuneOf.1.cls ≠ "java/lang/invoke/MethodHandle" ∧ mi_X10_tuneOf.1.cls ≠ "java/lang/invoke/VarHandle" ∧ (parseMethodDescriptor mi_X10_tuneOf.1.desc).map (fun d => d.parameters.length) = some 2 := ⟨gwl_in6 81 rfl rfl, gwl_in1 11 rfl rfl, by decide +kernel, by decide +kernel, by decide +kernel⟩
set_option maxRecDepth 100000 in
theorem vt_X9_play : Cond.instanceMethod mi_X9_play.1 ∈ gwl ∧ Cond.selects mi_X9_play.1.cls mi_X9_play.1 mi_X9_play.1 ∈ gwl := ⟨gwl_in3 170 rfl rfl, gwl_in3 171 rfl rfl⟩
set_option maxRecDepth 100000 in
theorem cd_X9_play : Cond.code mi_X9_play.1 (mi_C mi_X9_play) (mi_L mi_X9_play) (mi_R mi_X9_play) ∈ gwl ∧ Cond.initialized mi_X9_play.1.cls ∈ gwl ∧ mi_X9_play.1.cls ≠ "java/lang/invoke/MethodHandle" ∧ mi_X9_play.1.cls ≠ "java/lang/invoke/VarHandle" ∧ (parseMethodDescriptor mi_X9_play.1.desc).map (fun d => d.parameters.length) = some 2 := ⟨gwl_in3 172 rfl rfl, gwl_in1 1 rfl rfl, by decide +kernel, by decide +kernel, by decide +kernel⟩
set_option maxRecDepth 100000 in
theorem vt_X10_play : Cond.instanceMethod mi_X10_play.1 ∈ gwl ∧ Cond.selects mi_X10_play.1.cls mi_X10_play.1 mi_X10_play.1 ∈ gwl := ⟨gwl_in6 97 rfl rfl, gwl_in6 98 rfl rfl⟩
set_option maxRecDepth 100000 in
theorem cd_X10_play : Cond.code mi_X10_play.1 (mi_C mi_X10_play) (mi_L mi_X10_play) (mi_R mi_X10_play) ∈ gwl ∧ Cond.initialized mi_X10_play.1.cls ∈ gwl ∧ mi_X10_play.1.cls ≠ "java/lang/invoke/MethodHandle" ∧ mi_X10_play.1.cls ≠ "java/lang/invoke/VarHandle" ∧ (parseMethodDescriptor mi_X10_play.1.desc).map (fun d => d.parameters.length) = some 2 := ⟨gwl_in6 99 rfl rfl, gwl_in1 11 rfl rfl, by decide +kernel, by decide +kernel, by decide +kernel⟩
set_option maxRecDepth 100000 in
theorem vt_X9_would : Cond.instanceMethod mi_X9_would.1 ∈ gwl ∧ Cond.selects mi_X9_would.1.cls mi_X9_would.1 mi_X9_would.1 ∈ gwl := ⟨gwl_in3 197 rfl rfl, gwl_in3 198 rfl rfl⟩
set_option maxRecDepth 100000 in
theorem cd_X9_would : Cond.code mi_X9_would.1 (mi_C mi_X9_would) (mi_L mi_X9_would) (mi_R mi_X9_would) ∈ gwl ∧ Cond.initialized mi_X9_would.1.cls ∈ gwl ∧ mi_X9_would.1.cls ≠ "java/lang/invoke/MethodHandle" ∧ mi_X9_would.1.cls ≠ "java/lang/invoke/VarHandle" ∧ (parseMethodDescriptor mi_X9_would.1.desc).map (fun d => d.parameters.length) = some 2 := ⟨gwl_in3 199 rfl rfl, gwl_in1 1 rfl rfl, by decide +kernel, by decide +kernel, by decide +kernel⟩
set_option maxRecDepth 100000 in
theorem vt_X10_would : Cond.instanceMethod mi_X10_would.1 ∈ gwl ∧ Cond.selects mi_X10_would.1.cls mi_X10_would.1 mi_X10_would.1 ∈ gwl := ⟨gwl_in6 119 rfl rfl, gwl_in6 120 rfl rfl⟩
set_option maxRecDepth 100000 in
theorem cd_X10_would : Cond.code mi_X10_would.1 (mi_C mi_X10_would) (mi_L mi_X10_would) (mi_R mi_X10_would) ∈ gwl ∧ Cond.initialized mi_X10_would.1.cls ∈ gwl ∧ mi_X10_would.1.cls ≠ "java/lang/invoke/MethodHandle" ∧ mi_X10_would.1.cls ≠ "java/lang/invoke/VarHandle" ∧ (parseMethodDescriptor mi_X10_would.1.desc).map (fun d => d.parameters.length) = some 2 := ⟨gwl_in6 121 rfl rfl, gwl_in1 11 rfl rfl, by decide +kernel, by decide +kernel, by decide +kernel⟩
set_option maxRecDepth 100000 in
theorem vt_X9_key : Cond.instanceMethod mi_X9_key.1 ∈ gwl ∧ Cond.selects mi_X9_key.1.cls mi_X9_key.1 mi_X9_key.1 ∈ gwl := ⟨gwl_in3 201 rfl rfl, gwl_in3 202 rfl rfl⟩
set_option maxRecDepth 100000 in
theorem cd_X9_key : Cond.code mi_X9_key.1 (mi_C mi_X9_key) (mi_L mi_X9_key) (mi_R mi_X9_key) ∈ gwl ∧ Cond.initialized mi_X9_key.1.cls ∈ gwl ∧ mi_X9_key.1.cls ≠ "java/lang/invoke/MethodHandle" ∧ mi_X9_key.1.cls ≠ "java/lang/invoke/VarHandle" ∧ (parseMethodDescriptor mi_X9_key.1.desc).map (fun d => d.parameters.length) = some 2 := ⟨gwl_in3 203 rfl rfl, gwl_in1 1 rfl rfl, by decide +kernel, by decide +kernel, by decide +kernel⟩
set_option maxRecDepth 100000 in
theorem vt_X10_key : Cond.instanceMethod mi_X10_key.1 ∈ gwl ∧ Cond.selects mi_X10_key.1.cls mi_X10_key.1 mi_X10_key.1 ∈ gwl := ⟨gwl_in6 123 rfl rfl, gwl_in6 124 rfl rfl⟩
set_option maxRecDepth 100000 in
theorem cd_X10_key : Cond.code mi_X10_key.1 (mi_C mi_X10_key) (mi_L mi_X10_key) (mi_R mi_X10_key) ∈ gwl ∧ Cond.initialized mi_X10_key.1.cls ∈ gwl ∧ mi_X10_key.1.cls ≠ "java/lang/invoke/MethodHandle" ∧ mi_X10_key.1.cls ≠ "java/lang/invoke/VarHandle" ∧ (parseMethodDescriptor mi_X10_key.1.desc).map (fun d => d.parameters.length) = some 2 := ⟨gwl_in6 125 rfl rfl, gwl_in1 11 rfl rfl, by decide +kernel, by decide +kernel, by decide +kernel⟩
set_option maxRecDepth 100000 in
theorem vt_X9_set : Cond.instanceMethod mi_X9_set.1 ∈ gwl ∧ Cond.selects mi_X9_set.1.cls mi_X9_set.1 mi_X9_set.1 ∈ gwl := ⟨gwl_in3 206 rfl rfl, gwl_in3 207 rfl rfl⟩
set_option maxRecDepth 100000 in
theorem cd_X9_set : Cond.code mi_X9_set.1 (mi_C mi_X9_set) (mi_L mi_X9_set) (mi_R mi_X9_set) ∈ gwl ∧ Cond.initialized mi_X9_set.1.cls ∈ gwl ∧ mi_X9_set.1.cls ≠ "java/lang/invoke/MethodHandle" ∧ mi_X9_set.1.cls ≠ "java/lang/invoke/VarHandle" ∧ (parseMethodDescriptor mi_X9_set.1.desc).map (fun d => d.parameters.length) = some 5 := ⟨gwl_in3 208 rfl rfl, gwl_in1 1 rfl rfl, by decide +kernel, by decide +kernel, by decide +kernel⟩
set_option maxRecDepth 100000 in
theorem vt_X10_set : Cond.instanceMethod mi_X10_set.1 ∈ gwl ∧ Cond.selects mi_X10_set.1.cls mi_X10_set.1 mi_X10_set.1 ∈ gwl := ⟨gwl_in6 127 rfl rfl, gwl_in6 128 rfl rfl⟩
set_option maxRecDepth 100000 in
theorem cd_X10_set : Cond.code mi_X10_set.1 (mi_C mi_X10_set) (mi_L mi_X10_set) (mi_R mi_X10_set) ∈ gwl ∧ Cond.initialized mi_X10_set.1.cls ∈ gwl ∧ mi_X10_set.1.cls ≠ "java/lang/invoke/MethodHandle" ∧ mi_X10_set.1.cls ≠ "java/lang/invoke/VarHandle" ∧ (parseMethodDescriptor mi_X10_set.1.desc).map (fun d => d.parameters.length) = some 5 := ⟨gwl_in6 129 rfl rfl, gwl_in1 11 rfl rfl, by decide +kernel, by decide +kernel, by decide +kernel⟩
set_option maxRecDepth 100000 in
theorem vt_X9_blame : Cond.instanceMethod mi_X9_blame.1 ∈ gwl ∧ Cond.selects mi_X9_blame.1.cls mi_X9_blame.1 mi_X9_blame.1 ∈ gwl := ⟨gwl_in4 46 rfl rfl, gwl_in4 47 rfl rfl⟩
set_option maxRecDepth 100000 in
theorem cd_X9_blame : Cond.code mi_X9_blame.1 (mi_C mi_X9_blame) (mi_L mi_X9_blame) (mi_R mi_X9_blame) ∈ gwl ∧ Cond.initialized mi_X9_blame.1.cls ∈ gwl ∧ mi_X9_blame.1.cls ≠ "java/lang/invoke/MethodHandle" ∧ mi_X9_blame.1.cls ≠ "java/lang/invoke/VarHandle" ∧ (parseMethodDescriptor mi_X9_blame.1.desc).map (fun d => d.parameters.length) = some 7 := ⟨gwl_in4 48 rfl rfl, gwl_in1 1 rfl rfl, by decide +kernel, by decide +kernel, by decide +kernel⟩
set_option maxRecDepth 100000 in
theorem vt_X10_blame : Cond.instanceMethod mi_X10_blame.1 ∈ gwl ∧ Cond.selects mi_X10_blame.1.cls mi_X10_blame.1 mi_X10_blame.1 ∈ gwl := ⟨gwl_in6 158 rfl rfl, gwl_in6 159 rfl rfl⟩
set_option maxRecDepth 100000 in
theorem cd_X10_blame : Cond.code mi_X10_blame.1 (mi_C mi_X10_blame) (mi_L mi_X10_blame) (mi_R mi_X10_blame) ∈ gwl ∧ Cond.initialized mi_X10_blame.1.cls ∈ gwl ∧ mi_X10_blame.1.cls ≠ "java/lang/invoke/MethodHandle" ∧ mi_X10_blame.1.cls ≠ "java/lang/invoke/VarHandle" ∧ (parseMethodDescriptor mi_X10_blame.1.desc).map (fun d => d.parameters.length) = some 7 := ⟨gwl_in6 160 rfl rfl, gwl_in1 11 rfl rfl, by decide +kernel, by decide +kernel, by decide +kernel⟩
set_option maxRecDepth 100000 in
theorem vt_X9_boat : Cond.instanceMethod mi_X9_boat.1 ∈ gwl ∧ Cond.selects mi_X9_boat.1.cls mi_X9_boat.1 mi_X9_boat.1 ∈ gwl := ⟨gwl_in4 115 rfl rfl, gwl_in4 116 rfl rfl⟩
set_option maxRecDepth 100000 in
theorem cd_X9_boat : Cond.code mi_X9_boat.1 (mi_C mi_X9_boat) (mi_L mi_X9_boat) (mi_R mi_X9_boat) ∈ gwl ∧ Cond.initialized mi_X9_boat.1.cls ∈ gwl ∧ mi_X9_boat.1.cls ≠ "java/lang/invoke/MethodHandle" ∧ mi_X9_boat.1.cls ≠ "java/lang/invoke/VarHandle" ∧ (parseMethodDescriptor mi_X9_boat.1.desc).map (fun d => d.parameters.length) = some 2 := ⟨gwl_in4 117 rfl rfl, gwl_in1 1 rfl rfl, by decide +kernel, by decide +kernel, by decide +kernel⟩
set_option maxRecDepth 100000 in
theorem vt_X10_boat : Cond.instanceMethod mi_X10_boat.1 ∈ gwl ∧ Cond.selects mi_X10_boat.1.cls mi_X10_boat.1 mi_X10_boat.1 ∈ gwl := ⟨gwl_in6 176 rfl rfl, gwl_in6 177 rfl rfl⟩
set_option maxRecDepth 100000 in
theorem cd_X10_boat : Cond.code mi_X10_boat.1 (mi_C mi_X10_boat) (mi_L mi_X10_boat) (mi_R mi_X10_boat) ∈ gwl ∧ Cond.initialized mi_X10_boat.1.cls ∈ gwl ∧ mi_X10_boat.1.cls ≠ "java/lang/invoke/MethodHandle" ∧ mi_X10_boat.1.cls ≠ "java/lang/invoke/VarHandle" ∧ (parseMethodDescriptor mi_X10_boat.1.desc).map (fun d => d.parameters.length) = some 2 := ⟨gwl_in6 178 rfl rfl, gwl_in1 11 rfl rfl, by decide +kernel, by decide +kernel, by decide +kernel⟩
set_option maxRecDepth 100000 in
theorem vt_X9_bend : Cond.instanceMethod mi_X9_bend.1 ∈ gwl ∧ Cond.selects mi_X9_bend.1.cls mi_X9_bend.1 mi_X9_bend.1 ∈ gwl := ⟨gwl_in4 126 rfl rfl, gwl_in4 127 rfl rfl⟩
set_option maxRecDepth 100000 in
theorem cd_X9_bend : Cond.code mi_X9_bend.1 (mi_C mi_X9_bend) (mi_L mi_X9_bend) (mi_R mi_X9_bend) ∈ gwl ∧ Cond.initialized mi_X9_bend.1.cls ∈ gwl ∧ mi_X9_bend.1.cls ≠ "java/lang/invoke/MethodHandle" ∧ mi_X9_bend.1.cls ≠ "java/lang/invoke/VarHandle" ∧ (parseMethodDescriptor mi_X9_bend.1.desc).map (fun d => d.parameters.length) = some 2 := ⟨gwl_in4 128 rfl rfl, gwl_in1 1 rfl rfl, by decide +kernel, by decide +kernel, by decide +kernel⟩
set_option maxRecDepth 100000 in
theorem vt_X10_bend : Cond.instanceMethod mi_X10_bend.1 ∈ gwl ∧ Cond.selects mi_X10_bend.1.cls mi_X10_bend.1 mi_X10_bend.1 ∈ gwl := ⟨gwl_in6 182 rfl rfl, gwl_in6 183 rfl rfl⟩
set_option maxRecDepth 100000 in
theorem cd_X10_bend : Cond.code mi_X10_bend.1 (mi_C mi_X10_bend) (mi_L mi_X10_bend) (mi_R mi_X10_bend) ∈ gwl ∧ Cond.initialized mi_X10_bend.1.cls ∈ gwl ∧ mi_X10_bend.1.cls ≠ "java/lang/invoke/MethodHandle" ∧ mi_X10_bend.1.cls ≠ "java/lang/invoke/VarHandle" ∧ (parseMethodDescriptor mi_X10_bend.1.desc).map (fun d => d.parameters.length) = some 2 := ⟨gwl_in6 184 rfl rfl, gwl_in1 11 rfl rfl, by decide +kernel, by decide +kernel, by decide +kernel⟩
set_option maxRecDepth 100000 in
theorem vt_X9_speed : Cond.instanceMethod mi_X9_speed.1 ∈ gwl ∧ Cond.selects mi_X9_speed.1.cls mi_X9_speed.1 mi_X9_speed.1 ∈ gwl := ⟨gwl_in4 138 rfl rfl, gwl_in4 139 rfl rfl⟩
set_option maxRecDepth 100000 in
theorem cd_X9_speed : Cond.code mi_X9_speed.1 (mi_C mi_X9_speed) (mi_L mi_X9_speed) (mi_R mi_X9_speed) ∈ gwl ∧ Cond.initialized mi_X9_speed.1.cls ∈ gwl ∧ mi_X9_speed.1.cls ≠ "java/lang/invoke/MethodHandle" ∧ mi_X9_speed.1.cls ≠ "java/lang/invoke/VarHandle" ∧ (parseMethodDescriptor mi_X9_speed.1.desc).map (fun d => d.parameters.length) = some 1 := ⟨gwl_in4 140 rfl rfl, gwl_in1 1 rfl rfl, by decide +kernel, by decide +kernel, by decide +kernel⟩
set_option maxRecDepth 100000 in
theorem vt_X10_speed : Cond.instanceMethod mi_X10_speed.1 ∈ gwl ∧ Cond.selects mi_X10_speed.1.cls mi_X10_speed.1 mi_X10_speed.1 ∈ gwl := ⟨gwl_in6 186 rfl rfl, gwl_in6 187 rfl rfl⟩
set_option maxRecDepth 100000 in
theorem cd_X10_speed : Cond.code mi_X10_speed.1 (mi_C mi_X10_speed) (mi_L mi_X10_speed) (mi_R mi_X10_speed) ∈ gwl ∧ Cond.initialized mi_X10_speed.1.cls ∈ gwl ∧ mi_X10_speed.1.cls ≠ "java/lang/invoke/MethodHandle" ∧ mi_X10_speed.1.cls ≠ "java/lang/invoke/VarHandle" ∧ (parseMethodDescriptor mi_X10_speed.1.desc).map (fun d => d.parameters.length) = some 1 := ⟨gwl_in6 188 rfl rfl, gwl_in1 11 rfl rfl, by decide +kernel, by decide +kernel, by decide +kernel⟩
set_option maxRecDepth 100000 in
theorem vt_X9_far : Cond.instanceMethod mi_X9_far.1 ∈ gwl ∧ Cond.selects mi_X9_far.1.cls mi_X9_far.1 mi_X9_far.1 ∈ gwl := ⟨gwl_in4 142 rfl rfl, gwl_in4 143 rfl rfl⟩
set_option maxRecDepth 100000 in
theorem cd_X9_far : Cond.code mi_X9_far.1 (mi_C mi_X9_far) (mi_L mi_X9_far) (mi_R mi_X9_far) ∈ gwl ∧ Cond.initialized mi_X9_far.1.cls ∈ gwl ∧ mi_X9_far.1.cls ≠ "java/lang/invoke/MethodHandle" ∧ mi_X9_far.1.cls ≠ "java/lang/invoke/VarHandle" ∧ (parseMethodDescriptor mi_X9_far.1.desc).map (fun d => d.parameters.length) = some 2 := ⟨gwl_in4 144 rfl rfl, gwl_in1 1 rfl rfl, by decide +kernel, by decide +kernel, by decide +kernel⟩
set_option maxRecDepth 100000 in
theorem vt_X10_far : Cond.instanceMethod mi_X10_far.1 ∈ gwl ∧ Cond.selects mi_X10_far.1.cls mi_X10_far.1 mi_X10_far.1 ∈ gwl := ⟨gwl_in6 190 rfl rfl, gwl_in6 191 rfl rfl⟩
set_option maxRecDepth 100000 in
theorem cd_X10_far : Cond.code mi_X10_far.1 (mi_C mi_X10_far) (mi_L mi_X10_far) (mi_R mi_X10_far) ∈ gwl ∧ Cond.initialized mi_X10_far.1.cls ∈ gwl ∧ mi_X10_far.1.cls ≠ "java/lang/invoke/MethodHandle" ∧ mi_X10_far.1.cls ≠ "java/lang/invoke/VarHandle" ∧ (parseMethodDescriptor mi_X10_far.1.desc).map (fun d => d.parameters.length) = some 2 := ⟨gwl_in6 192 rfl rfl, gwl_in1 11 rfl rfl, by decide +kernel, by decide +kernel, by decide +kernel⟩
set_option maxRecDepth 100000 in
theorem vt_X9_heard : Cond.instanceMethod mi_X9_heard.1 ∈ gwl ∧ Cond.selects mi_X9_heard.1.cls mi_X9_heard.1 mi_X9_heard.1 ∈ gwl := ⟨gwl_in4 152 rfl rfl, gwl_in4 153 rfl rfl⟩
set_option maxRecDepth 100000 in
theorem cd_X9_heard : Cond.code mi_X9_heard.1 (mi_C mi_X9_heard) (mi_L mi_X9_heard) (mi_R mi_X9_heard) ∈ gwl ∧ Cond.initialized mi_X9_heard.1.cls ∈ gwl ∧ mi_X9_heard.1.cls ≠ "java/lang/invoke/MethodHandle" ∧ mi_X9_heard.1.cls ≠ "java/lang/invoke/VarHandle" ∧ (parseMethodDescriptor mi_X9_heard.1.desc).map (fun d => d.parameters.length) = some 3 := ⟨gwl_in4 154 rfl rfl, gwl_in1 1 rfl rfl, by decide +kernel, by decide +kernel, by decide +kernel⟩
set_option maxRecDepth 100000 in
theorem vt_X10_heard : Cond.instanceMethod mi_X10_heard.1 ∈ gwl ∧ Cond.selects mi_X10_heard.1.cls mi_X10_heard.1 mi_X10_heard.1 ∈ gwl := ⟨gwl_in6 198 rfl rfl, gwl_in6 199 rfl rfl⟩
set_option maxRecDepth 100000 in
theorem cd_X10_heard : Cond.code mi_X10_heard.1 (mi_C mi_X10_heard) (mi_L mi_X10_heard) (mi_R mi_X10_heard) ∈ gwl ∧ Cond.initialized mi_X10_heard.1.cls ∈ gwl ∧ mi_X10_heard.1.cls ≠ "java/lang/invoke/MethodHandle" ∧ mi_X10_heard.1.cls ≠ "java/lang/invoke/VarHandle" ∧ (parseMethodDescriptor mi_X10_heard.1.desc).map (fun d => d.parameters.length) = some 3 := ⟨gwl_in6 200 rfl rfl, gwl_in1 11 rfl rfl, by decide +kernel, by decide +kernel, by decide +kernel⟩
set_option maxRecDepth 100000 in
theorem vt_X9_step : Cond.instanceMethod mi_X9_step.1 ∈ gwl ∧ Cond.selects mi_X9_step.1.cls mi_X9_step.1 mi_X9_step.1 ∈ gwl := ⟨gwl_in4 165 rfl rfl, gwl_in4 166 rfl rfl⟩
set_option maxRecDepth 100000 in
theorem cd_X9_step : Cond.code mi_X9_step.1 (mi_C mi_X9_step) (mi_L mi_X9_step) (mi_R mi_X9_step) ∈ gwl ∧ Cond.initialized mi_X9_step.1.cls ∈ gwl ∧ mi_X9_step.1.cls ≠ "java/lang/invoke/MethodHandle" ∧ mi_X9_step.1.cls ≠ "java/lang/invoke/VarHandle" ∧ (parseMethodDescriptor mi_X9_step.1.desc).map (fun d => d.parameters.length) = some 3 := ⟨gwl_in4 167 rfl rfl, gwl_in1 1 rfl rfl, by decide +kernel, by decide +kernel, by decide +kernel⟩
set_option maxRecDepth 100000 in
theorem vt_X10_step : Cond.instanceMethod mi_X10_step.1 ∈ gwl ∧ Cond.selects mi_X10_step.1.cls mi_X10_step.1 mi_X10_step.1 ∈ gwl := ⟨gwl_in6 206 rfl rfl, gwl_in6 207 rfl rfl⟩
set_option maxRecDepth 100000 in
theorem cd_X10_step : Cond.code mi_X10_step.1 (mi_C mi_X10_step) (mi_L mi_X10_step) (mi_R mi_X10_step) ∈ gwl ∧ Cond.initialized mi_X10_step.1.cls ∈ gwl ∧ mi_X10_step.1.cls ≠ "java/lang/invoke/MethodHandle" ∧ mi_X10_step.1.cls ≠ "java/lang/invoke/VarHandle" ∧ (parseMethodDescriptor mi_X10_step.1.desc).map (fun d => d.parameters.length) = some 3 := ⟨gwl_in6 208 rfl rfl, gwl_in1 11 rfl rfl, by decide +kernel, by decide +kernel, by decide +kernel⟩
set_option maxRecDepth 100000 in
theorem vt_X9_undo : Cond.instanceMethod mi_X9_undo.1 ∈ gwl ∧ Cond.selects mi_X9_undo.1.cls mi_X9_undo.1 mi_X9_undo.1 ∈ gwl := ⟨gwl_in4 174 rfl rfl, gwl_in4 175 rfl rfl⟩
set_option maxRecDepth 100000 in
theorem cd_X9_undo : Cond.code mi_X9_undo.1 (mi_C mi_X9_undo) (mi_L mi_X9_undo) (mi_R mi_X9_undo) ∈ gwl ∧ Cond.initialized mi_X9_undo.1.cls ∈ gwl ∧ mi_X9_undo.1.cls ≠ "java/lang/invoke/MethodHandle" ∧ mi_X9_undo.1.cls ≠ "java/lang/invoke/VarHandle" ∧ (parseMethodDescriptor mi_X9_undo.1.desc).map (fun d => d.parameters.length) = some 0 := ⟨gwl_in4 176 rfl rfl, gwl_in1 1 rfl rfl, by decide +kernel, by decide +kernel, by decide +kernel⟩
set_option maxRecDepth 100000 in
theorem vt_X10_undo : Cond.instanceMethod mi_X10_undo.1 ∈ gwl ∧ Cond.selects mi_X10_undo.1.cls mi_X10_undo.1 mi_X10_undo.1 ∈ gwl := ⟨gwl_in5 149 rfl rfl, gwl_in5 150 rfl rfl⟩
set_option maxRecDepth 100000 in
theorem cd_X10_undo : Cond.code mi_X10_undo.1 (mi_C mi_X10_undo) (mi_L mi_X10_undo) (mi_R mi_X10_undo) ∈ gwl ∧ Cond.initialized mi_X10_undo.1.cls ∈ gwl ∧ mi_X10_undo.1.cls ≠ "java/lang/invoke/MethodHandle" ∧ mi_X10_undo.1.cls ≠ "java/lang/invoke/VarHandle" ∧ (parseMethodDescriptor mi_X10_undo.1.desc).map (fun d => d.parameters.length) = some 0 := ⟨gwl_in5 151 rfl rfl, gwl_in1 11 rfl rfl, by decide +kernel, by decide +kernel, by decide +kernel⟩
set_option maxRecDepth 100000 in
theorem vt_X9_sheet : Cond.instanceMethod mi_X9_sheet.1 ∈ gwl ∧ Cond.selects mi_X9_sheet.1.cls mi_X9_sheet.1 mi_X9_sheet.1 ∈ gwl := ⟨gwl_in4 182 rfl rfl, gwl_in4 183 rfl rfl⟩
set_option maxRecDepth 100000 in
theorem cd_X9_sheet : Cond.code mi_X9_sheet.1 (mi_C mi_X9_sheet) (mi_L mi_X9_sheet) (mi_R mi_X9_sheet) ∈ gwl ∧ Cond.initialized mi_X9_sheet.1.cls ∈ gwl ∧ mi_X9_sheet.1.cls ≠ "java/lang/invoke/MethodHandle" ∧ mi_X9_sheet.1.cls ≠ "java/lang/invoke/VarHandle" ∧ (parseMethodDescriptor mi_X9_sheet.1.desc).map (fun d => d.parameters.length) = some 3 := ⟨gwl_in4 184 rfl rfl, gwl_in1 1 rfl rfl, by decide +kernel, by decide +kernel, by decide +kernel⟩
set_option maxRecDepth 100000 in
theorem vt_X10_sheet : Cond.instanceMethod mi_X10_sheet.1 ∈ gwl ∧ Cond.selects mi_X10_sheet.1.cls mi_X10_sheet.1 mi_X10_sheet.1 ∈ gwl := ⟨gwl_in6 210 rfl rfl, gwl_in6 211 rfl rfl⟩
set_option maxRecDepth 100000 in
theorem cd_X10_sheet : Cond.code mi_X10_sheet.1 (mi_C mi_X10_sheet) (mi_L mi_X10_sheet) (mi_R mi_X10_sheet) ∈ gwl ∧ Cond.initialized mi_X10_sheet.1.cls ∈ gwl ∧ mi_X10_sheet.1.cls ≠ "java/lang/invoke/MethodHandle" ∧ mi_X10_sheet.1.cls ≠ "java/lang/invoke/VarHandle" ∧ (parseMethodDescriptor mi_X10_sheet.1.desc).map (fun d => d.parameters.length) = some 3 := ⟨gwl_in6 212 rfl rfl, gwl_in1 11 rfl rfl, by decide +kernel, by decide +kernel, by decide +kernel⟩
set_option maxRecDepth 100000 in
theorem vt_X9_lay : Cond.instanceMethod mi_X9_lay.1 ∈ gwl ∧ Cond.selects mi_X9_lay.1.cls mi_X9_lay.1 mi_X9_lay.1 ∈ gwl := ⟨gwl_in4 191 rfl rfl, gwl_in4 192 rfl rfl⟩
set_option maxRecDepth 100000 in
theorem cd_X9_lay : Cond.code mi_X9_lay.1 (mi_C mi_X9_lay) (mi_L mi_X9_lay) (mi_R mi_X9_lay) ∈ gwl ∧ Cond.initialized mi_X9_lay.1.cls ∈ gwl ∧ mi_X9_lay.1.cls ≠ "java/lang/invoke/MethodHandle" ∧ mi_X9_lay.1.cls ≠ "java/lang/invoke/VarHandle" ∧ (parseMethodDescriptor mi_X9_lay.1.desc).map (fun d => d.parameters.length) = some 3 := ⟨gwl_in4 193 rfl rfl, gwl_in1 1 rfl rfl, by decide +kernel, by decide +kernel, by decide +kernel⟩
set_option maxRecDepth 100000 in
theorem vt_X10_lay : Cond.instanceMethod mi_X10_lay.1 ∈ gwl ∧ Cond.selects mi_X10_lay.1.cls mi_X10_lay.1 mi_X10_lay.1 ∈ gwl := ⟨gwl_in6 214 rfl rfl, gwl_in6 215 rfl rfl⟩
set_option maxRecDepth 100000 in
theorem cd_X10_lay : Cond.code mi_X10_lay.1 (mi_C mi_X10_lay) (mi_L mi_X10_lay) (mi_R mi_X10_lay) ∈ gwl ∧ Cond.initialized mi_X10_lay.1.cls ∈ gwl ∧ mi_X10_lay.1.cls ≠ "java/lang/invoke/MethodHandle" ∧ mi_X10_lay.1.cls ≠ "java/lang/invoke/VarHandle" ∧ (parseMethodDescriptor mi_X10_lay.1.desc).map (fun d => d.parameters.length) = some 3 := ⟨gwl_in6 216 rfl rfl, gwl_in1 11 rfl rfl, by decide +kernel, by decide +kernel, by decide +kernel⟩
set_option maxRecDepth 100000 in
theorem vt_X9_scan : Cond.instanceMethod mi_X9_scan.1 ∈ gwl ∧ Cond.selects mi_X9_scan.1.cls mi_X9_scan.1 mi_X9_scan.1 ∈ gwl := ⟨gwl_in4 200 rfl rfl, gwl_in4 201 rfl rfl⟩
set_option maxRecDepth 100000 in
theorem cd_X9_scan : Cond.code mi_X9_scan.1 (mi_C mi_X9_scan) (mi_L mi_X9_scan) (mi_R mi_X9_scan) ∈ gwl ∧ Cond.initialized mi_X9_scan.1.cls ∈ gwl ∧ mi_X9_scan.1.cls ≠ "java/lang/invoke/MethodHandle" ∧ mi_X9_scan.1.cls ≠ "java/lang/invoke/VarHandle" ∧ (parseMethodDescriptor mi_X9_scan.1.desc).map (fun d => d.parameters.length) = some 4 := ⟨gwl_in4 202 rfl rfl, gwl_in1 1 rfl rfl, by decide +kernel, by decide +kernel, by decide +kernel⟩
set_option maxRecDepth 100000 in
theorem vt_X10_scan : Cond.instanceMethod mi_X10_scan.1 ∈ gwl ∧ Cond.selects mi_X10_scan.1.cls mi_X10_scan.1 mi_X10_scan.1 ∈ gwl := ⟨gwl_in6 218 rfl rfl, gwl_in6 219 rfl rfl⟩
set_option maxRecDepth 100000 in
theorem cd_X10_scan : Cond.code mi_X10_scan.1 (mi_C mi_X10_scan) (mi_L mi_X10_scan) (mi_R mi_X10_scan) ∈ gwl ∧ Cond.initialized mi_X10_scan.1.cls ∈ gwl ∧ mi_X10_scan.1.cls ≠ "java/lang/invoke/MethodHandle" ∧ mi_X10_scan.1.cls ≠ "java/lang/invoke/VarHandle" ∧ (parseMethodDescriptor mi_X10_scan.1.desc).map (fun d => d.parameters.length) = some 4 := ⟨gwl_in6 220 rfl rfl, gwl_in1 11 rfl rfl, by decide +kernel, by decide +kernel, by decide +kernel⟩
set_option maxRecDepth 100000 in
theorem vt_X9_count : Cond.instanceMethod mi_X9_count.1 ∈ gwl ∧ Cond.selects mi_X9_count.1.cls mi_X9_count.1 mi_X9_count.1 ∈ gwl := ⟨gwl_in4 208 rfl rfl, gwl_in4 209 rfl rfl⟩
set_option maxRecDepth 100000 in
theorem cd_X9_count : Cond.code mi_X9_count.1 (mi_C mi_X9_count) (mi_L mi_X9_count) (mi_R mi_X9_count) ∈ gwl ∧ Cond.initialized mi_X9_count.1.cls ∈ gwl ∧ mi_X9_count.1.cls ≠ "java/lang/invoke/MethodHandle" ∧ mi_X9_count.1.cls ≠ "java/lang/invoke/VarHandle" ∧ (parseMethodDescriptor mi_X9_count.1.desc).map (fun d => d.parameters.length) = some 1 := ⟨gwl_in4 210 rfl rfl, gwl_in1 1 rfl rfl, by decide +kernel, by decide +kernel, by decide +kernel⟩
set_option maxRecDepth 100000 in
theorem vt_X10_count : Cond.instanceMethod mi_X10_count.1 ∈ gwl ∧ Cond.selects mi_X10_count.1.cls mi_X10_count.1 mi_X10_count.1 ∈ gwl := ⟨gwl_in6 225 rfl rfl, gwl_in6 226 rfl rfl⟩
set_option maxRecDepth 100000 in
theorem cd_X10_count : Cond.code mi_X10_count.1 (mi_C mi_X10_count) (mi_L mi_X10_count) (mi_R mi_X10_count) ∈ gwl ∧ Cond.initialized mi_X10_count.1.cls ∈ gwl ∧ mi_X10_count.1.cls ≠ "java/lang/invoke/MethodHandle" ∧ mi_X10_count.1.cls ≠ "java/lang/invoke/VarHandle" ∧ (parseMethodDescriptor mi_X10_count.1.desc).map (fun d => d.parameters.length) = some 1 := ⟨gwl_in6 227 rfl rfl, gwl_in1 11 rfl rfl, by decide +kernel, by decide +kernel, by decide +kernel⟩
set_option maxRecDepth 100000 in
theorem oi_X9_1 : Cond.methodLink RX9 1 objectInit ∈ gwl := gwl_in1 21 rfl rfl
theorem lk_X9_9 : ev_ln RX9 9 mi_X1_init 0 := ⟨⟨"SteamTunes", List.mem_of_getElem? (i := 0) (by decide +kernel)⟩, cd_X1_init⟩
theorem lk_X9_21 : ev_ln RX9 21 mi_X8_init 0 := ⟨⟨"SteamTunes", List.mem_of_getElem? (i := 1) (by decide +kernel)⟩, cd_X8_init⟩
theorem lk_X9_28 : ev_ln RX9 28 mi_X0_init 0 := ⟨⟨"SteamTunes", List.mem_of_getElem? (i := 2) (by decide +kernel)⟩, cd_X0_init⟩
theorem lk_X9_35 : ev_ln RX9 35 mi_X2_init 0 := ⟨⟨"SteamTunes", List.mem_of_getElem? (i := 3) (by decide +kernel)⟩, cd_X2_init⟩
theorem lk_X9_42 : ev_ln RX9 42 mi_X7_init 0 := ⟨⟨"SteamTunes", List.mem_of_getElem? (i := 4) (by decide +kernel)⟩, cd_X7_init⟩
theorem lk_X9_49 : ev_ln RX9 49 mi_X4_init 0 := ⟨⟨"SteamTunes", List.mem_of_getElem? (i := 5) (by decide +kernel)⟩, cd_X4_init⟩
theorem lk_X9_56 : ev_ln RX9 56 mi_X6_init 0 := ⟨⟨"SteamTunes", List.mem_of_getElem? (i := 6) (by decide +kernel)⟩, cd_X6_init⟩
theorem lk_X9_63 : ev_ln RX9 63 mi_X3_init 0 := ⟨⟨"SteamTunes", List.mem_of_getElem? (i := 7) (by decide +kernel)⟩, cd_X3_init⟩
theorem lk_X9_70 : ev_ln RX9 70 mi_X5_init 0 := ⟨⟨"SteamTunes", List.mem_of_getElem? (i := 8) (by decide +kernel)⟩, cd_X5_init⟩
set_option maxRecDepth 100000 in
theorem lk_X9_75 : ev_lk RX9 75 mi_X9_isWithin 3 := ⟨gwl_in2 153 rfl rfl, cd_X9_isWithin⟩
set_option maxRecDepth 100000 in
theorem lk_X9_79 : ev_lk RX9 79 mi_X0_keep 2 := ⟨gwl_in2 156 rfl rfl, cd_X0_keep⟩
set_option maxRecDepth 100000 in
theorem lk_X9_90 : ev_lk RX9 90 mi_J9_min_7cf53 2 := ⟨gwl_in2 170 rfl rfl, cd_J9_min_7cf53⟩
set_option maxRecDepth 100000 in
theorem lk_X9_108 : ev_lk RX9 108 mi_X8_drawnBy 2 := ⟨gwl_in2 183 rfl rfl, cd_X8_drawnBy⟩
set_option maxRecDepth 100000 in
theorem lk_X9_111 : ev_lk RX9 111 mi_X8_hasAll 1 := ⟨gwl_in2 191 rfl rfl, cd_X8_hasAll⟩
set_option maxRecDepth 100000 in
theorem lk_X9_115 : ev_lk RX9 115 mi_X8_strayOf 2 := ⟨gwl_in2 199 rfl rfl, cd_X8_strayOf⟩
set_option maxRecDepth 100000 in
theorem lk_X9_118 : ev_lk RX9 118 mi_X1_pass 1 := ⟨gwl_in2 220 rfl rfl, cd_X1_pass⟩
set_option maxRecDepth 100000 in
theorem lk_X9_122 : ev_lk RX9 122 mi_X8_add 4 := ⟨gwl_in2 229 rfl rfl, cd_X8_add⟩
set_option maxRecDepth 100000 in
theorem lk_X9_126 : ev_lk RX9 126 mi_X8_has 1 := ⟨gwl_in2 238 rfl rfl, cd_X8_has⟩
set_option maxRecDepth 100000 in
theorem lk_X9_149 : ev_lk RX9 149 mi_X8_offAt 2 := ⟨gwl_in3 18 rfl rfl, cd_X8_offAt⟩
set_option maxRecDepth 100000 in
theorem lk_X9_152 : ev_lk RX9 152 mi_X8_isNear 3 := ⟨gwl_in3 23 rfl rfl, cd_X8_isNear⟩
set_option maxRecDepth 100000 in
theorem lk_X9_155 : ev_lk RX9 155 mi_X8_bringNear 1 := ⟨gwl_in3 31 rfl rfl, cd_X8_bringNear⟩
set_option maxRecDepth 100000 in
theorem lk_X9_161 : ev_lk RX9 161 mi_X8_exactAt 1 := ⟨gwl_in3 36 rfl rfl, cd_X8_exactAt⟩
set_option maxRecDepth 100000 in
theorem lk_X9_165 : ev_lk RX9 165 mi_X8_all 0 := ⟨gwl_in3 44 rfl rfl, cd_X8_all⟩
set_option maxRecDepth 100000 in
theorem lk_X9_169 : ev_lk RX9 169 mi_X2_append 1 := ⟨gwl_in3 49 rfl rfl, cd_X2_append⟩
set_option maxRecDepth 100000 in
theorem lk_X9_177 : ev_lk RX9 177 mi_X2_readAll 0 := ⟨gwl_in3 61 rfl rfl, cd_X2_readAll⟩
set_option maxRecDepth 100000 in
theorem lk_X9_192 : ev_lk RX9 192 mi_X7_add 2 := ⟨gwl_in3 127 rfl rfl, cd_X7_add⟩
set_option maxRecDepth 100000 in
theorem lk_X9_195 : ev_lk RX9 195 mi_X7_has 1 := ⟨gwl_in3 140 rfl rfl, cd_X7_has⟩
set_option maxRecDepth 100000 in
theorem lk_X9_198 : ev_lk RX9 198 mi_X7_sounding 1 := ⟨gwl_in3 144 rfl rfl, cd_X7_sounding⟩
set_option maxRecDepth 100000 in
theorem lk_X9_201 : ev_lk RX9 201 mi_X7_whistlesOf 1 := ⟨gwl_in3 154 rfl rfl, cd_X7_whistlesOf⟩
set_option maxRecDepth 100000 in
theorem lk_X9_204 : ev_lk RX9 204 mi_X9_leastOf 1 := ⟨gwl_in3 158 rfl rfl, cd_X9_leastOf⟩
set_option maxRecDepth 100000 in
theorem lk_X9_207 : ev_lk RX9 207 mi_X9_greatestOf 1 := ⟨gwl_in3 162 rfl rfl, cd_X9_greatestOf⟩
set_option maxRecDepth 100000 in
theorem lk_X9_210 : ev_lk RX9 210 mi_X9_isBeat 3 := ⟨gwl_in3 165 rfl rfl, cd_X9_isBeat⟩
set_option maxRecDepth 100000 in
theorem lk_X9_217 : ev_lk RX9 217 mi_X9_tryOut 2 := ⟨gwl_in3 173 rfl rfl, cd_X9_tryOut⟩
set_option maxRecDepth 100000 in
theorem lk_X9_220 : ev_lk RX9 220 mi_X1_copyFrom 1 := ⟨gwl_in3 187 rfl rfl, cd_X1_copyFrom⟩
set_option maxRecDepth 100000 in
theorem lk_X9_224 : ev_lk RX9 224 mi_J9_abs_0f7a4 1 := ⟨gwl_in3 204 rfl rfl, cd_J9_abs_0f7a4⟩
set_option maxRecDepth 100000 in
theorem lk_X9_227 : ev_lk RX9 227 mi_X9_isKey 1 := ⟨gwl_in3 177 rfl rfl, cd_X9_isKey⟩
set_option maxRecDepth 100000 in
theorem lk_X9_230 : ev_lk RX9 230 mi_X7_goes 3 := ⟨gwl_in3 180 rfl rfl, cd_X7_goes⟩
set_option maxRecDepth 100000 in
theorem lk_X9_236 : ev_lk RX9 236 mi_X4_isFor 5 := ⟨gwl_in3 209 rfl rfl, cd_X4_isFor⟩
set_option maxRecDepth 100000 in
theorem lk_X9_240 : ev_lk RX9 240 mi_X4_takeTune 3 := ⟨gwl_in3 213 rfl rfl, cd_X4_takeTune⟩
set_option maxRecDepth 100000 in
theorem lk_X9_244 : ev_lk RX9 244 mi_X4_solve 4 := ⟨gwl_in3 218 rfl rfl, cd_X4_solve⟩
set_option maxRecDepth 100000 in
theorem lk_X9_248 : ev_lk RX9 248 mi_X4_remember 5 := ⟨gwl_in4 37 rfl rfl, cd_X4_remember⟩
set_option maxRecDepth 100000 in
theorem lk_X9_252 : ev_lk RX9 252 mi_X4_answer 1 := ⟨gwl_in4 41 rfl rfl, cd_X4_answer⟩
set_option maxRecDepth 100000 in
theorem lk_X9_255 : ev_lk RX9 255 mi_X5_has 1 := ⟨gwl_in4 49 rfl rfl, cd_X5_has⟩
set_option maxRecDepth 100000 in
theorem lk_X9_256 : ev_lk RX9 256 mi_X5_isLane 1 := ⟨gwl_in4 53 rfl rfl, cd_X5_isLane⟩
set_option maxRecDepth 100000 in
theorem lk_X9_259 : ev_lk RX9 259 mi_X5_faultAs 2 := ⟨gwl_in4 57 rfl rfl, cd_X5_faultAs⟩
set_option maxRecDepth 100000 in
theorem lk_X9_262 : ev_lk RX9 262 mi_X9_takeHeard 4 := ⟨gwl_in4 65 rfl rfl, cd_X9_takeHeard⟩
set_option maxRecDepth 100000 in
theorem lk_X9_266 : ev_lk RX9 266 mi_X6_find 3 := ⟨gwl_in4 81 rfl rfl, cd_X6_find⟩
set_option maxRecDepth 100000 in
theorem lk_X9_270 : ev_lk RX9 270 mi_X6_answer 1 := ⟨gwl_in4 106 rfl rfl, cd_X6_answer⟩
set_option maxRecDepth 100000 in
theorem lk_X9_271 : ev_lk RX9 271 mi_X9_isPlace 1 := ⟨gwl_in4 118 rfl rfl, cd_X9_isPlace⟩
set_option maxRecDepth 100000 in
theorem lk_X9_274 : ev_lk RX9 274 mi_X3_addBoat 2 := ⟨gwl_in4 121 rfl rfl, cd_X3_addBoat⟩
set_option maxRecDepth 100000 in
theorem lk_X9_277 : ev_lk RX9 277 mi_X3_bendsAt 1 := ⟨gwl_in4 129 rfl rfl, cd_X3_bendsAt⟩
set_option maxRecDepth 100000 in
theorem lk_X9_280 : ev_lk RX9 280 mi_X3_addBend 2 := ⟨gwl_in4 133 rfl rfl, cd_X3_addBend⟩
set_option maxRecDepth 100000 in
theorem lk_X9_286 : ev_lk RX9 286 mi_X3_way 2 := ⟨gwl_in4 145 rfl rfl, cd_X3_way⟩
set_option maxRecDepth 100000 in
theorem lk_X9_289 : ev_lk RX9 289 mi_X3_hasBoat 1 := ⟨gwl_in4 155 rfl rfl, cd_X3_hasBoat⟩
set_option maxRecDepth 100000 in
theorem lk_X9_292 : ev_lk RX9 292 mi_X3_firstHeard 2 := ⟨gwl_in4 159 rfl rfl, cd_X3_firstHeard⟩
set_option maxRecDepth 100000 in
theorem lk_X9_295 : ev_lk RX9 295 mi_X3_walk 2 := ⟨gwl_in4 168 rfl rfl, cd_X3_walk⟩
set_option maxRecDepth 100000 in
theorem lk_X9_311 : ev_lk RX9 311 mi_X0_restore 2 := ⟨gwl_in4 177 rfl rfl, cd_X0_restore⟩
set_option maxRecDepth 100000 in
theorem lk_X9_318 : ev_lk RX9 318 mi_X5_renew 3 := ⟨gwl_in4 185 rfl rfl, cd_X5_renew⟩
set_option maxRecDepth 100000 in
theorem lk_X9_322 : ev_lk RX9 322 mi_X5_isNothing 1 := ⟨gwl_in4 194 rfl rfl, cd_X5_isNothing⟩
set_option maxRecDepth 100000 in
theorem lk_X9_325 : ev_lk RX9 325 mi_X5_hasCell 2 := ⟨gwl_in4 73 rfl rfl, cd_X5_hasCell⟩
set_option maxRecDepth 100000 in
theorem lk_X9_329 : ev_lk RX9 329 mi_X5_put 3 := ⟨gwl_in4 195 rfl rfl, cd_X5_put⟩
set_option maxRecDepth 100000 in
theorem lk_X9_332 : ev_lk RX9 332 mi_X9_scanOne 2 := ⟨gwl_in4 203 rfl rfl, cd_X9_scanOne⟩
set_option maxRecDepth 100000 in
theorem lk_X9_341 : ev_lk RX9 341 mi_J6_bitCount_0f7a4 1 := ⟨gwl_in3 161 rfl rfl, cd_J6_bitCount_0f7a4⟩
set_option maxRecDepth 100000 in
theorem lk_X9_346 : ev_lk RX9 346 mi_X8_cracked 0 := ⟨gwl_in4 211 rfl rfl, cd_X8_cracked⟩
set_option maxRecDepth 100000 in
theorem lk_X9_352 : ev_lk RX9 352 mi_X7_chordIn 3 := ⟨gwl_in3 191 rfl rfl, cd_X7_chordIn⟩
set_option maxRecDepth 100000 in
theorem lk_X9_356 : ev_lk RX9 356 mi_J9_max_7cf53 2 := ⟨gwl_in3 195 rfl rfl, cd_J9_max_7cf53⟩
set_option maxRecDepth 100000 in
theorem lk_X9_359 : ev_lk RX9 359 mi_X6_forget 0 := ⟨gwl_in4 69 rfl rfl, cd_X6_forget⟩
set_option maxRecDepth 100000 in
theorem lk_X9_365 : ev_lk RX9 365 mi_X6_addBeat 2 := ⟨gwl_in4 77 rfl rfl, cd_X6_addBeat⟩
set_option maxRecDepth 100000 in
theorem oi_X0_5 : Cond.methodLink RX0 5 objectInit ∈ gwl := gwl_in1 112 rfl rfl
set_option maxRecDepth 100000 in
theorem cp_X0_52 : Cond.methodLink RX0 52 arraycopyName ∈ gwl := gwl_in2 160 rfl rfl
set_option maxRecDepth 100000 in
theorem lk_X0_61 : ev_lk RX0 61 mi_J9_min_7cf53 2 := ⟨gwl_in2 163 rfl rfl, cd_J9_min_7cf53⟩
set_option maxRecDepth 100000 in
theorem oi_X1_1 : Cond.methodLink RX1 1 objectInit ∈ gwl := gwl_in1 29 rfl rfl
set_option maxRecDepth 100000 in
theorem lk_X1_25 : ev_lk RX1 25 mi_J9_max_7cf53 2 := ⟨gwl_in2 224 rfl rfl, cd_J9_max_7cf53⟩
set_option maxRecDepth 100000 in
theorem lk_X1_31 : ev_lk RX1 31 mi_J9_min_7cf53 2 := ⟨gwl_in4 15 rfl rfl, cd_J9_min_7cf53⟩
set_option maxRecDepth 100000 in
theorem oi_X2_3 : Cond.methodLink RX2 3 objectInit ∈ gwl := gwl_in1 135 rfl rfl
set_option maxRecDepth 100000 in
theorem lk_X2_56 : ev_lk RX2 56 mi_X2_readToken 0 := ⟨gwl_in3 65 rfl rfl, cd_X2_readToken⟩
set_option maxRecDepth 100000 in
theorem lk_X2_59 : ev_lk RX2 59 mi_X2_take 1 := ⟨gwl_in3 93 rfl rfl, cd_X2_take⟩
set_option maxRecDepth 100000 in
theorem lk_X2_63 : ev_lk RX2 63 mi_X2_isLetter 1 := ⟨gwl_in3 69 rfl rfl, cd_X2_isLetter⟩
set_option maxRecDepth 100000 in
theorem lk_X2_67 : ev_lk RX2 67 mi_X2_readChord 0 := ⟨gwl_in3 73 rfl rfl, cd_X2_readChord⟩
set_option maxRecDepth 100000 in
theorem lk_X2_70 : ev_lk RX2 70 mi_X2_isFigure 1 := ⟨gwl_in3 81 rfl rfl, cd_X2_isFigure⟩
set_option maxRecDepth 100000 in
theorem lk_X2_73 : ev_lk RX2 73 mi_X2_readNumber 0 := ⟨gwl_in3 85 rfl rfl, cd_X2_readNumber⟩
set_option maxRecDepth 100000 in
theorem lk_X2_76 : ev_lk RX2 76 mi_X2_readSign 0 := ⟨gwl_in3 89 rfl rfl, cd_X2_readSign⟩
set_option maxRecDepth 100000 in
theorem lk_X2_79 : ev_lk RX2 79 mi_X2_fail 2 := ⟨gwl_in3 77 rfl rfl, cd_X2_fail⟩
set_option maxRecDepth 100000 in
theorem lk_X2_83 : ev_lk RX2 83 mi_X2_takeOpen 0 := ⟨gwl_in3 97 rfl rfl, cd_X2_takeOpen⟩
set_option maxRecDepth 100000 in
theorem lk_X2_87 : ev_lk RX2 87 mi_X2_misplaced 0 := ⟨gwl_in3 101 rfl rfl, cd_X2_misplaced⟩
set_option maxRecDepth 100000 in
theorem lk_X2_90 : ev_lk RX2 90 mi_X2_takeChord 0 := ⟨gwl_in3 105 rfl rfl, cd_X2_takeChord⟩
set_option maxRecDepth 100000 in
theorem lk_X2_93 : ev_lk RX2 93 mi_X2_addBeat 1 := ⟨gwl_in3 109 rfl rfl, cd_X2_addBeat⟩
set_option maxRecDepth 100000 in
theorem lk_X2_96 : ev_lk RX2 96 mi_X2_takeNumber 0 := ⟨gwl_in3 114 rfl rfl, cd_X2_takeNumber⟩
set_option maxRecDepth 100000 in
theorem lk_X2_99 : ev_lk RX2 99 mi_X2_takeClose 0 := ⟨gwl_in3 119 rfl rfl, cd_X2_takeClose⟩
set_option maxRecDepth 100000 in
theorem lk_X2_102 : ev_lk RX2 102 mi_X2_takeEnd 0 := ⟨gwl_in3 123 rfl rfl, cd_X2_takeEnd⟩
set_option maxRecDepth 100000 in
theorem lk_X2_105 : ev_lk RX2 105 mi_J9_min_7cf53 2 := ⟨gwl_in3 113 rfl rfl, cd_J9_min_7cf53⟩
theorem lk_X2_111 : ev_ln RX2 111 mi_X9_isWithin 3 := ⟨⟨"SteamTunes", List.mem_of_getElem? (i := 10) (by decide +kernel)⟩, cd_X9_isWithin⟩
set_option maxRecDepth 100000 in
theorem oi_X3_3 : Cond.methodLink RX3 3 objectInit ∈ gwl := gwl_in2 57 rfl rfl
set_option maxRecDepth 100000 in
theorem lk_X3_46 : ev_lk RX3 46 mi_J9_min_7cf53 2 := ⟨gwl_in4 149 rfl rfl, cd_J9_min_7cf53⟩
set_option maxRecDepth 100000 in
theorem lk_X3_52 : ev_lk RX3 52 mi_J9_max_7cf53 2 := ⟨gwl_in4 150 rfl rfl, cd_J9_max_7cf53⟩
set_option maxRecDepth 100000 in
theorem lk_X3_55 : ev_lk RX3 55 mi_X3_way 2 := ⟨gwl_in4 163 rfl rfl, cd_X3_way⟩
set_option maxRecDepth 100000 in
theorem lk_X3_58 : ev_lk RX3 58 mi_X3_firstHeard 2 := ⟨gwl_in4 172 rfl rfl, cd_X3_firstHeard⟩
set_option maxRecDepth 100000 in
theorem oi_X4_3 : Cond.methodLink RX4 3 objectInit ∈ gwl := gwl_in1 211 rfl rfl
set_option maxRecDepth 100000 in
theorem lk_X4_66 : ev_lk RX4 66 mi_X7_chordIn 3 := ⟨gwl_in3 217 rfl rfl, cd_X7_chordIn⟩
set_option maxRecDepth 100000 in
theorem lk_X4_76 : ev_lk RX4 76 mi_X8_drawnBy 2 := ⟨gwl_in3 223 rfl rfl, cd_X8_drawnBy⟩
set_option maxRecDepth 100000 in
theorem lk_X4_80 : ev_lk RX4 80 mi_X4_markNear 2 := ⟨gwl_in3 224 rfl rfl, cd_X4_markNear⟩
set_option maxRecDepth 100000 in
theorem lk_X4_84 : ev_lk RX4 84 mi_X4_cell 2 := ⟨gwl_in3 229 rfl rfl, cd_X4_cell⟩
set_option maxRecDepth 100000 in
theorem lk_X4_87 : ev_lk RX4 87 mi_J7_fill_fda19 4 := ⟨gwl_in3 232 rfl rfl, cd_J7_fill_fda19⟩
set_option maxRecDepth 100000 in
theorem lk_X4_93 : ev_lk RX4 93 mi_X4_listOptions 2 := ⟨gwl_in3 238 rfl rfl, cd_X4_listOptions⟩
set_option maxRecDepth 100000 in
theorem lk_X4_96 : ev_lk RX4 96 mi_X4_fillSounding 2 := ⟨gwl_in4 2 rfl rfl, cd_X4_fillSounding⟩
set_option maxRecDepth 100000 in
theorem lk_X4_100 : ev_lk RX4 100 mi_X4_fillResting 2 := ⟨gwl_in4 20 rfl rfl, cd_X4_fillResting⟩
set_option maxRecDepth 100000 in
theorem lk_X4_103 : ev_lk RX4 103 mi_X4_follow 3 := ⟨gwl_in4 25 rfl rfl, cd_X4_follow⟩
set_option maxRecDepth 100000 in
theorem lk_X4_110 : ev_lk RX4 110 mi_X8_isNear 3 := ⟨gwl_in3 228 rfl rfl, cd_X8_isNear⟩
set_option maxRecDepth 100000 in
theorem lk_X4_119 : ev_lk RX4 119 mi_X4_isOpen 2 := ⟨gwl_in4 6 rfl rfl, cd_X4_isOpen⟩
set_option maxRecDepth 100000 in
theorem lk_X4_123 : ev_lk RX4 123 mi_J6_bitCount_0f7a4 1 := ⟨gwl_in4 10 rfl rfl, cd_J6_bitCount_0f7a4⟩
set_option maxRecDepth 100000 in
theorem lk_X4_129 : ev_lk RX4 129 mi_X1_after 2 := ⟨gwl_in4 11 rfl rfl, cd_X1_after⟩
set_option maxRecDepth 100000 in
theorem lk_X4_132 : ev_lk RX4 132 mi_X4_raise 3 := ⟨gwl_in4 16 rfl rfl, cd_X4_raise⟩
set_option maxRecDepth 100000 in
theorem lk_X4_136 : ev_lk RX4 136 mi_J9_max_7cf53 2 := ⟨gwl_in4 24 rfl rfl, cd_J9_max_7cf53⟩
set_option maxRecDepth 100000 in
theorem lk_X4_144 : ev_lk RX4 144 mi_X4_bestOption 4 := ⟨gwl_in4 29 rfl rfl, cd_X4_bestOption⟩
set_option maxRecDepth 100000 in
theorem lk_X4_148 : ev_lk RX4 148 mi_X4_worthOf 5 := ⟨gwl_in4 33 rfl rfl, cd_X4_worthOf⟩
set_option maxRecDepth 100000 in
theorem oi_X5_1 : Cond.methodLink RX5 1 objectInit ∈ gwl := gwl_in2 104 rfl rfl
set_option maxRecDepth 100000 in
theorem lk_X5_21 : ev_lk RX5 21 mi_X5_isNothing 1 := ⟨gwl_in4 61 rfl rfl, cd_X5_isNothing⟩
set_option maxRecDepth 100000 in
theorem lk_X5_25 : ev_lk RX5 25 mi_J7_fill_53178 2 := ⟨gwl_in4 189 rfl rfl, cd_J7_fill_53178⟩
set_option maxRecDepth 100000 in
theorem oi_X6_3 : Cond.methodLink RX6 3 objectInit ∈ gwl := gwl_in2 26 rfl rfl
set_option maxRecDepth 100000 in
theorem lk_X6_42 : ev_lk RX6 42 mi_X6_explains 4 := ⟨gwl_in4 85 rfl rfl, cd_X6_explains⟩
set_option maxRecDepth 100000 in
theorem lk_X6_46 : ev_lk RX6 46 mi_X6_triedCracks 0 := ⟨gwl_in4 101 rfl rfl, cd_X6_triedCracks⟩
set_option maxRecDepth 100000 in
theorem cp_X6_50 : Cond.methodLink RX6 50 arraycopyName ∈ gwl := gwl_in4 105 rfl rfl
set_option maxRecDepth 100000 in
theorem lk_X6_56 : ev_lk RX6 56 mi_J7_fill_53178 2 := ⟨gwl_in4 89 rfl rfl, cd_J7_fill_53178⟩
theorem lk_X6_62 : ev_ln RX6 62 mi_X9_leastOf 1 := ⟨⟨"SteamTunes", List.mem_of_getElem? (i := 13) (by decide +kernel)⟩, cd_X9_leastOf⟩
set_option maxRecDepth 100000 in
theorem lk_X6_66 : ev_lk RX6 66 mi_X6_agrees 4 := ⟨gwl_in4 93 rfl rfl, cd_X6_agrees⟩
set_option maxRecDepth 100000 in
theorem lk_X6_70 : ev_lk RX6 70 mi_X8_drawnBy 2 := ⟨gwl_in4 99 rfl rfl, cd_X8_drawnBy⟩
set_option maxRecDepth 100000 in
theorem lk_X6_74 : ev_lk RX6 74 mi_X1_after 2 := ⟨gwl_in4 100 rfl rfl, cd_X1_after⟩
set_option maxRecDepth 100000 in
theorem lk_X6_85 : ev_lk RX6 85 mi_X8_bentAt 2 := ⟨gwl_in4 97 rfl rfl, cd_X8_bentAt⟩
theorem lk_X6_88 : ev_ln RX6 88 mi_X9_isWithin 3 := ⟨⟨"SteamTunes", List.mem_of_getElem? (i := 14) (by decide +kernel)⟩, cd_X9_isWithin⟩
set_option maxRecDepth 100000 in
theorem lk_X6_92 : ev_lk RX6 92 mi_X6_crackedBits 0 := ⟨gwl_in4 110 rfl rfl, cd_X6_crackedBits⟩
set_option maxRecDepth 100000 in
theorem oi_X7_3 : Cond.methodLink RX7 3 objectInit ∈ gwl := gwl_in1 190 rfl rfl
set_option maxRecDepth 100000 in
theorem cp_X7_24 : Cond.methodLink RX7 24 arraycopyName ∈ gwl := gwl_in3 131 rfl rfl
set_option maxRecDepth 100000 in
theorem lk_X7_30 : ev_lk RX7 30 mi_J6_bitCount_0f7a4 1 := ⟨gwl_in3 148 rfl rfl, cd_J6_bitCount_0f7a4⟩
set_option maxRecDepth 100000 in
theorem lk_X7_36 : ev_lk RX7 36 mi_X7_whistlesOf 1 := ⟨gwl_in3 184 rfl rfl, cd_X7_whistlesOf⟩
theorem lk_X7_39 : ev_ln RX7 39 mi_X9_leastOf 1 := ⟨⟨"SteamTunes", List.mem_of_getElem? (i := 11) (by decide +kernel)⟩, cd_X9_leastOf⟩
theorem lk_X7_42 : ev_ln RX7 42 mi_X9_greatestOf 1 := ⟨⟨"SteamTunes", List.mem_of_getElem? (i := 12) (by decide +kernel)⟩, cd_X9_greatestOf⟩
set_option maxRecDepth 100000 in
theorem oi_X8_3 : Cond.methodLink RX8 3 objectInit ∈ gwl := gwl_in1 63 rfl rfl
theorem lk_X8_38 : ev_ln RX8 38 mi_X9_isWithin 3 := ⟨⟨"SteamTunes", List.mem_of_getElem? (i := 9) (by decide +kernel)⟩, cd_X9_isWithin⟩
set_option maxRecDepth 100000 in
theorem lk_X8_42 : ev_lk RX8 42 mi_X8_all 0 := ⟨gwl_in2 195 rfl rfl, cd_X8_all⟩
set_option maxRecDepth 100000 in
theorem lk_X8_46 : ev_lk RX8 46 mi_J9_floorDiv_7cf53 2 := ⟨gwl_in2 211 rfl rfl, cd_J9_floorDiv_7cf53⟩
set_option maxRecDepth 100000 in
theorem lk_X8_52 : ev_lk RX8 52 mi_X8_bentAt 2 := ⟨gwl_in2 207 rfl rfl, cd_X8_bentAt⟩
set_option maxRecDepth 100000 in
theorem lk_X8_55 : ev_lk RX8 55 mi_X8_offAt 2 := ⟨gwl_in2 203 rfl rfl, cd_X8_offAt⟩
set_option maxRecDepth 100000 in
theorem lk_X8_58 : ev_lk RX8 58 mi_J9_abs_0f7a4 1 := ⟨gwl_in2 214 rfl rfl, cd_J9_abs_0f7a4⟩
set_option maxRecDepth 100000 in
theorem lk_X8_62 : ev_lk RX8 62 mi_J9_max_7cf53 2 := ⟨gwl_in2 217 rfl rfl, cd_J9_max_7cf53⟩
set_option maxRecDepth 100000 in
theorem lk_X8_65 : ev_lk RX8 65 mi_J9_min_7cf53 2 := ⟨gwl_in3 35 rfl rfl, cd_J9_min_7cf53⟩
set_option maxRecDepth 100000 in
theorem lk_L_9 : ev_lk RL 9 mi_X9_init 0 := ⟨gwl_in1 18 rfl rfl, cd_X9_init⟩
set_option maxRecDepth 100000 in
theorem lk_L_12 : ev_lk RL 12 mi_X10_init 0 := ⟨gwl_in4 217 rfl rfl, cd_X10_init⟩
set_option maxRecDepth 100000 in
theorem lk_L_13 : ev_lk RL 13 mi_X9_fire 1 := ⟨gwl_in2 149 rfl rfl, cd_X9_fire⟩
set_option maxRecDepth 100000 in
theorem lk_L_17 : ev_lk RL 17 mi_X10_fire 1 := ⟨gwl_in5 152 rfl rfl, cd_X10_fire⟩
set_option maxRecDepth 100000 in
theorem lk_L_18 : ev_lk RL 18 mi_X9_water 1 := ⟨gwl_in2 166 rfl rfl, cd_X9_water⟩
set_option maxRecDepth 100000 in
theorem lk_L_21 : ev_lk RL 21 mi_X10_water 1 := ⟨gwl_in5 164 rfl rfl, cd_X10_water⟩
set_option maxRecDepth 100000 in
theorem lk_L_22 : ev_lk RL 22 mi_X9_valve 1 := ⟨gwl_in2 171 rfl rfl, cd_X9_valve⟩
set_option maxRecDepth 100000 in
theorem lk_L_25 : ev_lk RL 25 mi_X10_valve 1 := ⟨gwl_in5 169 rfl rfl, cd_X10_valve⟩
set_option maxRecDepth 100000 in
theorem lk_L_26 : ev_lk RL 26 mi_X9_pressure 1 := ⟨gwl_in2 175 rfl rfl, cd_X9_pressure⟩
set_option maxRecDepth 100000 in
theorem lk_L_29 : ev_lk RL 29 mi_X10_pressure 1 := ⟨gwl_in5 175 rfl rfl, cd_X10_pressure⟩
set_option maxRecDepth 100000 in
theorem lk_L_30 : ev_lk RL 30 mi_X9_boiler 1 := ⟨gwl_in2 179 rfl rfl, cd_X9_boiler⟩
set_option maxRecDepth 100000 in
theorem lk_L_33 : ev_lk RL 33 mi_X10_boiler 1 := ⟨gwl_in5 179 rfl rfl, cd_X10_boiler⟩
set_option maxRecDepth 100000 in
theorem lk_L_34 : ev_lk RL 34 mi_X9_beat 1 := ⟨gwl_in2 187 rfl rfl, cd_X9_beat⟩
set_option maxRecDepth 100000 in
theorem lk_L_37 : ev_lk RL 37 mi_X10_beat 1 := ⟨gwl_in5 187 rfl rfl, cd_X10_beat⟩
set_option maxRecDepth 100000 in
theorem lk_L_38 : ev_lk RL 38 mi_X9_whistle 4 := ⟨gwl_in2 225 rfl rfl, cd_X9_whistle⟩
set_option maxRecDepth 100000 in
theorem lk_L_42 : ev_lk RL 42 mi_X10_whistle 4 := ⟨gwl_in5 209 rfl rfl, cd_X10_whistle⟩
set_option maxRecDepth 100000 in
theorem lk_L_43 : ev_lk RL 43 mi_X9_told 2 := ⟨gwl_in2 234 rfl rfl, cd_X9_told⟩
set_option maxRecDepth 100000 in
theorem lk_L_47 : ev_lk RL 47 mi_X10_told 2 := ⟨gwl_in5 215 rfl rfl, cd_X10_told⟩
set_option maxRecDepth 100000 in
theorem lk_L_48 : ev_lk RL 48 mi_X9_stem 2 := ⟨gwl_in3 2 rfl rfl, cd_X9_stem⟩
set_option maxRecDepth 100000 in
theorem lk_L_51 : ev_lk RL 51 mi_X10_stem 2 := ⟨gwl_in5 224 rfl rfl, cd_X10_stem⟩
set_option maxRecDepth 100000 in
theorem lk_L_52 : ev_lk RL 52 mi_X9_crack 2 := ⟨gwl_in3 6 rfl rfl, cd_X9_crack⟩
set_option maxRecDepth 100000 in
theorem lk_L_55 : ev_lk RL 55 mi_X10_crack 2 := ⟨gwl_in5 230 rfl rfl, cd_X10_crack⟩
set_option maxRecDepth 100000 in
theorem lk_L_56 : ev_lk RL 56 mi_X9_leak 2 := ⟨gwl_in3 10 rfl rfl, cd_X9_leak⟩
set_option maxRecDepth 100000 in
theorem lk_L_60 : ev_lk RL 60 mi_X10_leak 2 := ⟨gwl_in5 235 rfl rfl, cd_X10_leak⟩
set_option maxRecDepth 100000 in
theorem lk_L_61 : ev_lk RL 61 mi_X9_pitch 2 := ⟨gwl_in3 14 rfl rfl, cd_X9_pitch⟩
set_option maxRecDepth 100000 in
theorem lk_L_64 : ev_lk RL 64 mi_X10_pitch 2 := ⟨gwl_in5 239 rfl rfl, cd_X10_pitch⟩
set_option maxRecDepth 100000 in
theorem lk_L_65 : ev_lk RL 65 mi_X9_holds 2 := ⟨gwl_in3 19 rfl rfl, cd_X9_holds⟩
set_option maxRecDepth 100000 in
theorem lk_L_68 : ev_lk RL 68 mi_X10_holds 2 := ⟨gwl_in6 3 rfl rfl, cd_X10_holds⟩
set_option maxRecDepth 100000 in
theorem lk_L_69 : ev_lk RL 69 mi_X9_tuneAll 1 := ⟨gwl_in3 27 rfl rfl, cd_X9_tuneAll⟩
set_option maxRecDepth 100000 in
theorem lk_L_72 : ev_lk RL 72 mi_X10_tuneAll 1 := ⟨gwl_in6 8 rfl rfl, cd_X10_tuneAll⟩
set_option maxRecDepth 100000 in
theorem lk_L_73 : ev_lk RL 73 mi_X9_agree 1 := ⟨gwl_in3 40 rfl rfl, cd_X9_agree⟩
set_option maxRecDepth 100000 in
theorem lk_L_76 : ev_lk RL 76 mi_X10_agree 1 := ⟨gwl_in6 12 rfl rfl, cd_X10_agree⟩
set_option maxRecDepth 100000 in
theorem lk_L_79 : ev_lk RL 79 mi_X9_feed 1 := ⟨gwl_in3 45 rfl rfl, cd_X9_feed⟩
set_option maxRecDepth 100000 in
theorem lk_L_83 : ev_lk RL 83 mi_X10_feed 1 := ⟨gwl_in6 18 rfl rfl, cd_X10_feed⟩
set_option maxRecDepth 100000 in
theorem lk_L_84 : ev_lk RL 84 mi_X9_end 1 := ⟨gwl_in3 53 rfl rfl, cd_X9_end⟩
set_option maxRecDepth 100000 in
theorem lk_L_87 : ev_lk RL 87 mi_X10_end 1 := ⟨gwl_in6 23 rfl rfl, cd_X10_end⟩
set_option maxRecDepth 100000 in
theorem lk_L_88 : ev_lk RL 88 mi_X9_tune 0 := ⟨gwl_in3 57 rfl rfl, cd_X9_tune⟩
set_option maxRecDepth 100000 in
theorem lk_L_92 : ev_lk RL 92 mi_X10_tune 0 := ⟨gwl_in6 27 rfl rfl, cd_X10_tune⟩
set_option maxRecDepth 100000 in
theorem lk_L_93 : ev_lk RL 93 mi_X9_fault 0 := ⟨gwl_in3 132 rfl rfl, cd_X9_fault⟩
set_option maxRecDepth 100000 in
theorem lk_L_96 : ev_lk RL 96 mi_X10_fault 0 := ⟨gwl_in6 74 rfl rfl, cd_X10_fault⟩
set_option maxRecDepth 100000 in
theorem lk_L_97 : ev_lk RL 97 mi_X9_tuneOf 2 := ⟨gwl_in3 136 rfl rfl, cd_X9_tuneOf⟩
set_option maxRecDepth 100000 in
theorem lk_L_100 : ev_lk RL 100 mi_X10_tuneOf 2 := ⟨gwl_in6 78 rfl rfl, cd_X10_tuneOf⟩
set_option maxRecDepth 100000 in
theorem lk_L_101 : ev_lk RL 101 mi_X9_play 2 := ⟨gwl_in3 169 rfl rfl, cd_X9_play⟩
set_option maxRecDepth 100000 in
theorem lk_L_104 : ev_lk RL 104 mi_X10_play 2 := ⟨gwl_in6 96 rfl rfl, cd_X10_play⟩
set_option maxRecDepth 100000 in
theorem lk_L_105 : ev_lk RL 105 mi_X9_would 2 := ⟨gwl_in3 196 rfl rfl, cd_X9_would⟩
set_option maxRecDepth 100000 in
theorem lk_L_108 : ev_lk RL 108 mi_X10_would 2 := ⟨gwl_in6 118 rfl rfl, cd_X10_would⟩
set_option maxRecDepth 100000 in
theorem lk_L_109 : ev_lk RL 109 mi_X9_key 2 := ⟨gwl_in3 200 rfl rfl, cd_X9_key⟩
set_option maxRecDepth 100000 in
theorem lk_L_112 : ev_lk RL 112 mi_X10_key 2 := ⟨gwl_in6 122 rfl rfl, cd_X10_key⟩
set_option maxRecDepth 100000 in
theorem lk_L_113 : ev_lk RL 113 mi_X9_set 5 := ⟨gwl_in3 205 rfl rfl, cd_X9_set⟩
set_option maxRecDepth 100000 in
theorem lk_L_117 : ev_lk RL 117 mi_X10_set 5 := ⟨gwl_in6 126 rfl rfl, cd_X10_set⟩
set_option maxRecDepth 100000 in
theorem lk_L_118 : ev_lk RL 118 mi_X9_blame 7 := ⟨gwl_in4 45 rfl rfl, cd_X9_blame⟩
set_option maxRecDepth 100000 in
theorem lk_L_122 : ev_lk RL 122 mi_X10_blame 7 := ⟨gwl_in6 157 rfl rfl, cd_X10_blame⟩
set_option maxRecDepth 100000 in
theorem lk_L_123 : ev_lk RL 123 mi_X9_boat 2 := ⟨gwl_in4 114 rfl rfl, cd_X9_boat⟩
set_option maxRecDepth 100000 in
theorem lk_L_126 : ev_lk RL 126 mi_X10_boat 2 := ⟨gwl_in6 175 rfl rfl, cd_X10_boat⟩
set_option maxRecDepth 100000 in
theorem lk_L_127 : ev_lk RL 127 mi_X9_bend 2 := ⟨gwl_in4 125 rfl rfl, cd_X9_bend⟩
set_option maxRecDepth 100000 in
theorem lk_L_130 : ev_lk RL 130 mi_X10_bend 2 := ⟨gwl_in6 181 rfl rfl, cd_X10_bend⟩
set_option maxRecDepth 100000 in
theorem lk_L_131 : ev_lk RL 131 mi_X9_speed 1 := ⟨gwl_in4 137 rfl rfl, cd_X9_speed⟩
set_option maxRecDepth 100000 in
theorem lk_L_134 : ev_lk RL 134 mi_X10_speed 1 := ⟨gwl_in6 185 rfl rfl, cd_X10_speed⟩
set_option maxRecDepth 100000 in
theorem lk_L_135 : ev_lk RL 135 mi_X9_far 2 := ⟨gwl_in4 141 rfl rfl, cd_X9_far⟩
set_option maxRecDepth 100000 in
theorem lk_L_138 : ev_lk RL 138 mi_X10_far 2 := ⟨gwl_in6 189 rfl rfl, cd_X10_far⟩
set_option maxRecDepth 100000 in
theorem lk_L_139 : ev_lk RL 139 mi_X9_heard 3 := ⟨gwl_in4 151 rfl rfl, cd_X9_heard⟩
set_option maxRecDepth 100000 in
theorem lk_L_143 : ev_lk RL 143 mi_X10_heard 3 := ⟨gwl_in6 197 rfl rfl, cd_X10_heard⟩
set_option maxRecDepth 100000 in
theorem lk_L_144 : ev_lk RL 144 mi_X9_step 3 := ⟨gwl_in4 164 rfl rfl, cd_X9_step⟩
set_option maxRecDepth 100000 in
theorem lk_L_147 : ev_lk RL 147 mi_X10_step 3 := ⟨gwl_in6 205 rfl rfl, cd_X10_step⟩
set_option maxRecDepth 100000 in
theorem lk_L_148 : ev_lk RL 148 mi_X9_undo 0 := ⟨gwl_in4 173 rfl rfl, cd_X9_undo⟩
set_option maxRecDepth 100000 in
theorem lk_L_151 : ev_lk RL 151 mi_X10_undo 0 := ⟨gwl_in5 148 rfl rfl, cd_X10_undo⟩
set_option maxRecDepth 100000 in
theorem lk_L_152 : ev_lk RL 152 mi_X9_sheet 3 := ⟨gwl_in4 181 rfl rfl, cd_X9_sheet⟩
set_option maxRecDepth 100000 in
theorem lk_L_155 : ev_lk RL 155 mi_X10_sheet 3 := ⟨gwl_in6 209 rfl rfl, cd_X10_sheet⟩
set_option maxRecDepth 100000 in
theorem lk_L_156 : ev_lk RL 156 mi_X9_lay 3 := ⟨gwl_in4 190 rfl rfl, cd_X9_lay⟩
set_option maxRecDepth 100000 in
theorem lk_L_159 : ev_lk RL 159 mi_X10_lay 3 := ⟨gwl_in6 213 rfl rfl, cd_X10_lay⟩
set_option maxRecDepth 100000 in
theorem lk_L_160 : ev_lk RL 160 mi_X9_scan 4 := ⟨gwl_in4 199 rfl rfl, cd_X9_scan⟩
set_option maxRecDepth 100000 in
theorem lk_L_164 : ev_lk RL 164 mi_X10_scan 4 := ⟨gwl_in6 217 rfl rfl, cd_X10_scan⟩
set_option maxRecDepth 100000 in
theorem lk_L_165 : ev_lk RL 165 mi_X9_count 1 := ⟨gwl_in4 207 rfl rfl, cd_X9_count⟩
set_option maxRecDepth 100000 in
theorem lk_L_168 : ev_lk RL 168 mi_X10_count 1 := ⟨gwl_in6 224 rfl rfl, cd_X10_count⟩
set_option maxRecDepth 100000 in
theorem oi_X10_1 : Cond.methodLink RX10 1 objectInit ∈ gwl := gwl_in4 220 rfl rfl
set_option maxRecDepth 100000 in
theorem lk_X10_124 : ev_lk RX10 124 mi_X10_in 3 := ⟨gwl_in5 157 rfl rfl, cd_X10_in⟩
set_option maxRecDepth 100000 in
theorem lk_X10_136 : ev_lk RX10 136 mi_X10_keeps 0 := ⟨gwl_in5 160 rfl rfl, cd_X10_keeps⟩
set_option maxRecDepth 100000 in
theorem lk_X10_145 : ev_lk RX10 145 mi_X10_drawn 1 := ⟨gwl_in5 183 rfl rfl, cd_X10_drawn⟩
set_option maxRecDepth 100000 in
theorem lk_X10_149 : ev_lk RX10 149 mi_X10_down 2 := ⟨gwl_in5 203 rfl rfl, cd_X10_down⟩
set_option maxRecDepth 100000 in
theorem lk_X10_153 : ev_lk RX10 153 mi_X10_off 2 := ⟨gwl_in5 199 rfl rfl, cd_X10_off⟩
set_option maxRecDepth 100000 in
theorem lk_X10_156 : ev_lk RX10 156 mi_X10_size 1 := ⟨gwl_in5 206 rfl rfl, cd_X10_size⟩
set_option maxRecDepth 100000 in
theorem lk_X10_159 : ev_lk RX10 159 mi_X10_strayOf 2 := ⟨gwl_in5 195 rfl rfl, cd_X10_strayOf⟩
set_option maxRecDepth 100000 in
theorem lk_X10_162 : ev_lk RX10 162 mi_X10_goes 1 := ⟨gwl_in5 191 rfl rfl, cd_X10_goes⟩
set_option maxRecDepth 100000 in
theorem lk_X10_169 : ev_lk RX10 169 mi_X10_isWhistle 1 := ⟨gwl_in5 219 rfl rfl, cd_X10_isWhistle⟩
set_option maxRecDepth 100000 in
theorem lk_X10_200 : ev_lk RX10 200 mi_X10_fails 2 := ⟨gwl_in6 45 rfl rfl, cd_X10_fails⟩
set_option maxRecDepth 100000 in
theorem lk_X10_213 : ev_lk RX10 213 mi_X10_look 1 := ⟨gwl_in6 35 rfl rfl, cd_X10_look⟩
set_option maxRecDepth 100000 in
theorem lk_X10_220 : ev_lk RX10 220 mi_X10_bits 1 := ⟨gwl_in6 49 rfl rfl, cd_X10_bits⟩
set_option maxRecDepth 100000 in
theorem lk_X10_223 : ev_lk RX10 223 mi_X10_readChord 0 := ⟨gwl_in6 41 rfl rfl, cd_X10_readChord⟩
set_option maxRecDepth 100000 in
theorem lk_X10_230 : ev_lk RX10 230 mi_X10_wants 2 := ⟨gwl_in6 54 rfl rfl, cd_X10_wants⟩
set_option maxRecDepth 100000 in
theorem lk_X10_244 : ev_lk RX10 244 mi_X10_isSign 1 := ⟨gwl_in6 62 rfl rfl, cd_X10_isSign⟩
set_option maxRecDepth 100000 in
theorem lk_X10_247 : ev_lk RX10 247 mi_X10_beatRead 1 := ⟨gwl_in6 66 rfl rfl, cd_X10_beatRead⟩
set_option maxRecDepth 100000 in
theorem lk_X10_251 : ev_lk RX10 251 mi_X10_next 0 := ⟨gwl_in6 31 rfl rfl, cd_X10_next⟩
set_option maxRecDepth 100000 in
theorem lk_X10_254 : ev_lk RX10 254 mi_X10_closes 0 := ⟨gwl_in6 70 rfl rfl, cd_X10_closes⟩
set_option maxRecDepth 100000 in
theorem lk_X10_260 : ev_lk RX10 260 mi_X10_readTune 0 := ⟨gwl_in6 58 rfl rfl, cd_X10_readTune⟩
set_option maxRecDepth 100000 in
theorem lk_X10_263 : ev_lk RX10 263 mi_X10_chordAt 2 := ⟨gwl_in6 88 rfl rfl, cd_X10_chordAt⟩
set_option maxRecDepth 100000 in
theorem lk_X10_266 : ev_lk RX10 266 mi_X10_isTune 1 := ⟨gwl_in6 82 rfl rfl, cd_X10_isTune⟩
set_option maxRecDepth 100000 in
theorem lk_X10_273 : ev_lk RX10 273 mi_X10_allOf 1 := ⟨gwl_in6 92 rfl rfl, cd_X10_allOf⟩
set_option maxRecDepth 100000 in
theorem lk_X10_276 : ev_lk RX10 276 mi_X10_moved 2 := ⟨gwl_in6 114 rfl rfl, cd_X10_moved⟩
set_option maxRecDepth 100000 in
theorem lk_X10_279 : ev_lk RX10 279 mi_X10_goesAll 2 := ⟨gwl_in6 110 rfl rfl, cd_X10_goesAll⟩
set_option maxRecDepth 100000 in
theorem lk_X10_286 : ev_lk RX10 286 mi_X10_isIn 2 := ⟨gwl_in6 102 rfl rfl, cd_X10_isIn⟩
set_option maxRecDepth 100000 in
theorem lk_X10_290 : ev_lk RX10 290 mi_X10_tried 2 := ⟨gwl_in6 106 rfl rfl, cd_X10_tried⟩
set_option maxRecDepth 100000 in
theorem lk_X10_293 : ev_lk RX10 293 mi_X10_spot 3 := ⟨gwl_in6 144 rfl rfl, cd_X10_spot⟩
set_option maxRecDepth 100000 in
theorem lk_X10_297 : ev_lk RX10 297 mi_X10_then 2 := ⟨gwl_in6 148 rfl rfl, cd_X10_then⟩
set_option maxRecDepth 100000 in
theorem lk_X10_304 : ev_lk RX10 304 mi_X10_prepares 1 := ⟨gwl_in6 136 rfl rfl, cd_X10_prepares⟩
set_option maxRecDepth 100000 in
theorem lk_X10_307 : ev_lk RX10 307 mi_X10_meets 3 := ⟨gwl_in6 140 rfl rfl, cd_X10_meets⟩
set_option maxRecDepth 100000 in
theorem lk_X10_311 : ev_lk RX10 311 mi_X10_bestSound 4 := ⟨gwl_in6 152 rfl rfl, cd_X10_bestSound⟩
set_option maxRecDepth 100000 in
theorem lk_X10_325 : ev_lk RX10 325 mi_X10_fills 4 := ⟨gwl_in6 132 rfl rfl, cd_X10_fills⟩
set_option maxRecDepth 100000 in
theorem lk_X10_329 : ev_lk RX10 329 mi_X10_lowest 1 := ⟨gwl_in6 168 rfl rfl, cd_X10_lowest⟩
set_option maxRecDepth 100000 in
theorem lk_X10_332 : ev_lk RX10 332 mi_X10_drawnWith 2 := ⟨gwl_in6 171 rfl rfl, cd_X10_drawnWith⟩
set_option maxRecDepth 100000 in
theorem lk_X10_335 : ev_lk RX10 335 mi_X10_isSheet 2 := ⟨gwl_in6 161 rfl rfl, cd_X10_isSheet⟩
set_option maxRecDepth 100000 in
theorem lk_X10_338 : ev_lk RX10 338 mi_X10_explains 6 := ⟨gwl_in6 164 rfl rfl, cd_X10_explains⟩
set_option maxRecDepth 100000 in
theorem lk_X10_352 : ev_lk RX10 352 mi_X10_farOf 2 := ⟨gwl_in6 193 rfl rfl, cd_X10_farOf⟩
set_option maxRecDepth 100000 in
theorem lk_X10_355 : ev_lk RX10 355 mi_X10_heardAt 2 := ⟨gwl_in6 201 rfl rfl, cd_X10_heardAt⟩
set_option maxRecDepth 100000 in
theorem lk_X10_362 : ev_lk RX10 362 mi_X10_whistle 4 := ⟨gwl_in6 223 rfl rfl, cd_X10_whistle⟩
set_option maxRecDepth 100000 in
theorem lk_J7_13 : ev_lk RJ7 13 mi_J7_rangeCheck_23922 3 := ⟨gwl_in3 235 rfl rfl, cd_J7_rangeCheck_23922⟩
set_option maxRecDepth 100000 in
theorem kc_X4_70 : Cond.constant RX4 70 (45225) ∈ gwl := gwl_in3 222 rfl rfl
set_option maxRecDepth 100000 in
theorem kc_L_77 : Cond.constantLong RL 77 (4294967295) ∈ gwl := gwl_in6 228 rfl rfl
set_option maxRecDepth 100000 in
theorem kc_X10_66 : Cond.constant RX10 66 (45225) ∈ gwl := gwl_in4 221 rfl rfl
set_option maxRecDepth 100000 in
theorem kc_X10_134 : Cond.constantLong RX10 134 (9) ∈ gwl := gwl_in5 156 rfl rfl
set_option maxRecDepth 100000 in
theorem kc_X10_139 : Cond.constantLong RX10 139 (9999) ∈ gwl := gwl_in5 168 rfl rfl
set_option maxRecDepth 100000 in
theorem kc_X10_141 : Cond.constantLong RX10 141 (50) ∈ gwl := gwl_in5 173 rfl rfl
set_option maxRecDepth 100000 in
theorem kc_X10_143 : Cond.constantLong RX10 143 (200) ∈ gwl := gwl_in5 174 rfl rfl
set_option maxRecDepth 100000 in
theorem kc_X10_165 : Cond.constantLong RX10 165 (3600) ∈ gwl := gwl_in5 213 rfl rfl
set_option maxRecDepth 100000 in
theorem kc_X10_167 : Cond.constantLong RX10 167 (20) ∈ gwl := gwl_in5 214 rfl rfl
set_option maxRecDepth 100000 in
theorem kc_X10_173 : Cond.constantLong RX10 173 (6) ∈ gwl := gwl_in5 223 rfl rfl
set_option maxRecDepth 100000 in
theorem kc_X10_175 : Cond.constantLong RX10 175 (-100) ∈ gwl := gwl_in5 228 rfl rfl
set_option maxRecDepth 100000 in
theorem kc_X10_177 : Cond.constantLong RX10 177 (100) ∈ gwl := gwl_in5 229 rfl rfl
set_option maxRecDepth 100000 in
theorem kc_X10_179 : Cond.constantLong RX10 179 (-200) ∈ gwl := gwl_in5 234 rfl rfl
set_option maxRecDepth 100000 in
theorem kc_X10_181 : Cond.constantLong RX10 181 (400) ∈ gwl := gwl_in6 7 rfl rfl
set_option maxRecDepth 100000 in
theorem kc_X10_183 : Cond.constantLong RX10 183 (2) ∈ gwl := gwl_in6 16 rfl rfl
set_option maxRecDepth 100000 in
theorem kc_X10_185 : Cond.constant RX10 185 (1000000) ∈ gwl := gwl_in6 17 rfl rfl
set_option maxRecDepth 100000 in
theorem kc_X10_189 : Cond.constantLong RX10 189 (255) ∈ gwl := gwl_in6 22 rfl rfl
set_option maxRecDepth 100000 in
theorem kc_X10_216 : Cond.constantLong RX10 216 (97) ∈ gwl := gwl_in6 39 rfl rfl
set_option maxRecDepth 100000 in
theorem kc_X10_218 : Cond.constantLong RX10 218 (122) ∈ gwl := gwl_in6 40 rfl rfl
set_option maxRecDepth 100000 in
theorem kc_X10_226 : Cond.constantLong RX10 226 (48) ∈ gwl := gwl_in6 52 rfl rfl
set_option maxRecDepth 100000 in
theorem kc_X10_228 : Cond.constantLong RX10 228 (57) ∈ gwl := gwl_in6 53 rfl rfl
set_option maxRecDepth 100000 in
theorem kc_X10_269 : Cond.constantLong RX10 269 (3) ∈ gwl := gwl_in6 86 rfl rfl
set_option maxRecDepth 100000 in
theorem kc_X10_271 : Cond.constantLong RX10 271 (10) ∈ gwl := gwl_in6 87 rfl rfl
set_option maxRecDepth 100000 in
theorem kc_X10_282 : Cond.constantLong RX10 282 (-11) ∈ gwl := gwl_in6 100 rfl rfl
set_option maxRecDepth 100000 in
theorem kc_X10_284 : Cond.constantLong RX10 284 (11) ∈ gwl := gwl_in6 101 rfl rfl
set_option maxRecDepth 100000 in
theorem kc_X10_300 : Cond.constant RX10 300 (-1000000) ∈ gwl := gwl_in6 156 rfl rfl
set_option maxRecDepth 100000 in
theorem kc_X10_321 : Cond.constantLong RX10 321 (8) ∈ gwl := gwl_in6 130 rfl rfl
set_option maxRecDepth 100000 in
theorem kc_X10_323 : Cond.constantLong RX10 323 (40) ∈ gwl := gwl_in6 131 rfl rfl
set_option maxRecDepth 100000 in
theorem kc_X10_342 : Cond.constantLong RX10 342 (999) ∈ gwl := gwl_in6 179 rfl rfl
set_option maxRecDepth 100000 in
theorem kc_X10_344 : Cond.constantLong RX10 344 (99) ∈ gwl := gwl_in6 180 rfl rfl
set_option maxRecDepth 100000 in
theorem kc_X10_358 : Cond.constantLong RX10 358 (12) ∈ gwl := gwl_in6 221 rfl rfl
set_option maxRecDepth 100000 in
theorem kc_X10_360 : Cond.constantLong RX10 360 (4) ∈ gwl := gwl_in6 222 rfl rfl
set_option maxRecDepth 100000 in
theorem kc_J6_265 : Cond.constant RJ6 265 (1431655765) ∈ gwl := gwl_in3 151 rfl rfl
set_option maxRecDepth 100000 in
theorem kc_J6_266 : Cond.constant RJ6 266 (858993459) ∈ gwl := gwl_in3 152 rfl rfl
set_option maxRecDepth 100000 in
theorem kc_J6_267 : Cond.constant RJ6 267 (252645135) ∈ gwl := gwl_in3 153 rfl rfl
end
section
/-- the cells behind both constructors; the first is the script, of L ints; b: the setting has its table (cell 95) -/
def g_tb (b : Bool) : Option Nat := match b with
  | true => some 95
  | false => none
def g_tl (b : Bool) : Geo := match b with
  | true => [(.inr (.int, 45225), [])]
  | false => []
def G0 (L : Nat) (b : Bool) : Geo := (.inr (.int, L), []) :: (.inl 9, [some 2, some 3, some 4, some 11, some 23, some 28, some 37, some 45, some 50, some 55]) :: (.inl 1, [none, none, none, none, none]) :: (.inl 1, [none, none, none, none, none]) :: (.inl 8, [some 5, some 6, some 7, some 8, some 9, some 10, none, none]) :: (.inr (.int, 12), []) :: (.inr (.int, 12), []) :: (.inr (.int, 12), []) :: (.inr (.boolean, 12), []) :: (.inr (.int, 12), []) :: (.inr (.int, 12), []) :: (.inl 0, [some 12, none, none, none]) :: (.inr (.array .int, 10), [some 13, some 14, some 15, some 16, some 17, some 18, some 19, some 20, some 21, some 22]) :: (.inr (.int, 30), []) :: (.inr (.int, 30), []) :: (.inr (.int, 30), []) :: (.inr (.int, 30), []) :: (.inr (.int, 30), []) :: (.inr (.int, 30), []) :: (.inr (.int, 30), []) :: (.inr (.int, 30), []) :: (.inr (.int, 30), []) :: (.inr (.int, 30), []) :: (.inl 2, [some 24, none, none, none, none, none, none, none, none, some 25, none, some 26, some 27, none]) :: (.inr (.byte, 160), []) :: (.inr (.int, 24), []) :: (.inr (.int, 4), []) :: (.inr (.int, 4), []) :: (.inl 7, [some 29, some 36, none]) :: (.inr (.array .int, 6), [some 30, some 31, some 32, some 33, some 34, some 35]) :: (.inr (.int, 24), []) :: (.inr (.int, 24), []) :: (.inr (.int, 24), []) :: (.inr (.int, 24), []) :: (.inr (.int, 24), []) :: (.inr (.int, 24), []) :: (.inr (.int, 6), []) :: (.inl 4, [g_tb b, some 38, some 39, none, none, some 40, some 41, none, none, some 42, some 43, none, none, none, some 44, none]) :: (.inr (.int, 201), []) :: (.inr (.int, 24), []) :: (.inr (.int, 32), []) :: (.inr (.int, 32), []) :: (.inr (.int, 24), []) :: (.inr (.int, 24), []) :: (.inr (.int, 5), []) :: (.inl 6, [some 46, some 47, none, some 48, none, some 49, none, none]) :: (.inr (.int, 24), []) :: (.inr (.int, 24), []) :: (.inr (.int, 12), []) :: (.inr (.int, 12), []) :: (.inl 3, [some 51, some 52, none, some 53, some 54, none, none, none, none, none, none]) :: (.inr (.int, 4), []) :: (.inr (.int, 4), []) :: (.inr (.int, 6), []) :: (.inr (.int, 6), []) :: (.inl 5, [some 56, some 61, some 62]) :: (.inr (.array .int, 4), [some 57, some 58, some 59, some 60]) :: (.inr (.int, 60), []) :: (.inr (.int, 60), []) :: (.inr (.int, 60), []) :: (.inr (.int, 60), []) :: (.inr (.int, 4), []) :: (.inr (.int, 4), []) :: (.inl 10, [none, none, none, none, none, none, some 64, some 65, some 66, some 67, some 68, some 69, some 70, none, some 71, some 72, none, none, none, none, none, none, none, none, some 73, some 74, some 75, none, none, some 76, some 77, none, some 78, some 79, some 80, none, none, none, some 81, some 82, some 83, some 84, some 85, some 86, some 87, none, some 88, some 89, none, some 90, some 91, none, some 92, some 93, some 94]) :: (.inr (.int, 12), []) :: (.inr (.int, 12), []) :: (.inr (.int, 12), []) :: (.inr (.boolean, 12), []) :: (.inr (.int, 12), []) :: (.inr (.int, 12), []) :: (.inr (.boolean, 12), []) :: (.inr (.int, 420), []) :: (.inr (.int, 160), []) :: (.inr (.int, 6), []) :: (.inr (.int, 144), []) :: (.inr (.int, 64), []) :: (.inr (.int, 5), []) :: (.inr (.int, 5), []) :: (.inr (.int, 45225), []) :: (.inr (.int, 24), []) :: (.inr (.int, 24), []) :: (.inr (.int, 201), []) :: (.inr (.int, 4096), []) :: (.inr (.int, 4096), []) :: (.inr (.boolean, 45225), []) :: (.inr (.int, 12), []) :: (.inr (.boolean, 12), []) :: (.inr (.int, 12), []) :: (.inr (.int, 4), []) :: (.inr (.int, 4), []) :: (.inr (.int, 6), []) :: (.inr (.int, 6), []) :: (.inr (.int, 4), []) :: (.inr (.int, 4), []) :: (.inr (.int, 240), []) :: g_tl b
end
section
/-! EvQ: from this frame the method comes to its return, with Q of the answer and the heap; at most kc cells of ks slots are made -/
def ev_C (mi : MI) (p : Program) (R : Room) (s : State) (m : MethodId) (args : Array Value) (meth : Method) (c : Code) : Prop :=
  p.tables.exec = Jvm.exec ∧ c.code = mi_C mi ∧ c.maxLocals = mi_L mi ∧ meth.sig.returnType = mi_R mi ∧ s.vm.findClass mi.1.cls = some m.cls ∧ (∀ w ∈ gwl, w.before args s = true) ∧ meth.locks = false ∧ (mi.1.name = "<init>" → meth.name = "<init>") ∧ mi_F mi ≤ R.frames ∧ mi_S mi ≤ R.locals ∧ ev_N s ∧ ev_ok mi
def ev_rt (ret : Option FieldType) (v : Option Value) : Prop := match ret, v with
  | none, none => True
  | some ty, some (.int x) => narrow ty (.int x) = .int x
  | _, _ => False
def ev_ro (v : Option Value) : Instr := match v with
  | none => .return_
  | some _ => .ireturn
def ev_B (base : Nat) (locs : List Loc) : Prop := ∀ q ∈ locs, base < q.base
theorem ev_B.put {base : Nat} {locs : List Loc} {a k : Nat} (h : ev_B base locs) (ha : base < a) : ev_B base (locs ++ [⟨a, k⟩]) := fun q hq => by
  rcases List.mem_append.mp hq with h1 | h1
  · exact h q h1
  · rw [List.mem_singleton.mp h1]; exact ha
theorem ev_B.app {base : Nat} {locs L : List Loc} (h : ev_B base locs) (h2 : ∀ q ∈ L, base < q.base) : ev_B base (locs ++ L) := fun q hq => by
  rcases List.mem_append.mp hq with h1 | h1
  · exact h q h1
  · exact h2 q h1
abbrev Pst : Type := Option Value → Geo → Hp → Prop
def EvQ (mi : MI) (pc : Nat) (lo : List (Option Value)) (st : List Value) (G : Geo) (h : Hp) (kc ks : Nat) (Q : Pst) : Prop :=
  ∀ (p : Program) (l : Launch) (e : Env) (R : Room) (s : State) (m : MethodId) (args : Array Value) (below : List Frame) (meth : Method) (c : Code) (b base : Nat) (ls : Array Slot) (H : Heap) (locs : List Loc) (cells slots : Nat) (Qf : State → Prop),
    ev_C mi p R s m args meth c → ev_L b base (mi_L mi) lo ls → ev_S b base G h s H → ev_B base locs → cells + kc ≤ R.cells → slots + ks ≤ R.slots →
    (∀ (v : Option Value) (G' : Geo) (h' : Hp) (pc' nx tg : Nat) (ls' : Array Slot) (H' : Heap) (locs' : List Loc), Q v G' h' → ev_rt (mi_R mi) v → ev_S b base G' h' s H' → ev_B base locs' → ev_at mi pc' = some (ev_ro v, nx, tg) → nx = pc' + 1 → W p l e R s m args below meth c H' locs' (cells + kc) (slots + ks) Qf (F0 m pc' ls' ((v.map (ev_rv b base)).toList))) →
    W p l e R s m args below meth c H locs cells slots Qf (F0 m pc ls (st.map (ev_rv b base)))
theorem EvQ.mono {mi : MI} {pc : Nat} {lo : List (Option Value)} {st : List Value} {G : Geo} {h : Hp} {kc ks kc' ks' : Nat} {Q Q' : Pst} (k : EvQ mi pc lo st G h kc ks Q) (h1 : kc ≤ kc') (h2 : ks ≤ ks') (hq : ∀ v G' h', Q v G' h' → Q' v G' h') : EvQ mi pc lo st G h kc' ks' Q' := by
  intro p l e R s m args below meth c b base ls H locs cells slots Qf C hL hS hB hc hs hr
  exact k p l e R s m args below meth c b base ls H locs cells slots Qf C hL hS hB (by omega) (by omega)
    (fun v G' h' pc' nx tg ls' H' locs' q1 q2 q3 q4 q5 q6 => W.widen (by omega) (by omega) (hr v G' h' pc' nx tg ls' H' locs' (hq _ _ _ q1) q2 q3 q4 q5 q6))
/-- a row that neither branches nor touches heap or locals -/
theorem ev_up {mi : MI} {pc pc' : Nat} {lo : List (Option Value)} {st st' : List Value} {G : Geo} {h : Hp} {kc ks : Nat} {Q : Pst}
    (hr : ∀ (p : Program) (l : Launch) (e : Env) (R : Room) (s : State) (m : MethodId) (args : Array Value) (below : List Frame) (meth : Method) (c : Code) (b base : Nat) (ls : Array Slot) (H : Heap) (locs : List Loc) (cells slots : Nat) (Qf : State → Prop), ev_C mi p R s m args meth c → ev_L b base (mi_L mi) lo ls → ev_S b base G h s H → W p l e R s m args below meth c H locs cells slots Qf (F0 m pc' ls (st'.map (ev_rv b base))) → W p l e R s m args below meth c H locs cells slots Qf (F0 m pc ls (st.map (ev_rv b base))))
    (k : EvQ mi pc' lo st' G h kc ks Q) : EvQ mi pc lo st G h kc ks Q := by
  intro p l e R s m args below meth c b base ls H locs cells slots Qf C hL hS hB hc hs hret
  exact hr p l e R s m args below meth c b base ls H locs cells slots Qf C hL hS (k p l e R s m args below meth c b base ls H locs cells slots Qf C hL hS hB hc hs hret)
theorem ev_dec {mi : MI} {p : Program} {R : Room} {s : State} {m : MethodId} {args : Array Value} {meth : Method} {c : Code} (C : ev_C mi p R s m args meth c) {pc nx tg n : Nat} {i : Instr} (h : ev_at mi pc = some (i, nx, tg)) (hn : nx = pc + n) : decode (mi_C mi) pc = .ok (i, n) := by
  have h1 := (C.2.2.2.2.2.2.2.2.2.2.2 pc i nx tg h).1
  rw [hn, Nat.add_sub_cancel_left] at h1
  exact h1
theorem ev_tgt {mi : MI} {p : Program} {R : Room} {s : State} {m : MethodId} {args : Array Value} {meth : Method} {c : Code} (C : ev_C mi p R s m args meth c) {pc nx tg : Nat} {i : Instr} (h : ev_at mi pc = some (i, nx, tg)) : ev_off pc tg i = true := (C.2.2.2.2.2.2.2.2.2.2.2 pc i nx tg h).2.2
section EVR
variable {mi : MI} {pc nx tg : Nat} {lo : List (Option Value)} {st : List Value} {G : Geo} {h : Hp} {kc ks : Nat} {Q : Pst}
theorem ev_iconst {n : Int} {v : Int32} (hd : ev_at mi pc = some (.iconst n, nx, tg)) (hn : nx = pc + 1) (hv : Int32.ofInt n = v) (k : EvQ mi nx lo (.int v :: st) G h kc ks Q) : EvQ mi pc lo st G h kc ks Q := by
  subst hn
  exact ev_up (fun p l e R s m args below meth c b base ls H locs cells slots Qf C hL hS w => lv_iconst C.1 C.2.1 (ev_dec C hd rfl) hv w) k
theorem ev_bipush {n : Int} {v : Int32} (hd : ev_at mi pc = some (.bipush n, nx, tg)) (hn : nx = pc + 2) (hv : (Int8.ofInt n).toInt32 = v) (k : EvQ mi nx lo (.int v :: st) G h kc ks Q) : EvQ mi pc lo st G h kc ks Q := by
  subst hn
  exact ev_up (fun p l e R s m args below meth c b base ls H locs cells slots Qf C hL hS w => lv_bipush C.1 C.2.1 (ev_dec C hd rfl) hv w) k
theorem ev_sipush {n : Int} {v : Int32} (hd : ev_at mi pc = some (.sipush n, nx, tg)) (hn : nx = pc + 3) (hv : (Int16.ofInt n).toInt32 = v) (k : EvQ mi nx lo (.int v :: st) G h kc ks Q) : EvQ mi pc lo st G h kc ks Q := by
  subst hn
  exact ev_up (fun p l e R s m args below meth c b base ls H locs cells slots Qf C hL hS w => lv_sipush C.1 C.2.1 (ev_dec C hd rfl) hv w) k
theorem ev_lconst {n : Fin 2} {v : Int64} (hd : ev_at mi pc = some (.lconst n, nx, tg)) (hn : nx = pc + 1) (hv : Int64.ofNat (n : Nat) = v) (k : EvQ mi nx lo (.long v :: st) G h kc ks Q) : EvQ mi pc lo st G h kc ks Q := by
  subst hn
  exact ev_up (fun p l e R s m args below meth c b base ls H locs cells slots Qf C hL hS w => lv_lconst C.1 C.2.1 (ev_dec C hd rfl) hv w) k
theorem ev_ldc {ix : Nat} {v : Int32} (hd : ev_at mi pc = some (.ldc ix, nx, tg)) (hn : nx = pc + 2) (hw : Cond.constant mi.1.cls ix v ∈ gwl) (k : EvQ mi nx lo (.int v :: st) G h kc ks Q) : EvQ mi pc lo st G h kc ks Q := by
  subst hn
  exact ev_up (fun p l e R s m args below meth c b base ls H locs cells slots Qf C hL hS w => lv_ldc C.1 C.2.1 C.2.2.2.2.1 (C.2.2.2.2.2.1 _ hw) (ev_dec C hd rfl) w) k
theorem ev_ldcw {ix : Nat} {v : Int32} (hd : ev_at mi pc = some (.ldc_w ix, nx, tg)) (hn : nx = pc + 3) (hw : Cond.constant mi.1.cls ix v ∈ gwl) (k : EvQ mi nx lo (.int v :: st) G h kc ks Q) : EvQ mi pc lo st G h kc ks Q := by
  subst hn
  exact ev_up (fun p l e R s m args below meth c b base ls H locs cells slots Qf C hL hS w => lv_ldcw C.1 C.2.1 C.2.2.2.2.1 (C.2.2.2.2.2.1 _ hw) (ev_dec C hd rfl) w) k
theorem ev_ldc2 {ix : Nat} {v : Int64} (hd : ev_at mi pc = some (.ldc2_w ix, nx, tg)) (hn : nx = pc + 3) (hw : Cond.constantLong mi.1.cls ix v ∈ gwl) (k : EvQ mi nx lo (.long v :: st) G h kc ks Q) : EvQ mi pc lo st G h kc ks Q := by
  subst hn
  exact ev_up (fun p l e R s m args below meth c b base ls H locs cells slots Qf C hL hS w => lv_ldc2 C.1 C.2.1 C.2.2.2.2.1 (C.2.2.2.2.2.1 _ hw) (ev_dec C hd rfl) w) k
theorem ev_iload_n {n : Fin 4} {x : Int32} (hd : ev_at mi pc = some (.iload_n n, nx, tg)) (hn : nx = pc + 1) (hl : lo[(n : Nat)]? = some (some (.int x))) (k : EvQ mi nx lo (.int x :: st) G h kc ks Q) : EvQ mi pc lo st G h kc ks Q := by
  subst hn
  exact ev_up (fun p l e R s m args below meth c b base ls H locs cells slots Qf C hL hS w => lv_iload_n C.1 C.2.1 (ev_dec C hd rfl) rfl (hL.get hl) w) k
theorem ev_iload {n : Nat} {x : Int32} (hd : ev_at mi pc = some (.iload n, nx, tg)) (hn : nx = pc + 2) (hl : lo[n]? = some (some (.int x))) (k : EvQ mi nx lo (.int x :: st) G h kc ks Q) : EvQ mi pc lo st G h kc ks Q := by
  subst hn
  exact ev_up (fun p l e R s m args below meth c b base ls H locs cells slots Qf C hL hS w => lv_iload C.1 C.2.1 (ev_dec C hd rfl) (hL.get hl) w) k
theorem ev_lload_n {n : Fin 4} {x : Int64} (hd : ev_at mi pc = some (.lload_n n, nx, tg)) (hn : nx = pc + 1) (hl : lo[(n : Nat)]? = some (some (.long x))) (k : EvQ mi nx lo (.long x :: st) G h kc ks Q) : EvQ mi pc lo st G h kc ks Q := by
  subst hn
  exact ev_up (fun p l e R s m args below meth c b base ls H locs cells slots Qf C hL hS w => lv_lload_n C.1 C.2.1 (ev_dec C hd rfl) rfl (hL.get hl) w) k
theorem ev_lload {n : Nat} {x : Int64} (hd : ev_at mi pc = some (.lload n, nx, tg)) (hn : nx = pc + 2) (hl : lo[n]? = some (some (.long x))) (k : EvQ mi nx lo (.long x :: st) G h kc ks Q) : EvQ mi pc lo st G h kc ks Q := by
  subst hn
  exact ev_up (fun p l e R s m args below meth c b base ls H locs cells slots Qf C hL hS w => lv_lload C.1 C.2.1 (ev_dec C hd rfl) (hL.get hl) w) k
theorem ev_aload_n {n : Fin 4} {x : Nat} (hd : ev_at mi pc = some (.aload_n n, nx, tg)) (hn : nx = pc + 1) (hl : lo[(n : Nat)]? = some (some (.ref x))) (k : EvQ mi nx lo (.ref x :: st) G h kc ks Q) : EvQ mi pc lo st G h kc ks Q := by
  subst hn
  exact ev_up (fun p l e R s m args below meth c b base ls H locs cells slots Qf C hL hS w => lv_aload_n C.1 C.2.1 (ev_dec C hd rfl) rfl (hL.get hl) w) k
theorem ev_aload {n : Nat} {x : Nat} (hd : ev_at mi pc = some (.aload n, nx, tg)) (hn : nx = pc + 2) (hl : lo[n]? = some (some (.ref x))) (k : EvQ mi nx lo (.ref x :: st) G h kc ks Q) : EvQ mi pc lo st G h kc ks Q := by
  subst hn
  exact ev_up (fun p l e R s m args below meth c b base ls H locs cells slots Qf C hL hS w => lv_aload C.1 C.2.1 (ev_dec C hd rfl) (hL.get hl) w) k
theorem ev_istore_n {n : Fin 4} {x : Int32} (hd : ev_at mi pc = some (.istore_n n, nx, tg)) (hn : nx = pc + 1) (hb : Nat.blt (n : Nat) (mi_L mi) = true) (hc : ev_c1 lo (n : Nat) = true) (k : EvQ mi nx (lo.set (n : Nat) (some (.int x))) st G h kc ks Q) : EvQ mi pc lo (.int x :: st) G h kc ks Q := by
  subst hn
  intro p l e R s m args below meth c b base ls H locs cells slots Qf C hL hS hB hcc hss hret
  obtain ⟨l0, hl1, hl2⟩ := hL
  exact lv_istore_n C.1 C.2.1 (ev_dec C hd rfl) rfl hl1 (Nat.le_of_ble_eq_true hb) rfl (fun ls' hl' => k p l e R s m args below meth c b base ls' H locs cells slots Qf C (ev_L.put1 (v := .int x) hl2 hc hl') hS hB hcc hss hret)
theorem ev_istore {n : Nat} {x : Int32} (hd : ev_at mi pc = some (.istore n, nx, tg)) (hn : nx = pc + 2) (hb : Nat.blt n (mi_L mi) = true) (hc : ev_c1 lo n = true) (k : EvQ mi nx (lo.set n (some (.int x))) st G h kc ks Q) : EvQ mi pc lo (.int x :: st) G h kc ks Q := by
  subst hn
  intro p l e R s m args below meth c b base ls H locs cells slots Qf C hL hS hB hcc hss hret
  obtain ⟨l0, hl1, hl2⟩ := hL
  exact lv_istore C.1 C.2.1 (ev_dec C hd rfl) hl1 (Nat.le_of_ble_eq_true hb) rfl (fun ls' hl' => k p l e R s m args below meth c b base ls' H locs cells slots Qf C (ev_L.put1 (v := .int x) hl2 hc hl') hS hB hcc hss hret)
theorem ev_astore_n {n : Fin 4} {x : Nat} (hd : ev_at mi pc = some (.astore_n n, nx, tg)) (hn : nx = pc + 1) (hb : Nat.blt (n : Nat) (mi_L mi) = true) (hc : ev_c1 lo (n : Nat) = true) (k : EvQ mi nx (lo.set (n : Nat) (some (.ref x))) st G h kc ks Q) : EvQ mi pc lo (.ref x :: st) G h kc ks Q := by
  subst hn
  intro p l e R s m args below meth c b base ls H locs cells slots Qf C hL hS hB hcc hss hret
  obtain ⟨l0, hl1, hl2⟩ := hL
  exact lv_astore_n C.1 C.2.1 (ev_dec C hd rfl) rfl hl1 (Nat.le_of_ble_eq_true hb) rfl (fun ls' hl' => k p l e R s m args below meth c b base ls' H locs cells slots Qf C (ev_L.put1 (v := .ref x) hl2 hc hl') hS hB hcc hss hret)
theorem ev_astore {n : Nat} {x : Nat} (hd : ev_at mi pc = some (.astore n, nx, tg)) (hn : nx = pc + 2) (hb : Nat.blt n (mi_L mi) = true) (hc : ev_c1 lo n = true) (k : EvQ mi nx (lo.set n (some (.ref x))) st G h kc ks Q) : EvQ mi pc lo (.ref x :: st) G h kc ks Q := by
  subst hn
  intro p l e R s m args below meth c b base ls H locs cells slots Qf C hL hS hB hcc hss hret
  obtain ⟨l0, hl1, hl2⟩ := hL
  exact lv_astore C.1 C.2.1 (ev_dec C hd rfl) hl1 (Nat.le_of_ble_eq_true hb) rfl (fun ls' hl' => k p l e R s m args below meth c b base ls' H locs cells slots Qf C (ev_L.put1 (v := .ref x) hl2 hc hl') hS hB hcc hss hret)
theorem ev_lstore {n : Nat} {x : Int64} (hd : ev_at mi pc = some (.lstore n, nx, tg)) (hn : nx = pc + 2) (hb : Nat.blt (n + 1) (mi_L mi) = true) (hc : ev_c1 lo n = true) (k : EvQ mi nx ((lo.set n (some (.long x))).set (n + 1) none) st G h kc ks Q) : EvQ mi pc lo (.long x :: st) G h kc ks Q := by
  subst hn
  intro p l e R s m args below meth c b base ls H locs cells slots Qf C hL hS hB hcc hss hret
  obtain ⟨l0, hl1, hl2⟩ := hL
  exact lv_lstore C.1 C.2.1 (ev_dec C hd rfl) hl1 (Nat.le_of_ble_eq_true hb) rfl (fun ls' hl' => k p l e R s m args below meth c b base ls' H locs cells slots Qf C (ev_L.put2 (v := .long x) hl2 hc hl') hS hB hcc hss hret)
theorem ev_iinc {n : Nat} {d : Int} {x y : Int32} (hd : ev_at mi pc = some (.iinc n d, nx, tg)) (hn : nx = pc + 3) (hl : lo[n]? = some (some (.int x))) (hy : Int32.ofInt d = y) (hb : Nat.blt n (mi_L mi) = true) (hc : ev_c1 lo n = true) (k : EvQ mi nx (lo.set n (some (.int (x + y)))) st G h kc ks Q) : EvQ mi pc lo st G h kc ks Q := by
  subst hn
  subst hy
  intro p l e R s m args below meth c b base ls H locs cells slots Qf C hL hS hB hcc hss hret
  obtain ⟨l0, hl1, hl2⟩ := hL
  obtain ⟨j, hj⟩ := List.getElem?_of_mem (hl2 n _ hl)
  exact lv_iinc C.1 C.2.1 (ev_dec C hd rfl) hl1 hj rfl (Nat.le_of_ble_eq_true hb) rfl (fun ls' hl' => k p l e R s m args below meth c b base ls' H locs cells slots Qf C (ev_L.put1 (v := .int (x + Int32.ofInt d)) hl2 hc hl') hS hB hcc hss hret)
theorem ev_null (hd : ev_at mi pc = some (.aconst_null, nx, tg)) (hn : nx = pc + 1) (k : EvQ mi nx lo (.null :: st) G h kc ks Q) : EvQ mi pc lo st G h kc ks Q := by
  subst hn
  exact ev_up (fun p l e R s m args below meth c b base ls H locs cells slots Qf C hL hS w => lv_null C.1 C.2.1 (ev_dec C hd rfl) w) k
theorem ev_dup {v : Value} (hd : ev_at mi pc = some (.dup, nx, tg)) (hn : nx = pc + 1) (hc : Nat.beq v.category 1 = true) (k : EvQ mi nx lo (v :: v :: st) G h kc ks Q) : EvQ mi pc lo (v :: st) G h kc ks Q := by
  subst hn
  exact ev_up (fun p l e R s m args below meth c b base ls H locs cells slots Qf C hL hS w => lv_dup C.1 C.2.1 (ev_dec C hd rfl) ((ev_rv_cat b base v).trans (Nat.eq_of_beq_eq_true hc)) w) k
theorem ev_pop {v : Value} (hd : ev_at mi pc = some (.pop, nx, tg)) (hn : nx = pc + 1) (hc : Nat.beq v.category 1 = true) (k : EvQ mi nx lo st G h kc ks Q) : EvQ mi pc lo (v :: st) G h kc ks Q := by
  subst hn
  exact ev_up (fun p l e R s m args below meth c b base ls H locs cells slots Qf C hL hS w => lv_pop C.1 C.2.1 (ev_dec C hd rfl) ((ev_rv_cat b base v).trans (Nat.eq_of_beq_eq_true hc)) w) k
theorem ev_dup2 {v u : Value} (hd : ev_at mi pc = some (.dup2, nx, tg)) (hn : nx = pc + 1) (hc : Nat.beq v.category 1 = true) (hu : Nat.beq u.category 1 = true) (k : EvQ mi nx lo (v :: u :: v :: u :: st) G h kc ks Q) : EvQ mi pc lo (v :: u :: st) G h kc ks Q := by
  subst hn
  exact ev_up (fun p l e R s m args below meth c b base ls H locs cells slots Qf C hL hS w => lv_dup2_11 C.1 C.2.1 (ev_dec C hd rfl) ((ev_rv_cat b base v).trans (Nat.eq_of_beq_eq_true hc)) ((ev_rv_cat b base u).trans (Nat.eq_of_beq_eq_true hu)) w) k
theorem ev_dup_x1 {v u : Value} (hd : ev_at mi pc = some (.dup_x1, nx, tg)) (hn : nx = pc + 1) (hc : Nat.beq v.category 1 = true) (hu : Nat.beq u.category 1 = true) (k : EvQ mi nx lo (v :: u :: v :: st) G h kc ks Q) : EvQ mi pc lo (v :: u :: st) G h kc ks Q := by
  subst hn
  exact ev_up (fun p l e R s m args below meth c b base ls H locs cells slots Qf C hL hS w => lv_dup_x1 C.1 C.2.1 (ev_dec C hd rfl) ((ev_rv_cat b base v).trans (Nat.eq_of_beq_eq_true hc)) ((ev_rv_cat b base u).trans (Nat.eq_of_beq_eq_true hu)) w) k
theorem ev_iadd {x : Int32} {y : Int32} (hd : ev_at mi pc = some (.iadd, nx, tg)) (hn : nx = pc + 1) (k : EvQ mi nx lo (.int (x + y) :: st) G h kc ks Q) : EvQ mi pc lo (.int y :: .int x :: st) G h kc ks Q := by
  subst hn
  exact ev_up (fun p l e R s m args below meth c b base ls H locs cells slots Qf C hL hS w => lv_iadd C.1 C.2.1 (ev_dec C hd rfl) w) k
theorem ev_isub {x : Int32} {y : Int32} (hd : ev_at mi pc = some (.isub, nx, tg)) (hn : nx = pc + 1) (k : EvQ mi nx lo (.int (x - y) :: st) G h kc ks Q) : EvQ mi pc lo (.int y :: .int x :: st) G h kc ks Q := by
  subst hn
  exact ev_up (fun p l e R s m args below meth c b base ls H locs cells slots Qf C hL hS w => lv_isub C.1 C.2.1 (ev_dec C hd rfl) w) k
theorem ev_imul {x : Int32} {y : Int32} (hd : ev_at mi pc = some (.imul, nx, tg)) (hn : nx = pc + 1) (k : EvQ mi nx lo (.int (x * y) :: st) G h kc ks Q) : EvQ mi pc lo (.int y :: .int x :: st) G h kc ks Q := by
  subst hn
  exact ev_up (fun p l e R s m args below meth c b base ls H locs cells slots Qf C hL hS w => lv_imul C.1 C.2.1 (ev_dec C hd rfl) w) k
theorem ev_iand {x : Int32} {y : Int32} (hd : ev_at mi pc = some (.iand, nx, tg)) (hn : nx = pc + 1) (k : EvQ mi nx lo (.int (x &&& y) :: st) G h kc ks Q) : EvQ mi pc lo (.int y :: .int x :: st) G h kc ks Q := by
  subst hn
  exact ev_up (fun p l e R s m args below meth c b base ls H locs cells slots Qf C hL hS w => lv_iand C.1 C.2.1 (ev_dec C hd rfl) w) k
theorem ev_ior {x : Int32} {y : Int32} (hd : ev_at mi pc = some (.ior, nx, tg)) (hn : nx = pc + 1) (k : EvQ mi nx lo (.int (x ||| y) :: st) G h kc ks Q) : EvQ mi pc lo (.int y :: .int x :: st) G h kc ks Q := by
  subst hn
  exact ev_up (fun p l e R s m args below meth c b base ls H locs cells slots Qf C hL hS w => lv_ior C.1 C.2.1 (ev_dec C hd rfl) w) k
theorem ev_ixor {x : Int32} {y : Int32} (hd : ev_at mi pc = some (.ixor, nx, tg)) (hn : nx = pc + 1) (k : EvQ mi nx lo (.int (x ^^^ y) :: st) G h kc ks Q) : EvQ mi pc lo (.int y :: .int x :: st) G h kc ks Q := by
  subst hn
  exact ev_up (fun p l e R s m args below meth c b base ls H locs cells slots Qf C hL hS w => lv_ixor C.1 C.2.1 (ev_dec C hd rfl) w) k
theorem ev_idiv {x : Int32} {y : Int32} (hd : ev_at mi pc = some (.idiv, nx, tg)) (hn : nx = pc + 1) (hne : ¬ y = 0) (k : EvQ mi nx lo (.int (x / y) :: st) G h kc ks Q) : EvQ mi pc lo (.int y :: .int x :: st) G h kc ks Q := by
  subst hn
  exact ev_up (fun p l e R s m args below meth c b base ls H locs cells slots Qf C hL hS w => lv_idiv C.1 C.2.1 (ev_dec C hd rfl) hne w) k
theorem ev_irem {x : Int32} {y : Int32} (hd : ev_at mi pc = some (.irem, nx, tg)) (hn : nx = pc + 1) (hne : ¬ y = 0) (k : EvQ mi nx lo (.int (x - x / y * y) :: st) G h kc ks Q) : EvQ mi pc lo (.int y :: .int x :: st) G h kc ks Q := by
  subst hn
  exact ev_up (fun p l e R s m args below meth c b base ls H locs cells slots Qf C hL hS w => lv_irem C.1 C.2.1 (ev_dec C hd rfl) hne w) k
theorem ev_ladd {x : Int64} {y : Int64} (hd : ev_at mi pc = some (.ladd, nx, tg)) (hn : nx = pc + 1) (k : EvQ mi nx lo (.long (x + y) :: st) G h kc ks Q) : EvQ mi pc lo (.long y :: .long x :: st) G h kc ks Q := by
  subst hn
  exact ev_up (fun p l e R s m args below meth c b base ls H locs cells slots Qf C hL hS w => lv_ladd C.1 C.2.1 (ev_dec C hd rfl) w) k
theorem ev_lsub {x : Int64} {y : Int64} (hd : ev_at mi pc = some (.lsub, nx, tg)) (hn : nx = pc + 1) (k : EvQ mi nx lo (.long (x - y) :: st) G h kc ks Q) : EvQ mi pc lo (.long y :: .long x :: st) G h kc ks Q := by
  subst hn
  exact ev_up (fun p l e R s m args below meth c b base ls H locs cells slots Qf C hL hS w => lv_lsub C.1 C.2.1 (ev_dec C hd rfl) w) k
theorem ev_land {x : Int64} {y : Int64} (hd : ev_at mi pc = some (.land, nx, tg)) (hn : nx = pc + 1) (k : EvQ mi nx lo (.long (x &&& y) :: st) G h kc ks Q) : EvQ mi pc lo (.long y :: .long x :: st) G h kc ks Q := by
  subst hn
  exact ev_up (fun p l e R s m args below meth c b base ls H locs cells slots Qf C hL hS w => lv_land C.1 C.2.1 (ev_dec C hd rfl) w) k
theorem ev_lor {x : Int64} {y : Int64} (hd : ev_at mi pc = some (.lor, nx, tg)) (hn : nx = pc + 1) (k : EvQ mi nx lo (.long (x ||| y) :: st) G h kc ks Q) : EvQ mi pc lo (.long y :: .long x :: st) G h kc ks Q := by
  subst hn
  exact ev_up (fun p l e R s m args below meth c b base ls H locs cells slots Qf C hL hS w => lv_lor C.1 C.2.1 (ev_dec C hd rfl) w) k
theorem ev_ishl {x : Int32} {y : Int32} (hd : ev_at mi pc = some (.ishl, nx, tg)) (hn : nx = pc + 1) (k : EvQ mi nx lo (.int (x <<< (y &&& 31)) :: st) G h kc ks Q) : EvQ mi pc lo (.int y :: .int x :: st) G h kc ks Q := by
  subst hn
  exact ev_up (fun p l e R s m args below meth c b base ls H locs cells slots Qf C hL hS w => lv_ishl C.1 C.2.1 (ev_dec C hd rfl) w) k
theorem ev_ishr {x : Int32} {y : Int32} (hd : ev_at mi pc = some (.ishr, nx, tg)) (hn : nx = pc + 1) (k : EvQ mi nx lo (.int (x >>> (y &&& 31)) :: st) G h kc ks Q) : EvQ mi pc lo (.int y :: .int x :: st) G h kc ks Q := by
  subst hn
  exact ev_up (fun p l e R s m args below meth c b base ls H locs cells slots Qf C hL hS w => lv_ishr C.1 C.2.1 (ev_dec C hd rfl) w) k
theorem ev_iushr {x : Int32} {y : Int32} (hd : ev_at mi pc = some (.iushr, nx, tg)) (hn : nx = pc + 1) (k : EvQ mi nx lo (.int ((x.toUInt32 >>> (y.toUInt32 &&& Int32.toUInt32 31)).toInt32) :: st) G h kc ks Q) : EvQ mi pc lo (.int y :: .int x :: st) G h kc ks Q := by
  subst hn
  exact ev_up (fun p l e R s m args below meth c b base ls H locs cells slots Qf C hL hS w => lv_iushr C.1 C.2.1 (ev_dec C hd rfl) rfl w) k
theorem ev_lshl {x : Int64} {y : Int32} (hd : ev_at mi pc = some (.lshl, nx, tg)) (hn : nx = pc + 1) (k : EvQ mi nx lo (.long (x <<< (y.toInt64 &&& 63)) :: st) G h kc ks Q) : EvQ mi pc lo (.int y :: .long x :: st) G h kc ks Q := by
  subst hn
  exact ev_up (fun p l e R s m args below meth c b base ls H locs cells slots Qf C hL hS w => lv_lshl C.1 C.2.1 (ev_dec C hd rfl) rfl w) k
theorem ev_lshr {x : Int64} {y : Int32} (hd : ev_at mi pc = some (.lshr, nx, tg)) (hn : nx = pc + 1) (k : EvQ mi nx lo (.long (x >>> (y.toInt64 &&& 63)) :: st) G h kc ks Q) : EvQ mi pc lo (.int y :: .long x :: st) G h kc ks Q := by
  subst hn
  exact ev_up (fun p l e R s m args below meth c b base ls H locs cells slots Qf C hL hS w => lv_lshr C.1 C.2.1 (ev_dec C hd rfl) rfl w) k
theorem ev_lcmp {x : Int64} {y : Int64} (hd : ev_at mi pc = some (.lcmp, nx, tg)) (hn : nx = pc + 1) (k : EvQ mi nx lo (.int (lg_cmp x y) :: st) G h kc ks Q) : EvQ mi pc lo (.long y :: .long x :: st) G h kc ks Q := by
  subst hn
  exact ev_up (fun p l e R s m args below meth c b base ls H locs cells slots Qf C hL hS w => W.lcmp C.1 C.2.1 (ev_dec C hd rfl) w) k
theorem ev_ineg {x : Int32} (hd : ev_at mi pc = some (.ineg, nx, tg)) (hn : nx = pc + 1) (k : EvQ mi nx lo (.int (-x) :: st) G h kc ks Q) : EvQ mi pc lo (.int x :: st) G h kc ks Q := by
  subst hn
  exact ev_up (fun p l e R s m args below meth c b base ls H locs cells slots Qf C hL hS w => lv_ineg C.1 C.2.1 (ev_dec C hd rfl) w) k
theorem ev_i2l {x : Int32} (hd : ev_at mi pc = some (.i2l, nx, tg)) (hn : nx = pc + 1) (k : EvQ mi nx lo (.long (x.toInt64) :: st) G h kc ks Q) : EvQ mi pc lo (.int x :: st) G h kc ks Q := by
  subst hn
  exact ev_up (fun p l e R s m args below meth c b base ls H locs cells slots Qf C hL hS w => lv_i2l C.1 C.2.1 (ev_dec C hd rfl) rfl w) k
theorem ev_l2i {x : Int64} (hd : ev_at mi pc = some (.l2i, nx, tg)) (hn : nx = pc + 1) (k : EvQ mi nx lo (.int (x.toInt32) :: st) G h kc ks Q) : EvQ mi pc lo (.long x :: st) G h kc ks Q := by
  subst hn
  exact ev_up (fun p l e R s m args below meth c b base ls H locs cells slots Qf C hL hS w => lv_l2i C.1 C.2.1 (ev_dec C hd rfl) rfl w) k
theorem ev_i2b {x : Int32} (hd : ev_at mi pc = some (.i2b, nx, tg)) (hn : nx = pc + 1) (k : EvQ mi nx lo (.int (x.toInt8.toInt32) :: st) G h kc ks Q) : EvQ mi pc lo (.int x :: st) G h kc ks Q := by
  subst hn
  exact ev_up (fun p l e R s m args below meth c b base ls H locs cells slots Qf C hL hS w => lv_i2b C.1 C.2.1 (ev_dec C hd rfl) rfl w) k
theorem ev_i2s {x : Int32} (hd : ev_at mi pc = some (.i2s, nx, tg)) (hn : nx = pc + 1) (k : EvQ mi nx lo (.int (x.toInt16.toInt32) :: st) G h kc ks Q) : EvQ mi pc lo (.int x :: st) G h kc ks Q := by
  subst hn
  exact ev_up (fun p l e R s m args below meth c b base ls H locs cells slots Qf C hL hS w => lv_i2s C.1 C.2.1 (ev_dec C hd rfl) rfl w) k
theorem ev_icmp_eq {x y : Int32} {off : Int} (hd : ev_at mi pc = some (.if_icmp .eq off, nx, tg)) (hn : nx = pc + 3) (kt : x = y → EvQ mi tg lo st G h kc ks Q) (kf : ¬ x = y → EvQ mi nx lo st G h kc ks Q) : EvQ mi pc lo (.int y :: .int x :: st) G h kc ks Q := by
  subst hn
  intro p l e R s m args below meth c b base ls H locs cells slots Qf C hL hS hB hcc hss hret
  exact lv_icmp_eq C.1 C.2.1 (ev_dec C hd rfl) (by simpa [ev_off] using ev_tgt C hd) (fun q => kt q p l e R s m args below meth c b base ls H locs cells slots Qf C hL hS hB hcc hss hret) (fun q => kf q p l e R s m args below meth c b base ls H locs cells slots Qf C hL hS hB hcc hss hret)
theorem ev_if_eq {x : Int32} {off : Int} (hd : ev_at mi pc = some (.ifCond .eq off, nx, tg)) (hn : nx = pc + 3) (kt : x = 0 → EvQ mi tg lo st G h kc ks Q) (kf : ¬ x = 0 → EvQ mi nx lo st G h kc ks Q) : EvQ mi pc lo (.int x :: st) G h kc ks Q := by
  subst hn
  intro p l e R s m args below meth c b base ls H locs cells slots Qf C hL hS hB hcc hss hret
  exact lv_if_eq C.1 C.2.1 (ev_dec C hd rfl) (by simpa [ev_off] using ev_tgt C hd) (fun q => kt q p l e R s m args below meth c b base ls H locs cells slots Qf C hL hS hB hcc hss hret) (fun q => kf q p l e R s m args below meth c b base ls H locs cells slots Qf C hL hS hB hcc hss hret)
theorem ev_icmp_ne {x y : Int32} {off : Int} (hd : ev_at mi pc = some (.if_icmp .ne off, nx, tg)) (hn : nx = pc + 3) (kt : ¬ x = y → EvQ mi tg lo st G h kc ks Q) (kf : x = y → EvQ mi nx lo st G h kc ks Q) : EvQ mi pc lo (.int y :: .int x :: st) G h kc ks Q := by
  subst hn
  intro p l e R s m args below meth c b base ls H locs cells slots Qf C hL hS hB hcc hss hret
  exact lv_icmp_ne C.1 C.2.1 (ev_dec C hd rfl) (by simpa [ev_off] using ev_tgt C hd) (fun q => kt q p l e R s m args below meth c b base ls H locs cells slots Qf C hL hS hB hcc hss hret) (fun q => kf q p l e R s m args below meth c b base ls H locs cells slots Qf C hL hS hB hcc hss hret)
theorem ev_if_ne {x : Int32} {off : Int} (hd : ev_at mi pc = some (.ifCond .ne off, nx, tg)) (hn : nx = pc + 3) (kt : ¬ x = 0 → EvQ mi tg lo st G h kc ks Q) (kf : x = 0 → EvQ mi nx lo st G h kc ks Q) : EvQ mi pc lo (.int x :: st) G h kc ks Q := by
  subst hn
  intro p l e R s m args below meth c b base ls H locs cells slots Qf C hL hS hB hcc hss hret
  exact lv_if_ne C.1 C.2.1 (ev_dec C hd rfl) (by simpa [ev_off] using ev_tgt C hd) (fun q => kt q p l e R s m args below meth c b base ls H locs cells slots Qf C hL hS hB hcc hss hret) (fun q => kf q p l e R s m args below meth c b base ls H locs cells slots Qf C hL hS hB hcc hss hret)
theorem ev_icmp_lt {x y : Int32} {off : Int} (hd : ev_at mi pc = some (.if_icmp .lt off, nx, tg)) (hn : nx = pc + 3) (kt : x < y → EvQ mi tg lo st G h kc ks Q) (kf : ¬ x < y → EvQ mi nx lo st G h kc ks Q) : EvQ mi pc lo (.int y :: .int x :: st) G h kc ks Q := by
  subst hn
  intro p l e R s m args below meth c b base ls H locs cells slots Qf C hL hS hB hcc hss hret
  exact lv_icmp_lt C.1 C.2.1 (ev_dec C hd rfl) (by simpa [ev_off] using ev_tgt C hd) (fun q => kt q p l e R s m args below meth c b base ls H locs cells slots Qf C hL hS hB hcc hss hret) (fun q => kf q p l e R s m args below meth c b base ls H locs cells slots Qf C hL hS hB hcc hss hret)
theorem ev_if_lt {x : Int32} {off : Int} (hd : ev_at mi pc = some (.ifCond .lt off, nx, tg)) (hn : nx = pc + 3) (kt : x < 0 → EvQ mi tg lo st G h kc ks Q) (kf : ¬ x < 0 → EvQ mi nx lo st G h kc ks Q) : EvQ mi pc lo (.int x :: st) G h kc ks Q := by
  subst hn
  intro p l e R s m args below meth c b base ls H locs cells slots Qf C hL hS hB hcc hss hret
  exact lv_if_lt C.1 C.2.1 (ev_dec C hd rfl) (by simpa [ev_off] using ev_tgt C hd) (fun q => kt q p l e R s m args below meth c b base ls H locs cells slots Qf C hL hS hB hcc hss hret) (fun q => kf q p l e R s m args below meth c b base ls H locs cells slots Qf C hL hS hB hcc hss hret)
theorem ev_icmp_ge {x y : Int32} {off : Int} (hd : ev_at mi pc = some (.if_icmp .ge off, nx, tg)) (hn : nx = pc + 3) (kt : y ≤ x → EvQ mi tg lo st G h kc ks Q) (kf : ¬ y ≤ x → EvQ mi nx lo st G h kc ks Q) : EvQ mi pc lo (.int y :: .int x :: st) G h kc ks Q := by
  subst hn
  intro p l e R s m args below meth c b base ls H locs cells slots Qf C hL hS hB hcc hss hret
  exact lv_icmp_ge C.1 C.2.1 (ev_dec C hd rfl) (by simpa [ev_off] using ev_tgt C hd) (fun q => kt q p l e R s m args below meth c b base ls H locs cells slots Qf C hL hS hB hcc hss hret) (fun q => kf q p l e R s m args below meth c b base ls H locs cells slots Qf C hL hS hB hcc hss hret)
theorem ev_if_ge {x : Int32} {off : Int} (hd : ev_at mi pc = some (.ifCond .ge off, nx, tg)) (hn : nx = pc + 3) (kt : 0 ≤ x → EvQ mi tg lo st G h kc ks Q) (kf : ¬ 0 ≤ x → EvQ mi nx lo st G h kc ks Q) : EvQ mi pc lo (.int x :: st) G h kc ks Q := by
  subst hn
  intro p l e R s m args below meth c b base ls H locs cells slots Qf C hL hS hB hcc hss hret
  exact lv_if_ge C.1 C.2.1 (ev_dec C hd rfl) (by simpa [ev_off] using ev_tgt C hd) (fun q => kt q p l e R s m args below meth c b base ls H locs cells slots Qf C hL hS hB hcc hss hret) (fun q => kf q p l e R s m args below meth c b base ls H locs cells slots Qf C hL hS hB hcc hss hret)
theorem ev_icmp_gt {x y : Int32} {off : Int} (hd : ev_at mi pc = some (.if_icmp .gt off, nx, tg)) (hn : nx = pc + 3) (kt : y < x → EvQ mi tg lo st G h kc ks Q) (kf : ¬ y < x → EvQ mi nx lo st G h kc ks Q) : EvQ mi pc lo (.int y :: .int x :: st) G h kc ks Q := by
  subst hn
  intro p l e R s m args below meth c b base ls H locs cells slots Qf C hL hS hB hcc hss hret
  exact lv_icmp_gt C.1 C.2.1 (ev_dec C hd rfl) (by simpa [ev_off] using ev_tgt C hd) (fun q => kt q p l e R s m args below meth c b base ls H locs cells slots Qf C hL hS hB hcc hss hret) (fun q => kf q p l e R s m args below meth c b base ls H locs cells slots Qf C hL hS hB hcc hss hret)
theorem ev_if_gt {x : Int32} {off : Int} (hd : ev_at mi pc = some (.ifCond .gt off, nx, tg)) (hn : nx = pc + 3) (kt : 0 < x → EvQ mi tg lo st G h kc ks Q) (kf : ¬ 0 < x → EvQ mi nx lo st G h kc ks Q) : EvQ mi pc lo (.int x :: st) G h kc ks Q := by
  subst hn
  intro p l e R s m args below meth c b base ls H locs cells slots Qf C hL hS hB hcc hss hret
  exact lv_if_gt C.1 C.2.1 (ev_dec C hd rfl) (by simpa [ev_off] using ev_tgt C hd) (fun q => kt q p l e R s m args below meth c b base ls H locs cells slots Qf C hL hS hB hcc hss hret) (fun q => kf q p l e R s m args below meth c b base ls H locs cells slots Qf C hL hS hB hcc hss hret)
theorem ev_icmp_le {x y : Int32} {off : Int} (hd : ev_at mi pc = some (.if_icmp .le off, nx, tg)) (hn : nx = pc + 3) (kt : x ≤ y → EvQ mi tg lo st G h kc ks Q) (kf : ¬ x ≤ y → EvQ mi nx lo st G h kc ks Q) : EvQ mi pc lo (.int y :: .int x :: st) G h kc ks Q := by
  subst hn
  intro p l e R s m args below meth c b base ls H locs cells slots Qf C hL hS hB hcc hss hret
  exact lv_icmp_le C.1 C.2.1 (ev_dec C hd rfl) (by simpa [ev_off] using ev_tgt C hd) (fun q => kt q p l e R s m args below meth c b base ls H locs cells slots Qf C hL hS hB hcc hss hret) (fun q => kf q p l e R s m args below meth c b base ls H locs cells slots Qf C hL hS hB hcc hss hret)
theorem ev_if_le {x : Int32} {off : Int} (hd : ev_at mi pc = some (.ifCond .le off, nx, tg)) (hn : nx = pc + 3) (kt : x ≤ 0 → EvQ mi tg lo st G h kc ks Q) (kf : ¬ x ≤ 0 → EvQ mi nx lo st G h kc ks Q) : EvQ mi pc lo (.int x :: st) G h kc ks Q := by
  subst hn
  intro p l e R s m args below meth c b base ls H locs cells slots Qf C hL hS hB hcc hss hret
  exact lv_if_le C.1 C.2.1 (ev_dec C hd rfl) (by simpa [ev_off] using ev_tgt C hd) (fun q => kt q p l e R s m args below meth c b base ls H locs cells slots Qf C hL hS hB hcc hss hret) (fun q => kf q p l e R s m args below meth c b base ls H locs cells slots Qf C hL hS hB hcc hss hret)
theorem ev_goto {off : Int} (hd : ev_at mi pc = some (.goto off, nx, tg)) (hn : nx = pc + 3) (k : EvQ mi tg lo st G h kc ks Q) : EvQ mi pc lo st G h kc ks Q :=
  ev_up (fun p l e R s m args below meth c b base ls H locs cells slots Qf C hL hS w => lv_goto C.1 C.2.1 (ev_dec C hd hn) (by simpa [ev_off] using ev_tgt C hd) w) k
theorem ev_ifnn {off : Int} {x : Nat} (hd : ev_at mi pc = some (.ifnonnull off, nx, tg)) (hn : nx = pc + 3) (k : EvQ mi tg lo st G h kc ks Q) : EvQ mi pc lo (.ref x :: st) G h kc ks Q :=
  ev_up (fun p l e R s m args below meth c b base ls H locs cells slots Qf C hL hS w => lv_ifnonnull C.1 C.2.1 (ev_dec C hd hn) (by simpa [ev_off] using ev_tgt C hd) w) k
theorem ev_ifnnN {off : Int} (hd : ev_at mi pc = some (.ifnonnull off, nx, tg)) (hn : nx = pc + 3) (k : EvQ mi nx lo st G h kc ks Q) : EvQ mi pc lo (.null :: st) G h kc ks Q := by
  subst hn
  exact ev_up (fun p l e R s m args below meth c b base ls H locs cells slots Qf C hL hS w => lv_ifnonnullN C.1 C.2.1 (ev_dec C hd rfl) w) k
theorem ev_tabIn {dflt lw hi : Int} {offs : Array Int} {x : Int32} {off : Int} (t : Nat) (hd : ev_at mi pc = some (.tableswitch dflt lw hi offs, nx, tg)) (h1 : ¬ x.toInt < lw) (h2 : ¬ hi < x.toInt) (ho : offs[(x.toInt - lw).toNat]? = some off) (ht : (pc : Int) + off = (t : Int)) (k : EvQ mi t lo st G h kc ks Q) : EvQ mi pc lo (.int x :: st) G h kc ks Q :=
  ev_up (fun p l e R s m args below meth c b base ls H locs cells slots Qf C hL hS w => lv_tableIn C.1 C.2.1 (C.2.2.2.2.2.2.2.2.2.2.2 pc _ nx tg hd).1 h1 h2 ho ht w) k
theorem ev_tabOut {dflt lw hi : Int} {offs : Array Int} {x : Int32} (t : Nat) (hd : ev_at mi pc = some (.tableswitch dflt lw hi offs, nx, tg)) (h1 : x.toInt < lw ∨ hi < x.toInt) (ht : (pc : Int) + dflt = (t : Int)) (k : EvQ mi t lo st G h kc ks Q) : EvQ mi pc lo (.int x :: st) G h kc ks Q :=
  ev_up (fun p l e R s m args below meth c b base ls H locs cells slots Qf C hL hS w => lv_tableOut C.1 C.2.1 (C.2.2.2.2.2.2.2.2.2.2.2 pc _ nx tg hd).1 h1 ht w) k
theorem ev_lookup {dflt : Int} {ps : Array (Int × Int)} {x : Int32} {off : Int} (t : Nat) (hd : ev_at mi pc = some (.lookupswitch dflt ps, nx, tg)) (hp : (ps.toList.zip (ps.toList.drop 1)).all (fun (a, next) => a.1 < next.1) = true) (ho : Op.lookupswitch.offset ps.toList dflt x.toInt = off) (ht : (pc : Int) + off = (t : Int)) (k : EvQ mi t lo st G h kc ks Q) : EvQ mi pc lo (.int x :: st) G h kc ks Q :=
  ev_up (fun p l e R s m args below meth c b base ls H locs cells slots Qf C hL hS w => lv_lookup C.1 C.2.1 (C.2.2.2.2.2.2.2.2.2.2.2 pc _ nx tg hd).1 hp ho ht w) k
theorem ev_iret {x : Int32} (hd : ev_at mi pc = some (.ireturn, nx, tg)) (hn : nx = pc + 1) (ht : ev_rt (mi_R mi) (some (.int x))) (hq : Q (some (.int x)) G h) : EvQ mi pc lo [.int x] G h kc ks Q := by
  intro p l e R s m args below meth c b base ls H locs cells slots Qf C hL hS hB hcc hss hret
  exact W.widen (by omega) (by omega) (hret (some (.int x)) G h pc nx tg ls H locs hq ht hS hB hd hn)
theorem ev_vret (hd : ev_at mi pc = some (.return_, nx, tg)) (hn : nx = pc + 1) (ht : ev_rt (mi_R mi) none) (hq : Q none G h) : EvQ mi pc lo [] G h kc ks Q := by
  intro p l e R s m args below meth c b base ls H locs cells slots Qf C hL hS hB hcc hss hret
  exact W.widen (by omega) (by omega) (hret none G h pc nx tg ls H locs hq ht hS hB hd hn)
end EVR
end
section
/-! heap rows -/
theorem ev_S.obj {b base : Nat} {G : Geo} {h : Hp} {U : State} {H : Heap} (hS : ev_S b base G h U H) {a c : Nat} (ha : 0 < a) (hz : ev_sh G a = some (.inl c)) : ∃ (q : vw_C) (cC : ClassId) (iS : Nat → Nat), vwCl[c]? = some q ∧ u_Kn U q.1 q.2.1 q.2.2 cC iS ∧ t_OB (base + a) cC q.2.2 iS H (fun k => ev_sv b base (tyCl c k) G h a k) := hS.2.2.2 a _ ha hz
theorem ev_ad_pos {b base a : Nat} (ha : 0 < a) : ev_ad b base a = base + a := if_neg (Nat.ne_of_gt ha)
theorem ev_set_ne {h : Hp} {a k i j : Nat} {x : Int32} (hne : i ≠ a) : ev_set h a k x i j = h i j := if_neg (fun q => hne q.1)
theorem ev_gr_rset_ne {G : Geo} {a k i j : Nat} {r : Option Nat} (hne : i ≠ a) : ev_gr (ev_rset G a k r) i j = ev_gr G i j := by
  unfold ev_gr ev_rset
  rw [List.getElem?_modify]
  simp only [if_neg (Ne.symm hne)]
  cases G[i]? <;> rfl
theorem ev_sh_rset {G : Geo} {a k i : Nat} {r : Option Nat} : ev_sh (ev_rset G a k r) i = ev_sh G i := by
  unfold ev_sh ev_rset
  rw [List.getElem?_modify]
  by_cases e : a = i
  · simp only [if_pos e]; cases G[i]? <;> rfl
  · simp only [if_neg e]; cases G[i]? <;> rfl
theorem ev_rset_len {G : Geo} {a k : Nat} {r : Option Nat} : (ev_rset G a k r).length = G.length := by
  unfold ev_rset; rw [List.length_modify]
/-- one cell (a > 0) changes -/
theorem ev_S.upd {b base : Nat} {G G' : Geo} {h h' : Hp} {U : State} {H H' : Heap} (hS : ev_S b base G h U H) {a : Nat} {z : Shp} (ha : 0 < a) (hz : ev_sh G a = some z) (hl : G'.length = G.length) (hsh : ∀ i, ev_sh G' i = ev_sh G i) (hg : ∀ i j, i ≠ a → ev_gr G' i j = ev_gr G i j) (hh : ∀ i j, i ≠ a → h' i j = h i j)
    (hsz : H'.size = H.size) (ho : ∀ q, q ≠ base + a → H'[q]? = H[q]?) (hc : ev_cell b base G' h' U H' a z) : ev_S b base G' h' U H' := by
  obtain ⟨h1, h2, ⟨L, h3, h4⟩, h5⟩ := hS
  refine ⟨h1, by rw [hsz, h2, hl], ⟨L, by rw [hsh]; exact h3, ?_⟩, fun i y hi hy => ?_⟩
  · have e : h' 0 = h 0 := funext fun j => hh 0 j (Nat.ne_of_lt ha)
    rw [e]
    exact h4.kept (ho b (by omega))
  · by_cases e : i = a
    · subst e
      rw [hsh, hz] at hy
      cases hy
      exact hc
    · rw [hsh] at hy
      have hold := h5 i y hi hy
      have hkeep : H'[base + i]? = H[base + i]? := ho _ (by omega)
      have hsv : ∀ (ty : FieldType) (k : Nat), ev_sv b base ty G h i k = ev_sv b base ty G' h' i k := fun ty k => by
        unfold ev_sv; rw [hg i k e, hh i k e]
      cases y with
      | inl c =>
        obtain ⟨q, cC, iS, g1, g2, g3⟩ := hold
        exact ⟨q, cC, iS, g1, g2, (g3.kept hkeep).to (fun k _ => hsv _ k)⟩
      | inr t =>
        obtain ⟨ty, n⟩ := t
        obtain ⟨cA, g1, g2⟩ := hold
        refine ⟨cA, g1, ?_⟩
        rw [hkeep, g2]
        exact congrArg (fun f => some (arrV cA n f)) (funext fun j => hsv ty j)
section EVH
variable {mi : MI} {pc nx tg : Nat} {lo : List (Option Value)} {st : List Value} {G : Geo} {h : Hp} {kc ks : Nat} {Q : Pst}
theorem ev_get {ix a c k : Nat} {v : Value} (hd : ev_at mi pc = some (.getfield ix, nx, tg)) (hn : nx = pc + 3) (hf : ev_fl mi.1.cls ix c k) (ha : 0 < a) (hz : ev_sh G a = some (.inl c)) (hv : ∀ b base, ev_rv b base v = ev_sv b base (tyCl c k) G h a k) (kk : EvQ mi nx lo (v :: st) G h kc ks Q) : EvQ mi pc lo (.ref a :: st) G h kc ks Q := by
  subst hn
  refine ev_up (fun p l e R s m args below meth c0 b base ls H locs cells slots Qf C hL hS w => ?_) kk
  obtain ⟨q, e1, e2, e3, e4, -, -⟩ := hf
  obtain ⟨q', cC, iS, g1, ⟨gS, gfc, kC, gkC, gkind⟩, cell, q1, q2, q3, q4⟩ := hS.obj ha hz
  rw [e1] at g1
  cases g1
  obtain ⟨cf, kf, fi, f, hi, hsl⟩ := gS k e2
  show W p l e R s m args below meth c0 H locs cells slots Qf (F0 m pc ls (.ref (ev_ad b base a) :: st.map (ev_rv b base)))
  refine W.getf C.1 C.2.1 C.2.2.2.2.1 (C.2.2.2.2.2.1 _ e4) hi (u_facts (args := args) gfc gkC (u_lays C.2.2.2.2.2.1 e3 e2) hi).1 (by rw [ev_ad_pos ha]; exact q1) (by rw [q3]; exact fun z => by cases z) (v := ev_rv b base v) ?_ rfl rfl (ev_dec C hd rfl) w
  rw [hsl, q4 k e2, hv]
theorem ev_getI {ix a c k : Nat} (hd : ev_at mi pc = some (.getfield ix, nx, tg)) (hn : nx = pc + 3) (hf : ev_fl mi.1.cls ix c k) (ha : Nat.blt 0 a = true) (hz : ev_sh G a = some (.inl c)) (ht : (tyCl c k).isReference = false) (kk : EvQ mi nx lo (.int (h a k) :: st) G h kc ks Q) : EvQ mi pc lo (.ref a :: st) G h kc ks Q :=
  ev_get hd hn hf (Nat.le_of_ble_eq_true ha) hz (fun b base => by unfold ev_sv; rw [ht]; rfl) kk
theorem ev_getR {ix a c k y : Nat} (hd : ev_at mi pc = some (.getfield ix, nx, tg)) (hn : nx = pc + 3) (hf : ev_fl mi.1.cls ix c k) (ha : Nat.blt 0 a = true) (hz : ev_sh G a = some (.inl c)) (ht : (tyCl c k).isReference = true) (hy : ev_gr G a k = some y) (kk : EvQ mi nx lo (.ref y :: st) G h kc ks Q) : EvQ mi pc lo (.ref a :: st) G h kc ks Q :=
  ev_get hd hn hf (Nat.le_of_ble_eq_true ha) hz (fun b base => by unfold ev_sv; rw [ht, hy]; rfl) kk
theorem ev_getN {ix a c k : Nat} (hd : ev_at mi pc = some (.getfield ix, nx, tg)) (hn : nx = pc + 3) (hf : ev_fl mi.1.cls ix c k) (ha : Nat.blt 0 a = true) (hz : ev_sh G a = some (.inl c)) (ht : (tyCl c k).isReference = true) (hy : ev_gr G a k = none) (kk : EvQ mi nx lo (.null :: st) G h kc ks Q) : EvQ mi pc lo (.ref a :: st) G h kc ks Q :=
  ev_get hd hn hf (Nat.le_of_ble_eq_true ha) hz (fun b base => by unfold ev_sv; rw [ht, hy]; rfl) kk
theorem ev_getV {ix a c k : Nat} {v : Int32} (hd : ev_at mi pc = some (.getfield ix, nx, tg)) (hn : nx = pc + 3) (hf : ev_fl mi.1.cls ix c k) (ha : Nat.blt 0 a = true) (hz : ev_sh G a = some (.inl c)) (ht : (tyCl c k).isReference = false) (hv : h a k = v) (kk : EvQ mi nx lo (.int v :: st) G h kc ks Q) : EvQ mi pc lo (.ref a :: st) G h kc ks Q := by
  subst hv
  exact ev_getI hd hn hf ha hz ht kk
/-- putfield: the machine's part -/
theorem ev_put {ix a c k : Nat} {v : Value} {G' : Geo} {h' : Hp} (hd : ev_at mi pc = some (.putfield ix, nx, tg)) (hn : nx = pc + 3) (hf : ev_fl mi.1.cls ix c k) (hfin : (∃ q : vw_C, vwCl[c]? = some q ∧ (q.2.1 k).2.2.2 = false) ∨ (mi.1.name = "<init>" ∧ ∃ q : vw_C, vwCl[c]? = some q ∧ (q.2.1 k).1 = mi.1.cls)) (ha : 0 < a) (hz : ev_sh G a = some (.inl c))
    (hfit : ∀ b base, narrow (tyCl c k) (ev_rv b base v) = ev_rv b base v ∧ fits (tyCl c k) (ev_rv b base v) = true) (hl : G'.length = G.length) (hsh : ∀ i, ev_sh G' i = ev_sh G i) (hg : ∀ i j, i ≠ a → ev_gr G' i j = ev_gr G i j) (hh : ∀ i j, i ≠ a → h' i j = h i j)
    (hv : ∀ b base, ev_sv b base (tyCl c k) G' h' a k = ev_rv b base v) (hvn : ∀ b base j, j ≠ k → ev_sv b base (tyCl c j) G' h' a j = ev_sv b base (tyCl c j) G h a j) (kk : EvQ mi nx lo st G' h' kc ks Q) : EvQ mi pc lo (v :: .ref a :: st) G h kc ks Q := by
  subst hn
  intro p l e R s m args below meth c0 b base ls H locs cells slots Qf C hL hS hB hcc hss hret
  obtain ⟨q, e1, e2, e3, e4, e5, e6⟩ := hf
  obtain ⟨q', cC, iS, g1, gK, cell, q1, q2, q3, q4⟩ := hS.obj ha hz
  rw [e1] at g1
  cases g1
  obtain ⟨gS, gfc, kC, gkC, gkind⟩ := id gK
  obtain ⟨cf, kf, fi, f, hi, hsl⟩ := gS k e2
  have hts := C.2.2.2.2.2.1
  have hst := (u_facts (args := args) gfc gkC (u_lays hts e3 e2) hi).1
  have hap : ∀ x y, x < q.2.2 → y < q.2.2 → x ≠ y → iS x ≠ iS y := by
    intro x y hx hy hne
    obtain ⟨_, _, _, fa, hia, ea⟩ := gS x hx
    obtain ⟨_, _, _, fb, hib, eb⟩ := gS y hy
    rw [← ea, ← eb]
    refine u_apart (u_lays hts e3 hx) (u_lays hts e3 hy) hia hib ?_
    rw [(State.fieldFound?_type hia (e5 x hx)).1, (State.fieldFound?_type hib (e5 y hy)).1]
    exact e6 x hx y hy hne
  have hlay := hts _ (e3 _ (u_in_lay e2))
  have fin : ∀ H' : Heap, H'[base + a]? = some (cell.setSlot f.slot (ev_rv b base v)) → H'.size = H.size → (∀ x, x ≠ base + a → H'[x]? = H[x]?) → W p l e R s m args below meth c0 H' (locs ++ [⟨base + a, f.slot⟩]) cells slots Qf (F0 m (pc + 3) ls (st.map (ev_rv b base))) := by
    intro H' o1 o2 o3
    refine kk p l e R s m args below meth c0 b base ls H' _ cells slots Qf C hL (hS.upd ha hz hl hsh hg hh o2 o3 ⟨q, cC, iS, e1, gK, ?_⟩) (hB.put (by omega)) hcc hss hret
    rw [hsl] at o1
    refine t_OB.to (V := updV (fun j => ev_sv b base (tyCl c j) G h a j) k (ev_rv b base v)) ⟨_, o1, q2, q3, t_set q4 hap e2 (ev_rv b base v)⟩ (fun j _ => ?_)
    by_cases hj : j = k
    · subst hj; rw [hv]; simp [updV]
    · rw [hvn b base j hj]; simp [updV, hj]
  have hcell : H[base + a]? = some cell := q1
  show W p l e R s m args below meth c0 H locs cells slots Qf (F0 m pc ls (ev_rv b base v :: .ref (ev_ad b base a) :: st.map (ev_rv b base)))
  rw [ev_ad_pos ha]
  unfold u_lay at hlay
  cases hb : (q.2.1 k).2.2.2 with
  | false =>
    rw [if_neg (by rw [hb]; decide)] at hlay
    have h6 := u_store (v := ev_rv b base v) gfc gkC gkind hlay hi (e5 k e2) (hfit b base).1 (hfit b base).2
    exact W.putK C.1 C.2.1 (f := f) ⟨C.2.2.2.2.1, hts _ e4, ⟨_, _, _, hi⟩, hst⟩ (by rw [q2]; exact h6) hcell q3 (by rw [hsl]; exact k2_hasslot (q4 k e2)) rfl rfl (ev_dec C hd rfl) fin
  | true =>
    rw [if_pos hb] at hlay
    obtain ⟨hin0, e7⟩ : mi.1.name = "<init>" ∧ (q.2.1 k).1 = mi.1.cls := by
      rcases hfin with ⟨q'', z1, z2⟩ | ⟨z, q'', z1, z2⟩
      · rw [e1] at z1; cases z1; rw [hb] at z2; cases z2
      · rw [e1] at z1; cases z1; exact ⟨z, z2⟩
    have hin : meth.name = "<init>" := C.2.2.2.2.2.2.2.1 hin0
    have hcf : m.cls = cf := by
      obtain ⟨_, _, c', _, _, _, -, -, hf', -, -, -, hown2, -⟩ := Cond.laysFinal_spec hlay
      have z1 : c' = cf := by have := hi.symm.trans hf'; simp at this; exact this.1.symm
      rw [e7] at hown2
      rw [← z1]; exact Option.some.inj (C.2.2.2.2.1.symm.trans hown2)
    have h6 := u_fits (v := ev_rv b base v) gfc gkC gkind (Or.inr hlay) hi (e5 k e2) (hfit b base).1 (hfit b base).2
    exact W.putFinK C.1 C.2.1 C.2.2.2.2.1 (hts _ e4) hi hst hcf hin (by rw [q2]; exact h6) hcell q3 (by rw [hsl]; exact k2_hasslot (q4 k e2)) rfl rfl (ev_dec C hd rfl) fin
theorem ev_putX {ix a c k : Nat} {x : Int32} (hd : ev_at mi pc = some (.putfield ix, nx, tg)) (hn : nx = pc + 3) (hf : ev_fl mi.1.cls ix c k) (hfin : (∃ q : vw_C, vwCl[c]? = some q ∧ (q.2.1 k).2.2.2 = false) ∨ (mi.1.name = "<init>" ∧ ∃ q : vw_C, vwCl[c]? = some q ∧ (q.2.1 k).1 = mi.1.cls)) (ha : 0 < a) (hz : ev_sh G a = some (.inl c)) (ht : (tyCl c k).isReference = false)
    (hfit : narrow (tyCl c k) (.int x) = .int x ∧ fits (tyCl c k) (.int x) = true) (kk : EvQ mi nx lo st G (ev_set h a k x) kc ks Q) : EvQ mi pc lo (.int x :: .ref a :: st) G h kc ks Q := by
  refine ev_put (v := .int x) hd hn hf hfin ha hz (fun _ _ => hfit) rfl (fun _ => rfl) (fun _ _ _ => rfl) (fun i j hi => ev_set_ne hi) (fun b base => ?_) (fun b base j hj => ?_) kk
  · unfold ev_sv; rw [ht]
    show Value.int (ev_set h a k x a k) = .int x
    unfold ev_set; rw [if_pos ⟨rfl, rfl⟩]
  · have e : ev_set h a k x a j = h a j := if_neg (fun q => hj q.2)
    unfold ev_sv
    dsimp only
    rw [e]
theorem ev_putI {ix a c k : Nat} {x : Int32} {q : vw_C} (hd : ev_at mi pc = some (.putfield ix, nx, tg)) (hn : nx = pc + 3) (hf : ev_fl mi.1.cls ix c k) (hq : vwCl[c]? = some q) (hfin : (q.2.1 k).2.2.2 = false) (ha : Nat.blt 0 a = true) (hz : ev_sh G a = some (.inl c)) (ht : tyCl c k = .int)
    (kk : EvQ mi nx lo st G (ev_set h a k x) kc ks Q) : EvQ mi pc lo (.int x :: .ref a :: st) G h kc ks Q :=
  ev_putX hd hn hf (Or.inl ⟨q, hq, hfin⟩) (Nat.le_of_ble_eq_true ha) hz (by rw [ht]; rfl) (by rw [ht]; exact ⟨rfl, rfl⟩) kk
theorem ev_z01 {x : Int32} (hx : x = 0 ∨ x = 1) : narrow .boolean (.int x) = .int x ∧ fits .boolean (.int x) = true := by
  rcases hx with rfl | rfl <;> decide
theorem ev_putZ {ix a c k : Nat} {x : Int32} {q : vw_C} (hd : ev_at mi pc = some (.putfield ix, nx, tg)) (hn : nx = pc + 3) (hf : ev_fl mi.1.cls ix c k) (hq : vwCl[c]? = some q) (hfin : (q.2.1 k).2.2.2 = false) (ha : Nat.blt 0 a = true) (hz : ev_sh G a = some (.inl c)) (ht : tyCl c k = .boolean) (hx : x = 0 ∨ x = 1)
    (kk : EvQ mi nx lo st G (ev_set h a k x) kc ks Q) : EvQ mi pc lo (.int x :: .ref a :: st) G h kc ks Q :=
  ev_putX hd hn hf (Or.inl ⟨q, hq, hfin⟩) (Nat.le_of_ble_eq_true ha) hz (by rw [ht]; rfl) (by rw [ht]; exact ev_z01 hx) kk
theorem ev_gr_rset {G : Geo} {a k : Nat} {r : Option Nat} (hk : ∃ c, G[a]? = some c ∧ k < c.2.length) : ev_gr (ev_rset G a k r) a k = r := by
  obtain ⟨c, h1, h2⟩ := hk
  unfold ev_gr ev_rset
  rw [List.getElem?_modify_eq, h1]
  show (match (c.2.set k r)[k]? with | none => none | some r => r) = r
  rw [List.getElem?_set_self h2]
theorem ev_gr_rset_k {G : Geo} {a k j : Nat} {r : Option Nat} (hj : j ≠ k) : ev_gr (ev_rset G a k r) a j = ev_gr G a j := by
  unfold ev_gr ev_rset
  rw [List.getElem?_modify_eq]
  cases hc : G[a]? with
  | none => rfl
  | some c =>
    show (match (c.2.set k r)[j]? with | none => none | some r => r) = _
    rw [List.getElem?_set_ne (Ne.symm hj)]
    rfl
def ev_wide (G : Geo) (a k : Nat) : Bool := match G[a]? with
  | none => false
  | some c => Nat.blt k c.2.length
theorem ev_wide_of {G : Geo} {a k : Nat} (h : ev_wide G a k = true) : ∃ c, G[a]? = some c ∧ k < c.2.length := by
  unfold ev_wide at h
  cases hc : G[a]? with
  | none => rw [hc] at h; cases h
  | some c => rw [hc] at h; exact ⟨c, rfl, Nat.le_of_ble_eq_true h⟩
theorem ev_ref_fits {ty : FieldType} (ht : ty.isReference = true) (b base : Nat) (r : Option Nat) : narrow ty (ev_rv b base (ev_vf r)) = ev_rv b base (ev_vf r) ∧ fits ty (ev_rv b base (ev_vf r)) = true := by
  cases r <;> cases ty <;> first | (exact ⟨rfl, rfl⟩) | (cases ht)
theorem ev_putR0 {ix a c k : Nat} (r : Option Nat) (hd : ev_at mi pc = some (.putfield ix, nx, tg)) (hn : nx = pc + 3) (hf : ev_fl mi.1.cls ix c k) (hfin : (∃ q : vw_C, vwCl[c]? = some q ∧ (q.2.1 k).2.2.2 = false) ∨ (mi.1.name = "<init>" ∧ ∃ q : vw_C, vwCl[c]? = some q ∧ (q.2.1 k).1 = mi.1.cls)) (ha : Nat.blt 0 a = true) (hz : ev_sh G a = some (.inl c)) (ht : (tyCl c k).isReference = true) (hw : ev_wide G a k = true)
    (kk : EvQ mi nx lo st (ev_rset G a k r) h kc ks Q) : EvQ mi pc lo (ev_vf r :: .ref a :: st) G h kc ks Q := by
  refine ev_put (v := ev_vf r) (G' := ev_rset G a k r) (h' := h) hd hn hf hfin (Nat.le_of_ble_eq_true ha) hz (fun b base => ev_ref_fits ht b base r) ev_rset_len (fun i => ev_sh_rset) (fun i j hi => ev_gr_rset_ne hi) (fun _ _ _ => rfl) (fun b base => ?_) (fun b base j hj => ?_) kk
  · unfold ev_sv
    rw [if_pos ht, ev_gr_rset (ev_wide_of hw), ev_rv_vf]
  · unfold ev_sv
    rw [ev_gr_rset_k hj]
theorem ev_putR {ix a c k y : Nat} (hd : ev_at mi pc = some (.putfield ix, nx, tg)) (hn : nx = pc + 3) (hf : ev_fl mi.1.cls ix c k) (hfin : (∃ q : vw_C, vwCl[c]? = some q ∧ (q.2.1 k).2.2.2 = false) ∨ (mi.1.name = "<init>" ∧ ∃ q : vw_C, vwCl[c]? = some q ∧ (q.2.1 k).1 = mi.1.cls)) (ha : Nat.blt 0 a = true) (hz : ev_sh G a = some (.inl c)) (ht : (tyCl c k).isReference = true) (hw : ev_wide G a k = true)
    (kk : EvQ mi nx lo st (ev_rset G a k (some y)) h kc ks Q) : EvQ mi pc lo (.ref y :: .ref a :: st) G h kc ks Q := ev_putR0 (some y) hd hn hf hfin ha hz ht hw kk
theorem ev_putN {ix a c k : Nat} (hd : ev_at mi pc = some (.putfield ix, nx, tg)) (hn : nx = pc + 3) (hf : ev_fl mi.1.cls ix c k) (hfin : (∃ q : vw_C, vwCl[c]? = some q ∧ (q.2.1 k).2.2.2 = false) ∨ (mi.1.name = "<init>" ∧ ∃ q : vw_C, vwCl[c]? = some q ∧ (q.2.1 k).1 = mi.1.cls)) (ha : Nat.blt 0 a = true) (hz : ev_sh G a = some (.inl c)) (ht : (tyCl c k).isReference = true) (hw : ev_wide G a k = true)
    (kk : EvQ mi nx lo st (ev_rset G a k none) h kc ks Q) : EvQ mi pc lo (.null :: .ref a :: st) G h kc ks Q := ev_putR0 none hd hn hf hfin ha hz ht hw kk
/-! arrays -/
theorem ev_ivp {i : Int32} {n : Nat} {cell : Cell} (hin : vp_in i n) (hs : cell.slots.size = n) : ¬ (i < 0 ∨ cell.slots.size ≤ i.toNatClampNeg) := by rw [hs]; exact hin
theorem ev_lt_of_in {i : Int32} {n : Nat} (hin : vp_in i n) : i.toNatClampNeg < n := Nat.not_le.mp fun q => hin (Or.inr q)
theorem ev_iald {a n j : Nat} {i : Int32} (hd : ev_at mi pc = some (.iaload, nx, tg)) (hn : nx = pc + 1) (hz : ev_sh G a = some (.inr (.int, n))) (hin : vp_in i n) (hj : i.toNatClampNeg = j) (kk : EvQ mi nx lo (.int (h a j) :: st) G h kc ks Q) : EvQ mi pc lo (.int i :: .ref a :: st) G h kc ks Q := by
  subst hn
  subst hj
  refine ev_up (fun p l e R s m args below meth c0 b base ls H locs cells slots Qf C hL hS w => ?_) kk
  obtain ⟨cell, q1, q2, q3, q4, q5⟩ := hS.arr hz
  exact W.iald C.1 C.2.1 q1 q2 q3 (ev_ivp hin q4) (q5 _ (ev_lt_of_in hin)) rfl rfl (ev_dec C hd rfl) w
theorem ev_iadV {a n j : Nat} {i v : Int32} (hd : ev_at mi pc = some (.iaload, nx, tg)) (hn : nx = pc + 1) (hz : ev_sh G a = some (.inr (.int, n))) (hin : vp_in i n) (hj : i.toNatClampNeg = j) (hv : h a j = v) (kk : EvQ mi nx lo (.int v :: st) G h kc ks Q) : EvQ mi pc lo (.int i :: .ref a :: st) G h kc ks Q := by
  subst hv
  exact ev_iald hd hn hz hin hj kk
theorem ev_zald {a n j : Nat} {i : Int32} (hd : ev_at mi pc = some (.baload, nx, tg)) (hn : nx = pc + 1) (hz : ev_sh G a = some (.inr (.boolean, n))) (hin : vp_in i n) (hj : i.toNatClampNeg = j) (kk : EvQ mi nx lo (.int (h a j) :: st) G h kc ks Q) : EvQ mi pc lo (.int i :: .ref a :: st) G h kc ks Q := by
  subst hn
  subst hj
  refine ev_up (fun p l e R s m args below meth c0 b base ls H locs cells slots Qf C hL hS w => ?_) kk
  obtain ⟨cell, q1, q2, q3, q4, q5⟩ := hS.arr hz
  exact W.zald C.1 C.2.1 q1 q2 q3 (ev_ivp hin q4) (q5 _ (ev_lt_of_in hin)) rfl rfl (ev_dec C hd rfl) w
theorem ev_bald {a n j : Nat} {i : Int32} (hd : ev_at mi pc = some (.baload, nx, tg)) (hn : nx = pc + 1) (hz : ev_sh G a = some (.inr (.byte, n))) (hin : vp_in i n) (hj : i.toNatClampNeg = j) (kk : EvQ mi nx lo (.int (h a j) :: st) G h kc ks Q) : EvQ mi pc lo (.int i :: .ref a :: st) G h kc ks Q := by
  subst hn
  subst hj
  refine ev_up (fun p l e R s m args below meth c0 b base ls H locs cells slots Qf C hL hS w => ?_) kk
  obtain ⟨cell, q1, q2, q3, q4, q5⟩ := hS.arr hz
  exact W.bald C.1 C.2.1 q1 q2 q3 (ev_ivp hin q4) (q5 _ (ev_lt_of_in hin)) rfl rfl (ev_dec C hd rfl) w
theorem ev_aald {a n y j : Nat} {ty : FieldType} {i : Int32} (hd : ev_at mi pc = some (.aaload, nx, tg)) (hn : nx = pc + 1) (hz : ev_sh G a = some (.inr (ty, n))) (ht : ty.isReference = true) (hin : vp_in i n) (hj : i.toNatClampNeg = j) (hy : ev_gr G a j = some y) (kk : EvQ mi nx lo (.ref y :: st) G h kc ks Q) : EvQ mi pc lo (.int i :: .ref a :: st) G h kc ks Q := by
  subst hn
  subst hj
  refine ev_up (fun p l e R s m args below meth c0 b base ls H locs cells slots Qf C hL hS w => ?_) kk
  obtain ⟨cell, q1, q2, q3, q4, q5⟩ := hS.arr hz
  refine W.aald C.1 C.2.1 q1 q2 ht q3 (ev_ivp hin q4) (v := .ref (ev_ad b base y)) ?_ rfl rfl (ev_dec C hd rfl) w
  rw [q5 _ (ev_lt_of_in hin)]
  unfold ev_sv
  rw [if_pos ht, hy]
  rfl
theorem ev_alen {a n : Nat} {ty : FieldType} (hd : ev_at mi pc = some (.arraylength, nx, tg)) (hn : nx = pc + 1) (hz : ev_sh G a = some (.inr (ty, n))) (kk : EvQ mi nx lo (.int (nI n) :: st) G h kc ks Q) : EvQ mi pc lo (.ref a :: st) G h kc ks Q := by
  subst hn
  refine ev_up (fun p l e R s m args below meth c0 b base ls H locs cells slots Qf C hL hS w => ?_) kk
  obtain ⟨cell, q1, q2, q3, q4, q5⟩ := hS.arr hz
  exact W.alen C.1 C.2.1 q1 q2 (by rw [q4]; rfl) rfl rfl (ev_dec C hd rfl) w
/-- behind a store: the cell has the new value -/
theorem ev_S.stored {b base : Nat} {U : State} {H H' : Heap} (hS : ev_S b base G h U H) {a n k : Nat} {x : Int32} {ty : FieldType} {cA : ClassId} (ha : 0 < a) (hz : ev_sh G a = some (.inr (ty, n))) (ht : ty.isReference = false) (hA : ArrOfT U cA ty)
    (o1 : H'[base + a]? = some ((arrV cA n (fun j => ev_sv b base ty G h a j)).setSlot k (.int x))) (o2 : H'.size = H.size) (o3 : ∀ q, q ≠ base + a → H'[q]? = H[q]?) : ev_S b base G (ev_set h a k x) U H' := by
  refine hS.upd ha hz rfl (fun _ => rfl) (fun _ _ _ => rfl) (fun i j hi => ev_set_ne hi) o2 o3 ⟨cA, hA, ?_⟩
  rw [o1, arrV_store]
  refine congrArg (fun f => some (arrV cA n f)) (funext fun j => ?_)
  unfold ev_sv ev_set
  rw [ht]
  by_cases e : j = k
  · subst e; simp [updV]
  · simp [updV, e]
theorem ev_iast {a n j : Nat} {i x : Int32} (hd : ev_at mi pc = some (.iastore, nx, tg)) (hn : nx = pc + 1) (ha : Nat.blt 0 a = true) (hz : ev_sh G a = some (.inr (.int, n))) (hin : vp_in i n) (hj : i.toNatClampNeg = j) (kk : EvQ mi nx lo st G (ev_set h a j x) kc ks Q) : EvQ mi pc lo (.int x :: .int i :: .ref a :: st) G h kc ks Q := by
  subst hn
  subst hj
  have ha : 0 < a := Nat.le_of_ble_eq_true ha
  intro p l e R s m args below meth c0 b base ls H locs cells slots Qf C hL hS hB hcc hss hret
  obtain ⟨cA, g1, g2⟩ := hS.2.2.2 a _ ha hz
  show W p l e R s m args below meth c0 H locs cells slots Qf (F0 m pc ls (.int x :: .int i :: .ref (ev_ad b base a) :: st.map (ev_rv b base)))
  rw [ev_ad_pos ha]
  exact W.iast C.1 C.2.1 g2 (g1 _ _) (fun q => by cases q) (ev_ivp hin (arrV_size _ _ _)) rfl rfl (ev_dec C hd rfl) (fun H' o1 o2 o3 => kk p l e R s m args below meth c0 b base ls H' _ cells slots Qf C hL (hS.stored ha hz rfl g1 o1 o2 o3) (hB.put (by omega)) hcc hss hret)
theorem ev_bast {a n j : Nat} {i x : Int32} (hd : ev_at mi pc = some (.bastore, nx, tg)) (hn : nx = pc + 1) (ha : Nat.blt 0 a = true) (hz : ev_sh G a = some (.inr (.byte, n))) (hin : vp_in i n) (hj : i.toNatClampNeg = j) (kk : EvQ mi nx lo st G (ev_set h a j x.toInt8.toInt32) kc ks Q) : EvQ mi pc lo (.int x :: .int i :: .ref a :: st) G h kc ks Q := by
  subst hn
  subst hj
  have ha : 0 < a := Nat.le_of_ble_eq_true ha
  intro p l e R s m args below meth c0 b base ls H locs cells slots Qf C hL hS hB hcc hss hret
  obtain ⟨cA, g1, g2⟩ := hS.2.2.2 a _ ha hz
  show W p l e R s m args below meth c0 H locs cells slots Qf (F0 m pc ls (.int x :: .int i :: .ref (ev_ad b base a) :: st.map (ev_rv b base)))
  rw [ev_ad_pos ha]
  exact W.bast C.1 C.2.1 g2 (g1 _ _) (fun q => by cases q) (ev_ivp hin (arrV_size _ _ _)) rfl rfl (ev_dec C hd rfl) (fun H' o1 o2 o3 => kk p l e R s m args below meth c0 b base ls H' _ cells slots Qf C hL (hS.stored ha hz rfl g1 o1 o2 o3) (hB.put (by omega)) hcc hss hret)
theorem ev_zast {a n j : Nat} {i x : Int32} (hd : ev_at mi pc = some (.bastore, nx, tg)) (hn : nx = pc + 1) (ha : Nat.blt 0 a = true) (hz : ev_sh G a = some (.inr (.boolean, n))) (hin : vp_in i n) (hj : i.toNatClampNeg = j) (hx : x = 0 ∨ x = 1) (kk : EvQ mi nx lo st G (ev_set h a j x) kc ks Q) : EvQ mi pc lo (.int x :: .int i :: .ref a :: st) G h kc ks Q := by
  subst hn
  subst hj
  have ha : 0 < a := Nat.le_of_ble_eq_true ha
  intro p l e R s m args below meth c0 b base ls H locs cells slots Qf C hL hS hB hcc hss hret
  obtain ⟨cA, g1, g2⟩ := hS.2.2.2 a _ ha hz
  show W p l e R s m args below meth c0 H locs cells slots Qf (F0 m pc ls (.int x :: .int i :: .ref (ev_ad b base a) :: st.map (ev_rv b base)))
  rw [ev_ad_pos ha]
  refine W.zast C.1 C.2.1 g2 (g1 _ _) (fun q => by cases q) (ev_ivp hin (arrV_size _ _ _)) rfl rfl (ev_dec C hd rfl) (fun H' o1 o2 o3 => ?_)
  rw [(ev_z01 hx).1] at o1
  exact kk p l e R s m args below meth c0 b base ls H' _ cells slots Qf C hL (hS.stored ha hz rfl g1 o1 o2 o3) (hB.put (by omega)) hcc hss hret
end EVH
end
section
/-! methods: EvM is a contract over the abstract heap; calls -/
def ev_ws (mi : MI) : List Cond := .code mi.1 (mi_C mi) (mi_L mi) (mi_R mi) :: gwl
def ev_rm (mi : MI) (kc ks : Nat) : Room := { frames := mi_F mi, cells := kc, slots := ks, locals := mi_S mi }
def ev_Pc (b base : Nat) (args : List Value) (G : Geo) (h : Hp) : Array Value → State → Prop := fun v U => v = (args.map (ev_rv b base)).toArray ∧ ev_S b base G h U U.heap ∧ ev_N U
def ev_Qc (b base : Nat) (ret : Option FieldType) (Q : Pst) : Array Value → State → Outcome → State → Prop := fun _ _ o t => ∃ (v : Option Value) (G' : Geo) (h' : Hp), o = .returned (v.map (ev_rv b base)) ∧ Q v G' h' ∧ ev_rt ret v ∧ ev_S b base G' h' t t.heap
def EvM (mi : MI) (args : List Value) (G : Geo) (h : Hp) (kc ks : Nat) (Q : Pst) : Prop := ∀ (l : Launch) (b base : Nat), Met l mi.1 (ev_ws mi) (ev_rm mi kc ks) (ev_Pc b base args G h) (ev_Qc b base (mi_R mi) Q) kc ks (fun q => base < q)
theorem ev_N.same {u U : State} (hvm : u.vm = U.vm) (h : ev_N u) : ev_N U := ⟨fun q hq => va_Nw.same rfl hvm (h.1 q hq), over_moved (by rw [hvm]; exact Vm.Alike.refl U.vm) h.2⟩
theorem ev_Pc_blind (b base : Nat) (args : List Value) (G : Geo) (h : Hp) : FrameBlind (ev_Pc b base args G h) := by
  intro a U g mk hP
  obtain ⟨q1, q2, q3⟩ := hP
  exact ⟨q1, ev_S.moved (U := U.calling g mk a) (Vm.Alike.refl U.vm) q2, ev_N.same (U := U.calling g mk a) rfl q3⟩
theorem ev_rt_none {ret : Option FieldType} (h : ev_rt ret none) : ret = none := by
  cases ret with
  | none => rfl
  | some ty => cases h
theorem ev_rt_some {ret : Option FieldType} {w : Value} (h : ev_rt ret (some w)) : ∃ (ty : FieldType) (x : Int32), ret = some ty ∧ w = .int x ∧ narrow ty (.int x) = .int x := by
  cases ret with
  | none => cases h
  | some ty =>
    cases w with
    | int x => exact ⟨ty, x, rfl, rfl, h⟩
    | _ => cases h
theorem ev_body {l : Launch} {b base : Nat} {mi : MI} {args : List Value} {G : Geo} {h : Hp} {kc ks : Nat} {Q : Pst} (k : EvQ mi 0 (ev_lo (mi_L mi) args) [] G h kc ks Q) (hok : ev_ok mi) (hlen : Nat.ble (ev_al args).length (mi_L mi) = true) : ∀ p e s m av below meth c s₁, BodyLoose p l mi.1 (headSpec (ev_ws mi) (ev_rm mi kc ks)) (mi_C mi) (mi_L mi) (mi_R mi) e s m av below meth c s₁ → c.maxLocals = mi_L mi → ev_Pc b base args G h av s →
      W p l e (headSpec (ev_ws mi) (ev_rm mi kc ks)).room s m av below meth c s.heap [] 0 0 (MQ below (ev_Qc b base (mi_R mi) Q) av s kc ks (fun q => base < q)) (entryFrame m av (mi_L mi)) := by
  intro p e s m av below meth c s₁ B hml hv
  obtain ⟨rfl, hS, hN⟩ := hv
  have hts0 := atoms_spec (ws := ev_ws mi) B.pre
  have C : ev_C mi p (headSpec (ev_ws mi) (ev_rm mi kc ks)).room s m (args.map (ev_rv b base)).toArray meth c := ⟨B.exec, B.bytes, hml, B.returns, findClass_of_methodNamed B.named, fun w hw => hts0 w (List.mem_cons_of_mem _ hw), B.notSynchronized, (fun z => (name_of_methodNamed B.named B.method).1.trans z), Nat.le_refl _, Nat.le_refl _, hN, hok⟩
  have hl := lv_entry (args.map (ev_rv b base)) (n := mi_L mi) (by rw [ev_al_len]; exact Nat.le_of_ble_eq_true hlen)
  have hr := B.returns
  have hlocks : meth.locks = false := B.notSynchronized
  rw [lg_entry_eq]
  generalize ((lg_sl (args.map (ev_rv b base)) ++ List.replicate (mi_L mi - (lg_sl (args.map (ev_rv b base))).length) Slot.unset).toArray) = ls at hl ⊢
  refine k p l e _ s m _ below meth c b base ls s.heap [] 0 0 _ C ⟨_, hl, fun i v hv => ev_lo_in b base (mi_L mi) args i v hv⟩ hS (fun q hq => by cases hq) (by show 0 + kc ≤ kc; omega) (by show 0 + ks ≤ ks; omega) ?_
  intro v G' h' pc' nx tg ls' H' locs' hq hrt hS' hB' hd hn
  have hdd := ev_dec C hd hn
  refine W.cs (Nat.zero_add kc) (Nat.zero_add ks) ?_
  have hQ : ∀ t : State, t.heap = H' → s.WarmedH t.vm → ev_Qc b base (mi_R mi) Q (args.map (ev_rv b base)).toArray s (.returned (v.map (ev_rv b base))) t := fun t ht hW => ⟨v, G', h', rfl, hq, hrt, by rw [ht]; exact hS'.moved hW.alike⟩
  cases v with
  | none => exact W.vret B.exec B.bytes (by rw [hr]; exact ev_rt_none hrt) hQ hB' hdd hlocks
  | some w =>
    obtain ⟨ty, x, z1, rfl, z2⟩ := ev_rt_some hrt
    exact W.zret (ty := ty) B.exec B.bytes (by rw [hr, z1]) z2 hQ hB' hdd hlocks
theorem EvM.of {mi : MI} {args : List Value} {G : Geo} {h : Hp} {kc ks : Nat} {Q : Pst} (hp : plainName mi.1.cls = true ∨ plainFor mi.1 = true) (hok : ev_ok mi) (hlen : Nat.ble (ev_al args).length (mi_L mi) = true) (k : EvQ mi 0 (ev_lo (mi_L mi) args) [] G h kc ks Q) : EvM mi args G h kc ks Q := by
  intro l b base
  have body : ∀ p e s m av below meth c s₁, BodyLoose p l mi.1 (headSpec (ev_ws mi) (ev_rm mi kc ks)) (mi_C mi) (mi_L mi) (mi_R mi) e s m av below meth c s₁ → c.maxLocals = mi_L mi → ev_Pc b base args G h av s →
      W p l e (headSpec (ev_ws mi) (ev_rm mi kc ks)).room s m av below meth c s.heap [] 0 0 (MQ below (ev_Qc b base (mi_R mi) Q) av s kc ks (fun q => base < q)) (entryFrame m av (mi_L mi)) := by
   intro p e s m av below meth c s₁ B hml hv
   exact ev_body k hok hlen p e s m av below meth c s₁ B hml hv
  rcases hp with hp | hp
  · exact Met.ofW (cc := mi_C mi) (maxL := mi_L mi) (ret := mi_R mi) hp rfl body
  · exact va_MetF (cc := mi_C mi) (maxL := mi_L mi) (ret := mi_R mi) hp rfl body
theorem EvM.mono {mi : MI} {args : List Value} {G : Geo} {h : Hp} {kc ks : Nat} {Q Q' : Pst} (k : EvM mi args G h kc ks Q) (hq : ∀ v G' h', Q v G' h' → Q' v G' h') : EvM mi args G h kc ks Q' := by
  intro l b base p e ha hc hk s m av below hf hap hP hK
  obtain ⟨n, o, h1, h2, h3, ⟨⟨v, G', h', g1, g2, g3, g4⟩, h5⟩⟩ := k l b base p e ha hc hk s m av below hf hap hP hK
  exact ⟨n, o, h1, h2, h3, ⟨⟨v, G', h', g1, hq _ _ _ g2, g3, g4⟩, h5⟩⟩
/-- behind a call -/
theorem ev_run {p : Program} {l : Launch} {e : Env} {R : Room} {s : State} {m : MethodId} {args : Array Value} {below : List Frame} {meth : Method} {c : Code} {H : Heap} {locs : List Loc} {cells slots kc1 ks1 : Nat} {Qf : State → Prop} {pc : Nat} {ls : Array Slot} {st0 rest : List Value} {aa : Array Value} {b base : Nat} {ret : Option FieldType} {Q1 : Pst}
    (hr : va_Run p l e R s m args below meth c H locs cells slots kc1 ks1 (F0 m pc ls st0) rest (ev_Qc b base ret Q1 aa) (fun q => base < q)) (hB : ev_B base locs)
    (kk : ∀ (v : Option Value) (G' : Geo) (h' : Hp) (H1 : Heap) (locs1 : List Loc), Q1 v G' h' → ev_rt ret v → ev_S b base G' h' s H1 → ev_B base locs1 → W p l e R s m args below meth c H1 locs1 (cells + kc1) (slots + ks1) Qf (F0 m (pc + 3) ls ((v.map (ev_rv b base)).toList ++ rest))) : W p l e R s m args below meth c H locs cells slots Qf (F0 m pc ls st0) := by
  intro T hT X
  obtain ⟨v, st₀, t, T', L, h0, X', hL, e1, e2, ⟨v', G', h', hv, hq, hrt, hS'⟩, st⟩ := hr T hT X
  cases hv
  have hal : t.vm.Alike s.vm := by rw [← e2]; exact X'.warmed.alike.symm
  obtain ⟨t2, a1, b1⟩ := kk v' G' h' T'.heap (locs ++ L) hq hrt (by rw [e1]; exact hS'.moved hal) (hB.app hL) T' rfl X'
  exact ⟨t2, st t2 a1, b1⟩
abbrev ev_room (mi ce : MI) : Prop := (Nat.ble (mi_F ce + 1) (mi_F mi) && Nat.ble (8 + (mi_L ce + 11) + mi_S ce) (mi_S mi)) = true
theorem ev_room_of {mi ce : MI} (h : ev_room mi ce) {R : Room} (h1 : mi_F mi ≤ R.frames) (h2 : mi_S mi ≤ R.locals) : mi_F ce + 1 ≤ R.frames ∧ 8 + (mi_L ce + 11) + mi_S ce ≤ R.locals := by
  unfold ev_room at h
  rw [Bool.and_eq_true] at h
  have z1 := Nat.le_of_ble_eq_true h.1
  have z2 := Nat.le_of_ble_eq_true h.2
  exact ⟨by omega, by omega⟩
theorem ev_ws_good {mi : MI} (h : Cond.code mi.1 (mi_C mi) (mi_L mi) (mi_R mi) ∈ gwl) : GoodIn gwl (ev_ws mi) := by
  intro w hw
  rcases List.mem_cons.mp hw with rfl | hw
  · exact gwl_good _ h
  · exact gwl_good _ hw
theorem ev_sum (b base : Nat) : ∀ st : List Value, ((st.map (ev_rv b base)).map fun v => v.category).sum = (st.map fun v => v.category).sum
  | [] => rfl
  | v :: st => by rw [List.map_cons, List.map_cons, List.map_cons, List.sum_cons, List.sum_cons, ev_rv_cat, ev_sum b base st]
theorem ev_Pc_at {b base : Nat} {G : Geo} {h : Hp} {s : State} {H : Heap} (hS : ev_S b base G h s H) (hN : ev_N s) (args : List Value) : ∀ U : State, U.heap = H → s.WarmedH U.vm → ev_Pc b base args G h (args.map (ev_rv b base)).toArray U := fun U hU hW => ⟨rfl, by rw [hU]; exact hS.moved hW.alike, hN.moved hW⟩
section EVC
variable {mi ce : MI} {pc nx tg ix n : Nat} {lo : List (Option Value)} {st : List Value} {G : Geo} {h : Hp} {kc ks kc1 ks1 : Nat} {Q Q1 : Pst}
/-- the call is run, whatever kind it is of -/
theorem ev_call {As : List Value} {recv : List Value} (hn : nx = pc + 3)
    (hr : ∀ (p : Program) (l : Launch) (e : Env) (R : Room) (s : State) (m : MethodId) (args : Array Value) (below : List Frame) (meth : Method) (c : Code) (b base : Nat) (ls : Array Slot) (H : Heap) (locs : List Loc) (cells slots : Nat), ev_C mi p R s m args meth c → ls.size = mi_L mi → ev_S b base G h s H → cells + kc1 ≤ R.cells → slots + ks1 ≤ R.slots → ∃ aa : Array Value,
      va_Run p l e R s m args below meth c H locs cells slots kc1 ks1 (F0 m pc ls ((As.reverse ++ recv ++ st).map (ev_rv b base))) (st.map (ev_rv b base)) (ev_Qc b base (mi_R ce) Q1 aa) (fun q => base < q))
    (kk : ∀ v G' h', Q1 v G' h' → ev_rt (mi_R ce) v → EvQ mi nx lo (v.toList ++ st) G' h' kc ks Q) : EvQ mi pc lo (As.reverse ++ recv ++ st) G h (kc1 + kc) (ks1 + ks) Q := by
  subst hn
  intro p l e R s m args below meth c b base ls H locs cells slots Qf C hL hS hB hcc hss hret
  obtain ⟨aa, hrun⟩ := hr p l e R s m args below meth c b base ls H locs cells slots C (by obtain ⟨l0, hl, -⟩ := hL; exact hl.1) hS (by omega) (by omega)
  refine ev_run hrun hB (fun v G' h' H1 locs1 hq hrt hS1 hB1 => ?_)
  have key := kk v G' h' hq hrt p l e R s m args below meth c b base ls H1 locs1 (cells + kc1) (slots + ks1) Qf C hL hS1 hB1 (by omega) (by omega) (fun v2 G2 h2 pc2 nx2 tg2 ls2 H2 locs2 q1 q2 q3 q4 q5 q6 => by
    have := hret v2 G2 h2 pc2 nx2 tg2 ls2 H2 locs2 q1 q2 q3 q4 q5 q6
    rw [← Nat.add_assoc, ← Nat.add_assoc] at this
    exact this)
  rw [List.map_append] at key
  cases v with
  | none => exact key
  | some w => exact key
theorem ev_invS0 {As : List Value} (hd : ev_at mi pc = some (.invokestatic ix, nx, tg)) (hn : nx = pc + 3) (hk : ev_lk mi.1.cls ix ce n) (hst : Cond.static ce.1 ∈ gwl) (hlen : As.length = n) (hR : ev_room mi ce) (hw : (st.map fun v => v.category).sum ≤ 8) (hM : EvM ce As G h kc1 ks1 Q1)
    (kk : ∀ v G' h', Q1 v G' h' → ev_rt (mi_R ce) v → EvQ mi nx lo (v.toList ++ st) G' h' kc ks Q) : EvQ mi pc lo (As.reverse ++ [] ++ st) G h (kc1 + kc) (ks1 + ks) Q := by
  obtain ⟨k1, k2, k3, k4, k5, k6⟩ := hk
  refine ev_call (ce := ce) (Q1 := Q1) (recv := []) hn (fun p l e R s m args below meth c b base ls H locs cells slots C hls hS hcc hss => ⟨(As.map (ev_rv b base)).toArray, ?_⟩) kk
  have hts := C.2.2.2.2.2.1
  have cb : CallB R s args mi.1.cls ix ce.1 (mi_C ce) (mi_L ce) (mi_R ce) (ev_ws ce) (ev_rm ce kc1 ks1) kc1 ks1 n := callB_of n hts (ev_ws_good k2) rfl rfl rfl (hts _ k3) (hts _ k1) ⟨k4, k5, k6⟩ (ev_room_of hR C.2.2.2.2.2.2.2.2.1 C.2.2.2.2.2.2.2.2.2.1)
  refine va_runS (Ts := gwl) (own := mi.1.cls) ⟨C.1, C.2.1, C.2.2.1, C.2.2.2.2.1, hts⟩ (hM l b base) ⟨cb, hts _ hst⟩ ⟨ev_Pc_blind b base As G h, ev_Pc_at hS C.2.2.2.2.2.2.2.2.2.2.1 As⟩ rfl (by rw [List.length_map]; exact hlen) hls ?_ (lv_room (by rw [ev_sum]; exact hw)) (ev_dec C hd hn) ⟨hcc, hss⟩
  show (As.reverse ++ [] ++ st).map (ev_rv b base) = _
  rw [List.append_nil, List.map_append, List.map_reverse]
theorem ev_invSN0 {As : List Value} (hd : ev_at mi pc = some (.invokestatic ix, nx, tg)) (hn : nx = pc + 3) (hk : ev_ln mi.1.cls ix ce n) (hst : Cond.static ce.1 ∈ gwl) (hlen : As.length = n) (hR : ev_room mi ce) (hw : (st.map fun v => v.category).sum ≤ 8) (hM : EvM ce As G h kc1 ks1 Q1)
    (kk : ∀ v G' h', Q1 v G' h' → ev_rt (mi_R ce) v → EvQ mi nx lo (v.toList ++ st) G' h' kc ks Q) : EvQ mi pc lo (As.reverse ++ [] ++ st) G h (kc1 + kc) (ks1 + ks) Q := by
  obtain ⟨⟨host, k1⟩, k2, k3, k4, k5, k6⟩ := hk
  refine ev_call (ce := ce) (Q1 := Q1) (recv := []) hn (fun p l e R s m args below meth c b base ls H locs cells slots C hls hS hcc hss => ⟨(As.map (ev_rv b base)).toArray, ?_⟩) kk
  have hts := C.2.2.2.2.2.1
  have hN := C.2.2.2.2.2.2.2.2.2.2.1
  have cb : va_CN R s args mi.1.cls ix ce.1 host (mi_C ce) (mi_L ce) (mi_R ce) (ev_ws ce) (ev_rm ce kc1 ks1) kc1 ks1 n := va_cnB n hts (ev_ws_good k2) rfl rfl rfl (hN.1 _ k1) (hts _ k3) ⟨k4, k5, k6⟩ (ev_room_of hR C.2.2.2.2.2.2.2.2.1 C.2.2.2.2.2.2.2.2.2.1)
  refine va_runSN (Ts := gwl) (own := mi.1.cls) ⟨C.1, C.2.1, C.2.2.1, C.2.2.2.2.1, hts⟩ (hM l b base) ⟨cb, hts _ hst, trivial⟩ ⟨ev_Pc_blind b base As G h, ev_Pc_at hS hN As⟩ rfl (by rw [List.length_map]; exact hlen) hls ?_ (lv_room (by rw [ev_sum]; exact hw)) (ev_dec C hd hn) ⟨hcc, hss⟩
  show (As.reverse ++ [] ++ st).map (ev_rv b base) = _
  rw [List.append_nil, List.map_append, List.map_reverse]
/-- a receiver of ours -/
theorem ev_recv {b base a c : Nat} {s : State} {H : Heap} (hS : ev_S b base G h s H) (ha : 0 < a) (hz : ev_sh G a = some (.inl c)) {C : String} (hc : (vwCl[c]?).map (fun q => q.1) = some C) : ∃ cell : Cell, H[ev_ad b base a]? = some cell ∧ cell.vm.isStatics = false ∧ s.vm.findClass C = some cell.cls := by
  obtain ⟨q, cC, iS, g1, ⟨-, gfc, -⟩, cell, q1, q2, q3, -⟩ := hS.obj ha hz
  rw [g1] at hc
  have hc : q.1 = C := Option.some.inj hc
  rw [ev_ad_pos ha]
  exact ⟨cell, q1, by rw [q3]; rfl, by rw [← hc, q2]; exact gfc⟩
theorem ev_invV0 {As : List Value} {a c : Nat} (hd : ev_at mi pc = some (.invokevirtual ix, nx, tg)) (hn : nx = pc + 3) (hk : ev_lk mi.1.cls ix ce n) (hst : Cond.instanceMethod ce.1 ∈ gwl ∧ Cond.selects ce.1.cls ce.1 ce.1 ∈ gwl) (ha : Nat.blt 0 a = true) (hz : ev_sh G a = some (.inl c)) (hc : (vwCl[c]?).map (fun q => q.1) = some ce.1.cls) (hlen : As.length = n) (hR : ev_room mi ce) (hw : (st.map fun v => v.category).sum ≤ 8) (hM : EvM ce (.ref a :: As) G h kc1 ks1 Q1)
    (kk : ∀ v G' h', Q1 v G' h' → ev_rt (mi_R ce) v → EvQ mi nx lo (v.toList ++ st) G' h' kc ks Q) : EvQ mi pc lo (As.reverse ++ [.ref a] ++ st) G h (kc1 + kc) (ks1 + ks) Q := by
  obtain ⟨k1, k2, k3, k4, k5, k6⟩ := hk
  refine ev_call (ce := ce) (Q1 := Q1) (recv := [.ref a]) hn (fun p l e R s m args below meth c0 b base ls H locs cells slots C hls hS hcc hss => ⟨((.ref a :: As).map (ev_rv b base)).toArray, ?_⟩) kk
  have hts := C.2.2.2.2.2.1
  have cb : CallB R s args mi.1.cls ix ce.1 (mi_C ce) (mi_L ce) (mi_R ce) (ev_ws ce) (ev_rm ce kc1 ks1) kc1 ks1 n := callB_of n hts (ev_ws_good k2) rfl rfl rfl (hts _ k3) (hts _ k1) ⟨k4, k5, k6⟩ (ev_room_of hR C.2.2.2.2.2.2.2.2.1 C.2.2.2.2.2.2.2.2.2.1)
  refine va_runV (Ts := gwl) (own := mi.1.cls) (C := ce.1.cls) (b := ev_ad b base a) (As := As.map (ev_rv b base)) ⟨C.1, C.2.1, C.2.2.1, C.2.2.2.2.1, hts⟩ (hM l b base) ⟨cb, hts _ hst.1, hts _ hst.2⟩ ⟨ev_Pc_blind b base _ G h, ev_recv hS (Nat.le_of_ble_eq_true ha) hz hc, ev_Pc_at hS C.2.2.2.2.2.2.2.2.2.2.1 (.ref a :: As)⟩ rfl (by rw [List.length_map]; exact hlen) hls ?_ (lv_room (by rw [ev_sum]; exact hw)) (ev_dec C hd hn) ⟨hcc, hss⟩
  show (As.reverse ++ [Value.ref a] ++ st).map (ev_rv b base) = _
  rw [List.map_append, List.map_append, List.map_reverse, List.append_assoc]
  rfl
theorem ev_invI0 {As : List Value} {a : Nat} (hd : ev_at mi pc = some (.invokespecial ix, nx, tg)) (hn : nx = pc + 3) (hk : ev_lk mi.1.cls ix ce n) (hst : Cond.instanceMethod ce.1 ∈ gwl ∧ ce.1.name = "<init>" ∧ mi_R ce = none) (hlen : As.length = n) (hR : ev_room mi ce) (hw : (st.map fun v => v.category).sum ≤ 8) (hM : EvM ce (.ref a :: As) G h kc1 ks1 Q1)
    (kk : ∀ v G' h', Q1 v G' h' → ev_rt (mi_R ce) v → EvQ mi nx lo (v.toList ++ st) G' h' kc ks Q) : EvQ mi pc lo (As.reverse ++ [.ref a] ++ st) G h (kc1 + kc) (ks1 + ks) Q := by
  obtain ⟨k1, k2, k3, k4, k5, k6⟩ := hk
  refine ev_call (ce := ce) (Q1 := Q1) (recv := [.ref a]) hn (fun p l e R s m args below meth c0 b base ls H locs cells slots C hls hS hcc hss => ⟨((.ref a :: As).map (ev_rv b base)).toArray, ?_⟩) kk
  have hts := C.2.2.2.2.2.1
  have cb : CallB R s args mi.1.cls ix ce.1 (mi_C ce) (mi_L ce) (mi_R ce) (ev_ws ce) (ev_rm ce kc1 ks1) kc1 ks1 n := callB_of n hts (ev_ws_good k2) rfl rfl rfl (hts _ k3) (hts _ k1) ⟨k4, k5, k6⟩ (ev_room_of hR C.2.2.2.2.2.2.2.2.1 C.2.2.2.2.2.2.2.2.2.1)
  rw [hst.2.2] at cb
  refine va_runI (Ts := gwl) (own := mi.1.cls) (b := ev_ad b base a) (As := As.map (ev_rv b base)) ⟨C.1, C.2.1, C.2.2.1, C.2.2.2.2.1, hts⟩ (hM l b base) ⟨cb, hst.2.1, hts _ hst.1⟩ ⟨ev_Pc_blind b base _ G h, ev_Pc_at hS C.2.2.2.2.2.2.2.2.2.2.1 (.ref a :: As)⟩ rfl (by rw [List.length_map]; exact hlen) hls ?_ (lv_room (by rw [ev_sum]; exact hw)) (ev_dec C hd hn) ⟨hcc, hss⟩
  show (As.reverse ++ [Value.ref a] ++ st).map (ev_rv b base) = _
  rw [List.map_append, List.map_append, List.map_reverse, List.append_assoc]
  rfl
theorem ev_invIN0 {As : List Value} {a : Nat} (hd : ev_at mi pc = some (.invokespecial ix, nx, tg)) (hn : nx = pc + 3) (hk : ev_ln mi.1.cls ix ce n) (hst : Cond.instanceMethod ce.1 ∈ gwl ∧ ce.1.name = "<init>" ∧ mi_R ce = none) (hlen : As.length = n) (hR : ev_room mi ce) (hw : (st.map fun v => v.category).sum ≤ 8) (hM : EvM ce (.ref a :: As) G h kc1 ks1 Q1)
    (kk : ∀ v G' h', Q1 v G' h' → ev_rt (mi_R ce) v → EvQ mi nx lo (v.toList ++ st) G' h' kc ks Q) : EvQ mi pc lo (As.reverse ++ [.ref a] ++ st) G h (kc1 + kc) (ks1 + ks) Q := by
  obtain ⟨⟨host, k1⟩, k2, k3, k4, k5, k6⟩ := hk
  refine ev_call (ce := ce) (Q1 := Q1) (recv := [.ref a]) hn (fun p l e R s m args below meth c0 b base ls H locs cells slots C hls hS hcc hss => ⟨((.ref a :: As).map (ev_rv b base)).toArray, ?_⟩) kk
  have hts := C.2.2.2.2.2.1
  have hN := C.2.2.2.2.2.2.2.2.2.2.1
  have cb : va_CN R s args mi.1.cls ix ce.1 host (mi_C ce) (mi_L ce) (mi_R ce) (ev_ws ce) (ev_rm ce kc1 ks1) kc1 ks1 n := va_cnB n hts (ev_ws_good k2) rfl rfl rfl (hN.1 _ k1) (hts _ k3) ⟨k4, k5, k6⟩ (ev_room_of hR C.2.2.2.2.2.2.2.2.1 C.2.2.2.2.2.2.2.2.2.1)
  rw [hst.2.2] at cb
  refine va_runIN (Ts := gwl) (own := mi.1.cls) (b := ev_ad b base a) (As := As.map (ev_rv b base)) ⟨C.1, C.2.1, C.2.2.1, C.2.2.2.2.1, hts⟩ (hM l b base) ⟨cb, hst.2.1, hts _ hst.1⟩ ⟨ev_Pc_blind b base _ G h, ev_Pc_at hS hN (.ref a :: As)⟩ rfl (by rw [List.length_map]; exact hlen) hls ?_ (lv_room (by rw [ev_sum]; exact hw)) (ev_dec C hd hn) ⟨hcc, hss⟩
  show (As.reverse ++ [Value.ref a] ++ st).map (ev_rv b base) = _
  rw [List.map_append, List.map_append, List.map_reverse, List.append_assoc]
  rfl
end EVC
end
section
/-! making cells -/
theorem ev_sh_app {G : Geo} {x : List (Shp × List (Option Nat))} {i : Nat} (h : i < G.length) : ev_sh (G ++ x) i = ev_sh G i := by
  unfold ev_sh; rw [List.getElem?_append_left h]
theorem ev_gr_app {G : Geo} {x : List (Shp × List (Option Nat))} {i j : Nat} (h : i < G.length) : ev_gr (G ++ x) i j = ev_gr G i j := by
  unfold ev_gr; rw [List.getElem?_append_left h]
theorem ev_sh_out {G : Geo} {i : Nat} (h : G.length ≤ i) : ev_sh G i = none := by
  unfold ev_sh; rw [List.getElem?_eq_none h]; rfl
theorem ev_S.len {b base : Nat} {G : Geo} {h : Hp} {U : State} {H : Heap} (hS : ev_S b base G h U H) : 0 < G.length := by
  obtain ⟨-, -, ⟨L, h3, -⟩, -⟩ := hS
  exact ev_sh_lt h3
/-- cells come behind all others -/
theorem ev_S.grow {b base : Nat} {G : Geo} {x : List (Shp × List (Option Nat))} {h : Hp} {U : State} {H H' : Heap} (hS : ev_S b base G h U H) (hsz : H'.size = H.size + x.length) (ho : ∀ q, q < H.size → H'[q]? = H[q]?)
    (hc : ∀ (i : Nat) (z : Shp), i < x.length → ev_sh (G ++ x) (G.length + i) = some z → ev_cell b base (G ++ x) h U H' (G.length + i) z) : ev_S b base (G ++ x) h U H' := by
  have hlen := hS.len
  obtain ⟨h1, h2, ⟨L, h3, h4⟩, h5⟩ := hS
  refine ⟨h1, by rw [hsz, h2, List.length_append]; omega, ⟨L, by rw [ev_sh_app hlen]; exact h3, h4.kept (ho b (by omega))⟩, fun a z ha hz => ?_⟩
  by_cases hl : a < G.length
  · rw [ev_sh_app hl] at hz
    have hold := h5 a z ha hz
    have hkeep : H'[base + a]? = H[base + a]? := ho _ (by omega)
    have hsv : ∀ (ty : FieldType) (k : Nat), ev_sv b base ty G h a k = ev_sv b base ty (G ++ x) h a k := fun ty k => by
      unfold ev_sv; rw [ev_gr_app hl]
    cases z with
    | inl c =>
      obtain ⟨q, cC, iS, g1, g2, g3⟩ := hold
      exact ⟨q, cC, iS, g1, g2, (g3.kept hkeep).to (fun k _ => hsv _ k)⟩
    | inr t =>
      obtain ⟨ty, n⟩ := t
      obtain ⟨cA, g1, g2⟩ := hold
      refine ⟨cA, g1, ?_⟩
      rw [hkeep, g2]
      exact congrArg (fun f => some (arrV cA n f)) (funext fun j => hsv ty j)
  · have hl2 : a < G.length + x.length := by
      have := ev_sh_lt hz
      rwa [List.length_append] at this
    have e : a = G.length + (a - G.length) := by omega
    rw [e] at hz ⊢
    exact hc _ z (by omega) hz
theorem ev_def_ref {ty : FieldType} (h : ty.isReference = true) : defaultValue ty = .null := by cases ty <;> first | rfl | cases h
section EVN
variable {mi : MI} {pc nx tg ix : Nat} {lo : List (Option Value)} {st : List Value} {G : Geo} {h : Hp} {kc ks : Nat} {Q : Pst}
theorem ev_gr_none {G : Geo} {z : Shp} {rl : List (Option Nat)} (hr : ∀ r ∈ rl, r = none) (k : Nat) : ev_gr (G ++ [(z, rl)]) G.length k = none := by
  unfold ev_gr
  rw [List.getElem?_append_right (Nat.le_refl _), Nat.sub_self]
  show (match rl[k]? with | none => none | some r => r) = none
  cases hk : rl[k]? with
  | none => rfl
  | some r => exact hr r (List.mem_of_getElem? hk)
theorem ev_sh_last {G : Geo} {z : Shp} {rl : List (Option Nat)} : ev_sh (G ++ [(z, rl)]) G.length = some z := by
  unfold ev_sh
  rw [List.getElem?_append_right (Nat.le_refl _), Nat.sub_self]
  rfl
theorem ev_new {c N a : Nat} (hd : ev_at mi pc = some (.new ix, nx, tg)) (hn : nx = pc + 3) (hk : ev_cl mi.1.cls ix c) (hN : (vwCl[c]?).map (fun q => q.2.2) = some N) (ha : G.length = a) (h0 : ∀ j, h a j = 0)
    (kk : EvQ mi nx lo (.ref a :: st) (G ++ [(.inl c, List.replicate N none)]) h kc ks Q) : EvQ mi pc lo st G h (1 + kc) (N + ks) Q := by
  subst hn
  subst ha
  obtain ⟨q, e1, e2, e3, e4, e5, e6, e7⟩ := hk
  rw [e1] at hN
  have hN : q.2.2 = N := Option.some.inj hN
  subst hN
  intro p l e R s m args below meth c0 b base ls H locs cells slots Qf C hL hS hB hcc hss hret
  have hts := C.2.2.2.2.2.1
  obtain ⟨cC, iS, gK⟩ := u_known hts e5 (hts _ e3)
  have hsz := hS.2.1
  have hlen := hS.len
  refine W.newcK C.1 C.2.1 C.2.2.2.2.1 (hts _ e2) (hts _ e3) (hts _ e4) rfl (ev_dec C hd rfl) (by omega) (by omega) gK.2.1 rfl (fun H1 kC hkC o1 z1 o2 => ?_)
  have hS1 : ev_S b base (G ++ [(.inl c, List.replicate q.2.2 none)]) h s H1 := by
    refine hS.grow z1 o2 (fun i z hi hz => ?_)
    have hi0 : i = 0 := by simp at hi; omega
    subst hi0
    rw [Nat.add_zero, ev_sh_last] at hz
    cases hz
    rw [Nat.add_zero]
    refine ⟨q, cC, iS, e1, gK, ?_⟩
    rw [← hsz]
    refine (u_born (tyCl c) hts e5 gK hkC o1 e6).to (fun k hk => ?_)
    unfold ev_sv
    rw [ev_gr_none (fun r hr => List.eq_of_mem_replicate hr), h0]
    by_cases ht : (tyCl c k).isReference = true
    · rw [if_pos ht, ev_def_ref ht]; rfl
    · rw [if_neg ht]
      exact (e7 k hk).resolve_left ht
  have key := kk p l e R s m args below meth c0 b base ls H1 locs (cells + 1) (slots + q.2.2) Qf C hL hS1 hB (by omega) (by omega) (fun v2 G2 h2 pc2 nx2 tg2 ls2 H2 locs2 q1 q2 q3 q4 q5 q6 => by
    have := hret v2 G2 h2 pc2 nx2 tg2 ls2 H2 locs2 q1 q2 q3 q4 q5 q6
    rw [← Nat.add_assoc, ← Nat.add_assoc] at this
    exact this)
  have ead : ev_ad b base G.length = H.size := by rw [ev_ad_pos hlen, hsz]
  have e9 : (Value.ref G.length :: st).map (ev_rv b base) = .ref H.size :: st.map (ev_rv b base) := by
    rw [List.map_cons]
    show Value.ref (ev_ad b base G.length) :: _ = _
    rw [ead]
  rw [e9] at key
  exact key
theorem ev_newa {aty : ArrayType} {ty : FieldType} {n : Int32} {N a : Nat} (hd : ev_at mi pc = some (.newarray aty, nx, tg)) (hn : nx = pc + 2) (hty : newarray.typeOf aty = ty) (hw : Cond.arrayClass ty ∈ gwl) (hdv : defaultValue ty = .int 0 ∧ ty.isReference = false) (hn0 : ¬ n < 0) (hN : n.toNatClampNeg = N) (hb : N * componentBytes ty ≤ 536870912) (ha : G.length = a) (h0 : ∀ j, h a j = 0)
    (kk : EvQ mi nx lo (.ref a :: st) (G ++ [(.inr (ty, N), [])]) h kc ks Q) : EvQ mi pc lo (.int n :: st) G h (1 + kc) (N + ks) Q := by
  subst hn
  subst ha
  subst hty
  intro p l e R s m args below meth c0 b base ls H locs cells slots Qf C hL hS hB hcc hss hret
  have hts := C.2.2.2.2.2.1
  have hsz := hS.2.1
  have hlen := hS.len
  refine W.newaK C.1 C.2.1 (hts _ hw) rfl (ev_dec C hd rfl) rfl hn0 hN hb (by omega) (by omega) rfl (fun H1 cA o1 z1 o2 hA => ?_)
  have hS1 : ev_S b base (G ++ [(.inr (newarray.typeOf aty, N), [])]) h s H1 := by
    refine hS.grow z1 o2 (fun i z hi hz => ?_)
    have hi0 : i = 0 := by simp at hi; omega
    subst hi0
    rw [Nat.add_zero, ev_sh_last] at hz
    cases hz
    rw [Nat.add_zero]
    refine ⟨cA, hA, ?_⟩
    rw [← hsz, o1]
    refine congrArg (fun f => some (arrV cA N f)) (funext fun j => ?_)
    unfold ev_sv
    rw [hdv.2, hdv.1, h0]
    rfl
  have key := kk p l e R s m args below meth c0 b base ls H1 locs (cells + 1) (slots + N) Qf C hL hS1 hB (by omega) (by omega) (fun v2 G2 h2 pc2 nx2 tg2 ls2 H2 locs2 q1 q2 q3 q4 q5 q6 => by
    have := hret v2 G2 h2 pc2 nx2 tg2 ls2 H2 locs2 q1 q2 q3 q4 q5 q6
    rw [← Nat.add_assoc, ← Nat.add_assoc] at this
    exact this)
  have ead : ev_ad b base G.length = H.size := by rw [ev_ad_pos hlen, hsz]
  have e9 : (Value.ref G.length :: st).map (ev_rv b base) = .ref H.size :: st.map (ev_rv b base) := by
    rw [List.map_cons]
    show Value.ref (ev_ad b base G.length) :: _ = _
    rw [ead]
  rw [e9] at key
  exact key
/-- Object's constructor -/
theorem ev_obj {a : Nat} (hd : ev_at mi pc = some (.invokespecial ix, nx, tg)) (hn : nx = pc + 3) (h1 : Cond.methodLink mi.1.cls ix objectInit ∈ gwl) (h2 : Cond.instanceMethod objectInit ∈ gwl) (h3 : Cond.code objectInit ⟨#[0xb1]⟩ 1 none ∈ gwl) (hF : Nat.ble 1 (mi_F mi) = true) (hSz : Nat.ble 12 (mi_S mi) = true) (kk : EvQ mi nx lo [] G h kc ks Q) : EvQ mi pc lo [.ref a] G h kc ks Q := by
  subst hn
  intro p l e R s m args below meth c0 b base ls H locs cells slots Qf C hL hS hB hcc hss hret
  have hts := C.2.2.2.2.2.1
  have z1 := Nat.le_of_ble_eq_true hF
  have z2 := Nat.le_of_ble_eq_true hSz
  have z3 := C.2.2.2.2.2.2.2.2.1
  have z4 := C.2.2.2.2.2.2.2.2.2.1
  exact W.objInit (g := F0 m pc ls [.ref (ev_ad b base a)]) C.1 C.2.1 C.2.2.2.2.1 (hts _ h1) (hts _ h2) (hts _ h3) rfl (by obtain ⟨l0, hl, -⟩ := hL; rw [C.2.2.1]; exact hl.1) (rest := []) rfl (ev_dec C hd rfl) (by omega) (by show 2 * 0 + 0 + 12 ≤ _; omega) (kk p l e R s m args below meth c0 b base ls H locs cells slots Qf C hL hS hB hcc hss hret)
theorem ev_outer (c : ClassId) (N h0 : Nat) : ∀ i : Nat, Jvm.Free.Multi.outerC c N h0 i = arrV c N (fun j => if j < i then .ref (h0 + 1 + j) else .null)
  | 0 => by
    show ({ cls := c, slots := Array.replicate N .null, vm := .none } : Cell) = _
    rw [arrV_new]
    exact congrArg (arrV c N) (funext fun j => by simp)
  | i + 1 => by
    show (Jvm.Free.Multi.outerC c N h0 i).setSlot i (.ref (h0 + 1 + i)) = _
    rw [ev_outer c N h0 i, arrV_store]
    refine congrArg (arrV c N) (funext fun j => ?_)
    by_cases e : j = i
    · subst e; simp [updV]
    · by_cases h : j < i
      · simp [updV, e, h, Nat.lt_succ_of_lt h]
      · simp [updV, e, h, show ¬ j < i + 1 by omega]
/-- new int[N][K] -/
theorem ev_mna {n k : Int32} {N K a : Nat} (hd : ev_at mi pc = some (.multianewarray ix 2, nx, tg)) (hn : nx = pc + 4) (hw : Cond.classLink mi.1.cls ix "[[I" ∈ gwl) (hw2 : Cond.arrayClass .int ∈ gwl) (hn0 : ¬ n < 0) (hk0 : ¬ k < 0) (hN : n.toNatClampNeg = N) (hK : k.toNatClampNeg = K) (hb1 : N * 4 ≤ 536870912) (hb2 : K * 4 ≤ 536870912) (ha : G.length = a) (h0 : ∀ i j, a ≤ i → h i j = 0)
    (kk : EvQ mi nx lo (.ref a :: st) (G ++ ((.inr (.array .int, N), (List.range N).map (fun i => some (a + 1 + i))) :: List.replicate N (.inr (.int, K), []))) h kc ks Q) : EvQ mi pc lo (.int k :: .int n :: st) G h (1 + N + kc) (N + N * K + ks) Q := by
  subst hn
  subst ha
  subst hN
  subst hK
  intro p l e R s m args below meth c0 b base ls H locs cells slots Qf C hL hS hB hcc hss hret T hT X
  have hts := C.2.2.2.2.2.1
  have hsz := hS.2.1
  have hlen := hS.len
  obtain ⟨vm₁, cA, comp, -, fA, fC, hO, hI, X', step⟩ := X.multianewarray2F C.1 (ty := .int) C.2.2.2.2.1 (hts _ hw) C.2.2.2.2.2.2.2.2.2.2.1.2 (hts _ hw2) (g := F0 m pc ls (.int k :: .int n :: st.map (ev_rv b base))) rfl (by rw [C.2.1]; exact ev_dec C hd rfl) rfl hn0 hk0 hb1 hb2 (by omega) rfl rfl (by omega) (by omega)
  generalize hF : Jvm.Free.Multi.fill (T.setVm vm₁) cA comp n.toNatClampNeg k.toNatClampNeg (defaultValue .int) n.toNatClampNeg = F at X' step
  have hTh : (T.setVm vm₁).heap = H := hT
  obtain ⟨f1, f2, -, -⟩ := Jvm.Free.Multi.fill_facts (T.setVm vm₁) cA comp n.toNatClampNeg k.toNatClampNeg (defaultValue .int) n.toNatClampNeg
  rw [hF, hTh] at f1 f2
  have hold : ∀ x : Nat, x < H.size → F.heap[x]? = H[x]? := fun x hx => by
    have := Jvm.Free.Multi.fill_old (T.setVm vm₁) cA comp n.toNatClampNeg k.toNatClampNeg (defaultValue .int) (a := x) (by rw [hTh]; exact hx) n.toNatClampNeg
    rw [hF, hTh] at this
    exact this
  have hrow : ∀ j : Nat, j < n.toNatClampNeg → F.heap[H.size + 1 + j]? = some (Jvm.Free.Multi.innerC comp k.toNatClampNeg (defaultValue .int)) := fun j hj => by
    have := Jvm.Free.Multi.fill_inner (T.setVm vm₁) cA comp n.toNatClampNeg k.toNatClampNeg (defaultValue .int) n.toNatClampNeg j hj
    rw [hF, hTh] at this
    exact this
  have hAo : ArrOfT s cA (.array .int) := fun N9 z9 => by
    obtain ⟨-, k9, hk9, cm9, hkk9⟩ := (hO 0 0 0).1
    exact ⟨(fun q hq => by cases hq), k9, hk9, cm9, hkk9⟩
  have hAi : ArrOfT s comp .int := fun N9 z9 => by
    obtain ⟨-, k9, hk9, cm9, hkk9⟩ := (hI 0 .null).1
    exact ⟨(fun q hq => by cases hq), k9, hk9, cm9, hkk9⟩
  have hS1 : ev_S b base (G ++ ((.inr (.array .int, n.toNatClampNeg), (List.range n.toNatClampNeg).map (fun i => some (G.length + 1 + i))) :: List.replicate n.toNatClampNeg (.inr (.int, k.toNatClampNeg), []))) h s F.heap := by
    refine hS.grow (by rw [f1, List.length_cons, List.length_replicate]; omega) hold (fun i z hi hz => ?_)
    cases i with
    | zero =>
      rw [show G.length + 0 = G.length from rfl] at hz ⊢
      have hz0 : ev_sh (G ++ ((.inr (.array .int, n.toNatClampNeg), (List.range n.toNatClampNeg).map (fun i => some (G.length + 1 + i))) :: List.replicate n.toNatClampNeg (.inr (.int, k.toNatClampNeg), []))) G.length = some (.inr (.array .int, n.toNatClampNeg)) := by
        unfold ev_sh; rw [List.getElem?_append_right (Nat.le_refl _), Nat.sub_self]; rfl
      rw [hz0] at hz
      cases hz
      refine ⟨cA, hAo, ?_⟩
      rw [← hsz, f2]
      rw [ev_outer]
      have hcong : ∀ f g : Nat → Value, (∀ j, j < n.toNatClampNeg → f j = g j) → arrV cA n.toNatClampNeg f = arrV cA n.toNatClampNeg g := fun f g hfg => by
        unfold arrV
        congr 1
        apply Array.ext_getElem?
        intro j
        by_cases hj : j < n.toNatClampNeg
        · simp only [Array.getElem?_ofFn, hj]; rw [hfg j hj]
        · rw [Array.getElem?_eq_none (by simp; omega), Array.getElem?_eq_none (by simp; omega)]
      refine congrArg some (hcong _ _ (fun j hj => ?_))
      have hg : ev_gr (G ++ ((.inr (.array .int, n.toNatClampNeg), (List.range n.toNatClampNeg).map (fun i => some (G.length + 1 + i))) :: List.replicate n.toNatClampNeg (.inr (.int, k.toNatClampNeg), []))) G.length j = some (G.length + 1 + j) := by
        unfold ev_gr
        rw [List.getElem?_append_right (Nat.le_refl _), Nat.sub_self]
        show (match ((List.range n.toNatClampNeg).map (fun i => some (G.length + 1 + i)))[j]? with | none => none | some r => r) = _
        rw [List.getElem?_map, List.getElem?_range hj]
        rfl
      have ht : (FieldType.array FieldType.int).isReference = true := rfl
      unfold ev_sv
      rw [if_pos ht, hg, if_pos hj]
      show Value.ref (H.size + 1 + j) = Value.ref (ev_ad b base (G.length + 1 + j))
      rw [ev_ad_pos (show 0 < G.length + 1 + j from Nat.lt_of_lt_of_le (Nat.succ_pos G.length) (Nat.le_add_right _ _)), hsz, Nat.add_assoc base, Nat.add_assoc base]
    | succ i =>
      have hi' : i < n.toNatClampNeg := by simp at hi; omega
      have hz0 : (G ++ ((.inr (.array .int, n.toNatClampNeg), (List.range n.toNatClampNeg).map (fun i => some (G.length + 1 + i))) :: List.replicate n.toNatClampNeg ((.inr (.int, k.toNatClampNeg), []) : Shp × List (Option Nat))))[G.length + (i + 1)]? = some (.inr (.int, k.toNatClampNeg), []) := by
        rw [List.getElem?_append_right (by omega), show G.length + (i + 1) - G.length = i + 1 by omega, List.getElem?_cons_succ, List.getElem?_replicate, if_pos hi']
      have hz1 : ev_sh (G ++ ((.inr (.array .int, n.toNatClampNeg), (List.range n.toNatClampNeg).map (fun i => some (G.length + 1 + i))) :: List.replicate n.toNatClampNeg (.inr (.int, k.toNatClampNeg), []))) (G.length + (i + 1)) = some (.inr (.int, k.toNatClampNeg)) := by
        unfold ev_sh; rw [hz0]; rfl
      rw [hz1] at hz
      cases hz
      refine ⟨comp, hAi, ?_⟩
      have := hrow i hi'
      rw [show base + (G.length + (i + 1)) = H.size + 1 + i by omega, this]
      unfold Jvm.Free.Multi.innerC
      rw [arrV_new]
      refine congrArg (fun f => some (arrV comp k.toNatClampNeg f)) (funext fun j => ?_)
      show Value.int 0 = Value.int (h (G.length + (i + 1)) j)
      rw [h0 _ _ (by omega)]
  have key := kk p l e R s m args below meth c0 b base ls F.heap locs (cells + 1 + n.toNatClampNeg) (slots + n.toNatClampNeg + n.toNatClampNeg * k.toNatClampNeg) Qf C hL hS1 hB (by omega) (by omega) (fun v2 G2 h2 pc2 nx2 tg2 ls2 H2 locs2 q1 q2 q3 q4 q5 q6 => by
    have := hret v2 G2 h2 pc2 nx2 tg2 ls2 H2 locs2 q1 q2 q3 q4 q5 q6
    rw [show cells + 1 + n.toNatClampNeg + kc = cells + (1 + n.toNatClampNeg + kc) by omega, show slots + n.toNatClampNeg + n.toNatClampNeg * k.toNatClampNeg + ks = slots + (n.toNatClampNeg + n.toNatClampNeg * k.toNatClampNeg + ks) by omega]
    exact this)
  have ead : ev_ad b base G.length = T.heap.size := by rw [ev_ad_pos hlen, hT, hsz]
  have e9 : (Value.ref G.length :: st).map (ev_rv b base) = .ref T.heap.size :: st.map (ev_rv b base) := by
    rw [List.map_cons]
    show Value.ref (ev_ad b base G.length) :: _ = _
    rw [ead]
  rw [e9] at key
  obtain ⟨t, a1, b1⟩ := key F rfl X'
  exact ⟨t, step t a1, b1⟩
/-- System.arraycopy between int arrays of ours, from one to another cell -/
def ev_cpy (h : Hp) (x y sp dp n : Nat) : Hp := fun i j => if i = y then va_cpy (h x) (h y) sp dp n j else h i j
theorem ev_copy {x y n0 n1 sN dN nN : Nat} {sp dp n : Int32} (hd : ev_at mi pc = some (.invokestatic ix, nx, tg)) (hn : nx = pc + 3) (w1 : Cond.methodLink mi.1.cls ix arraycopyName ∈ gwl) (w2 : Cond.native arraycopyName ∈ gwl) (w3 : Cond.static arraycopyName ∈ gwl) (w4 : Cond.initialized "java/lang/System" ∈ gwl) (hx : Nat.blt 0 x = true) (hy : Nat.blt 0 y = true) (zx : ev_sh G x = some (.inr (.int, n0))) (zy : ev_sh G y = some (.inr (.int, n1)))
    (h1 : ¬ sp < 0) (h2 : ¬ dp < 0) (h3 : ¬ n < 0) (e1 : sp.toNatClampNeg = sN) (e2 : dp.toNatClampNeg = dN) (e3 : n.toNatClampNeg = nN) (h4 : sN + nN ≤ n0) (h5 : dN + nN ≤ n1) (hF : Nat.ble 1 (mi_F mi) = true) (hSz : Nat.ble 26 (mi_S mi) = true) (hw : (st.map fun v => v.category).sum ≤ 8)
    (kk : EvQ mi nx lo st G (ev_cpy h x y sN dN nN) kc ks Q) : EvQ mi pc lo (.int n :: .int dp :: .ref y :: .int sp :: .ref x :: st) G h kc ks Q := by
  subst hn
  subst e1
  subst e2
  subst e3
  intro p l e R s m args below meth c0 b base ls H locs cells slots Qf C hL hS hB hcc hss hret T hT X
  have hts := C.2.2.2.2.2.1
  have hx : 0 < x := Nat.le_of_ble_eq_true hx
  have hy : 0 < y := Nat.le_of_ble_eq_true hy
  have z1 := Nat.le_of_ble_eq_true hF
  have z2 := Nat.le_of_ble_eq_true hSz
  have z3 := C.2.2.2.2.2.2.2.2.1
  have z4 := C.2.2.2.2.2.2.2.2.2.1
  obtain ⟨c1, A1, g1⟩ := hS.2.2.2 x _ hx zx
  obtain ⟨c2, A2, g2⟩ := hS.2.2.2 y _ hy zy
  have g1 : H[base + x]? = some (arrV c1 n0 (fun j => .int (h x j))) := g1
  have g2 : H[base + y]? = some (arrV c2 n1 (fun j => .int (h y j))) := g2
  have nn : ∀ z : Int32, ¬ z < 0 → z.toInt = (z.toNatClampNeg : Int) := by
    intro z hz
    have hz0 : (0 : Int) ≤ z.toInt := by
      have := Int32.not_lt.mp hz
      simpa using Int32.le_iff_toInt_le.mp this
    show z.toInt = ((z.toInt.toNat : Nat) : Int)
    omega
  obtain ⟨-, k0, hk0, cm0, hkk0⟩ := A1 n0 (fun j => .int (h x j))
  obtain ⟨-, k1, hk1, cm1, hkk1⟩ := A2 n1 (fun j => .int (h y j))
  obtain ⟨vm', X', step⟩ := X.arraycopy C.1 C.2.2.2.2.1 (hts _ w1) (hts _ w2) (hts _ w3) (hts _ w4) (src := base + x) (dst := base + y) (cs := arrV c1 n0 (fun j => .int (h x j))) (cd := arrV c2 n1 (fun j => .int (h y j))) (srcPos := sp) (destPos := dp) (n := n) (by rw [hT]; exact g1) (by rw [hT]; exact g2)
    (fun _ h => by cases h) (fun _ h => by cases h) (fun h => by cases h) (fun h => by cases h) hk0 hk1 hkk0 hkk1 rfl h1 h2 h3
    (by rw [nn sp h1, nn n h3, arrV_size]; omega) (by rw [nn dp h2, nn n h3, arrV_size]; omega)
    (fun vm₁ _ i hi => by
      have e : (arrV c1 n0 (fun j => .int (h x j))).slots.getD (sp.toNatClampNeg + i) .null = .int (h x (sp.toNatClampNeg + i)) := by
        rw [Array.getD_eq_getD_getElem?, arrV_read _ _ (by omega)]
        rfl
      exact ⟨by rw [e]; rfl, by rw [e]; exact trivial⟩)
    (g := F0 m pc ls (.int n :: .int dp :: .ref (base + y) :: .int sp :: .ref (base + x) :: st.map (ev_rv b base))) rfl (by obtain ⟨l0, hl, -⟩ := hL; rw [C.2.2.1]; exact hl.1) (rest := st.map (ev_rv b base)) rfl (by rw [C.2.1]; exact ev_dec C hd rfl) (by omega) (by
      rw [ev_sum]
      show 2 * 0 + _ + (5 + 2 + 11) ≤ _
      omega)
  have ec : copied (arrV c1 n0 (fun j => .int (h x j))) (arrV c2 n1 (fun j => .int (h y j))) sp dp n = arrV c2 n1 (fun j => .int (va_cpy (h x) (h y) sp.toNatClampNeg dp.toNatClampNeg n.toNatClampNeg j)) := va_copied (fun z => .int z) c1 c2 (h x) (h y) h4
  rw [ec] at X' step
  have hl : base + y < H.size := (Array.getElem?_eq_some_iff.mp g2).1
  have hheap : ((T.setVm vm').setCell (base + y) (arrV c2 n1 (fun j => .int (va_cpy (h x) (h y) sp.toNatClampNeg dp.toNatClampNeg n.toNatClampNeg j)))).heap = H.setIfInBounds (base + y) (arrV c2 n1 (fun j => .int (va_cpy (h x) (h y) sp.toNatClampNeg dp.toNatClampNeg n.toNatClampNeg j))) := by rw [← hT]; rfl
  have hS1 : ev_S b base G (ev_cpy h x y sp.toNatClampNeg dp.toNatClampNeg n.toNatClampNeg) s (H.setIfInBounds (base + y) (arrV c2 n1 (fun j => .int (va_cpy (h x) (h y) sp.toNatClampNeg dp.toNatClampNeg n.toNatClampNeg j)))) := by
    refine hS.upd hy zy rfl (fun _ => rfl) (fun _ _ _ => rfl) (fun i j hi => if_neg hi) (by simp) (fun q hq => by simp [Array.getElem?_setIfInBounds, Ne.symm hq]) ⟨c2, A2, ?_⟩
    rw [show (H.setIfInBounds (base + y) (arrV c2 n1 (fun j => .int (va_cpy (h x) (h y) sp.toNatClampNeg dp.toNatClampNeg n.toNatClampNeg j))))[base + y]? = some (arrV c2 n1 (fun j => .int (va_cpy (h x) (h y) sp.toNatClampNeg dp.toNatClampNeg n.toNatClampNeg j))) by simp [Array.getElem?_setIfInBounds, hl]]
    refine congrArg (fun f => some (arrV c2 n1 f)) (funext fun j => ?_)
    unfold ev_sv ev_cpy
    rw [if_pos rfl]
    rfl
  obtain ⟨t, a1, b1⟩ := kk p l e R s m args below meth c0 b base ls _ _ cells slots Qf C hL hS1 (hB.app (fun q hq => by
      obtain ⟨z, -, hz⟩ := List.mem_map.mp hq
      rw [← hz]
      show base < base + y
      omega)) hcc hss hret _ hheap X'
  refine ⟨t, ?_, b1⟩
  have := step t a1
  have e9 : (Value.int n :: .int dp :: .ref y :: .int sp :: .ref x :: st).map (ev_rv b base) = .int n :: .int dp :: .ref (base + y) :: .int sp :: .ref (base + x) :: st.map (ev_rv b base) := by
    show Value.int n :: .int dp :: .ref (ev_ad b base y) :: .int sp :: .ref (ev_ad b base x) :: _ = _
    rw [ev_ad_pos hx, ev_ad_pos hy]
  rw [e9]
  exact this
end EVN
/-- the heap is only looked at where it is: another picture that agrees there does as well -/
def ev_wd (c : Nat) : Nat := match vwCl[c]? with
  | none => 0
  | some q => q.2.2
theorem ev_S.congr {b base : Nat} {G : Geo} {h h' : Hp} {U : State} {H : Heap} (hS : ev_S b base G h U H) (he : ∀ (a j : Nat) (z : Shp), ev_sh G a = some z → (match z with | .inl c => j < ev_wd c | .inr t => j < t.2) → h a j = h' a j) : ev_S b base G h' U H := by
  obtain ⟨h1, h2, ⟨L, h3, scr, x1, x2, x3, x4, x5⟩, h5⟩ := hS
  refine ⟨h1, h2, ⟨L, h3, scr, x1, x2, x3, x4, fun j hj => by rw [x5 j hj, he 0 j _ h3 hj]⟩, fun a z ha hz => ?_⟩
  have hold := h5 a z ha hz
  cases z with
  | inl c =>
    obtain ⟨q, cC, iS, g1, g2, g3⟩ := hold
    refine ⟨q, cC, iS, g1, g2, g3.to (fun k hk => ?_)⟩
    unfold ev_sv
    rw [he a k _ hz (by show k < ev_wd c; unfold ev_wd; rw [g1]; exact hk)]
  | inr t =>
    obtain ⟨ty, n⟩ := t
    obtain ⟨cA, g1, g2⟩ := hold
    refine ⟨cA, g1, ?_⟩
    rw [g2]
    refine congrArg some ?_
    unfold arrV
    congr 1
    apply Array.ext_getElem?
    intro j
    by_cases hj : j < n
    · simp only [Array.getElem?_ofFn, hj]
      unfold ev_sv
      rw [he a j _ hz hj]
    · rw [Array.getElem?_eq_none (by simp; omega), Array.getElem?_eq_none (by simp; omega)]
theorem EvQ.congr {mi : MI} {pc : Nat} {lo : List (Option Value)} {st : List Value} {G : Geo} {h h' : Hp} {kc ks : Nat} {Q : Pst} (k : EvQ mi pc lo st G h' kc ks Q) (he : ∀ (a j : Nat) (z : Shp), ev_sh G a = some z → (match z with | .inl c => j < ev_wd c | .inr t => j < t.2) → h a j = h' a j) : EvQ mi pc lo st G h kc ks Q := by
  intro p l e R s m args below meth c b base ls H locs cells slots Qf C hL hS hB hcc hss hret
  exact k p l e R s m args below meth c b base ls H locs cells slots Qf C hL (hS.congr he) hB hcc hss hret
end
section
/-! calls by arity: EvD: the answer and the heap behind; EvU: the heap behind (no answer) -/
def EvD (mi : MI) (args : List Value) (G : Geo) (h : Hp) (r : Int32) (h1 : Hp) : Prop := EvM mi args G h 0 0 (fun v G' h' => v = some (.int r) ∧ G' = G ∧ h' = h1)
def EvU (mi : MI) (args : List Value) (G : Geo) (h : Hp) (h1 : Hp) : Prop := EvM mi args G h 0 0 (fun v G' h' => v = none ∧ G' = G ∧ h' = h1)
theorem EvD.of {mi : MI} {args : List Value} {G : Geo} {h h1 : Hp} {r : Int32} {lo : List (Option Value)} (hp : plainName mi.1.cls = true ∨ plainFor mi.1 = true) (hok : ev_ok mi) (hlen : Nat.ble (ev_al args).length (mi_L mi) = true) (hlo : ev_lo (mi_L mi) args = lo) (k : EvQ mi 0 lo [] G h 0 0 (fun v G' h' => v = some (.int r) ∧ G' = G ∧ h' = h1)) : EvD mi args G h r h1 := EvM.of hp hok hlen (by rw [hlo]; exact k)
theorem EvU.of {mi : MI} {args : List Value} {G : Geo} {h h1 : Hp} {lo : List (Option Value)} (hp : plainName mi.1.cls = true ∨ plainFor mi.1 = true) (hok : ev_ok mi) (hlen : Nat.ble (ev_al args).length (mi_L mi) = true) (hlo : ev_lo (mi_L mi) args = lo) (k : EvQ mi 0 lo [] G h 0 0 (fun v G' h' => v = none ∧ G' = G ∧ h' = h1)) : EvU mi args G h h1 := EvM.of hp hok hlen (by rw [hlo]; exact k)
theorem EvM.of2 {mi : MI} {args : List Value} {G : Geo} {h : Hp} {kc ks : Nat} {Q : Pst} {lo : List (Option Value)} (hp : plainName mi.1.cls = true ∨ plainFor mi.1 = true) (hok : ev_ok mi) (hlen : Nat.ble (ev_al args).length (mi_L mi) = true) (hlo : ev_lo (mi_L mi) args = lo) (k : EvQ mi 0 lo [] G h kc ks Q) : EvM mi args G h kc ks Q := EvM.of hp hok hlen (by rw [hlo]; exact k)
theorem EvD.to {mi : MI} {args : List Value} {G : Geo} {h h1 h2 : Hp} {r r2 : Int32} (k : EvD mi args G h r h1) (e1 : r = r2) (e2 : h1 = h2) : EvD mi args G h r2 h2 := by subst e1; subst e2; exact k
theorem EvU.to {mi : MI} {args : List Value} {G : Geo} {h h1 h2 : Hp} (k : EvU mi args G h h1) (e2 : h1 = h2) : EvU mi args G h h2 := by subst e2; exact k
section EVW
variable {mi ce : MI} {pc nx tg ix : Nat} {lo : List (Option Value)} {st : List Value} {G : Geo} {h h1 : Hp} {kc ks : Nat} {Q : Pst} {r : Int32} {v1 v2 v3 v4 v5 v6 v7 : Value} {a c : Nat}
theorem ev_S0D (hd : ev_at mi pc = some (.invokestatic ix, nx, tg)) (hn : nx = pc + 3) (hk : ev_lk mi.1.cls ix ce 0) (hst : Cond.static ce.1 ∈ gwl) (hR : ev_room mi ce) (hw : Nat.ble ((st.map fun v => v.category).sum) 8 = true) (hM : EvD ce [] G h r h1) (kk : EvQ mi nx lo (.int r :: st) G h1 kc ks Q) : EvQ mi pc lo (st) G h kc ks Q := by
  have h0 : EvQ mi pc lo (st) G h (0 + kc) (0 + ks) Q := ev_invS0 (As := []) hd hn hk hst rfl hR (Nat.le_of_ble_eq_true hw) hM (fun v G' h' hq _ => by
    obtain ⟨rfl, rfl, rfl⟩ := hq
    exact kk)
  rw [Nat.zero_add, Nat.zero_add] at h0
  exact h0
theorem ev_S0U (hd : ev_at mi pc = some (.invokestatic ix, nx, tg)) (hn : nx = pc + 3) (hk : ev_lk mi.1.cls ix ce 0) (hst : Cond.static ce.1 ∈ gwl) (hR : ev_room mi ce) (hw : Nat.ble ((st.map fun v => v.category).sum) 8 = true) (hM : EvU ce [] G h h1) (kk : EvQ mi nx lo st G h1 kc ks Q) : EvQ mi pc lo (st) G h kc ks Q := by
  have h0 : EvQ mi pc lo (st) G h (0 + kc) (0 + ks) Q := ev_invS0 (As := []) hd hn hk hst rfl hR (Nat.le_of_ble_eq_true hw) hM (fun v G' h' hq _ => by
    obtain ⟨rfl, rfl, rfl⟩ := hq
    exact kk)
  rw [Nat.zero_add, Nat.zero_add] at h0
  exact h0
theorem ev_V0D (hd : ev_at mi pc = some (.invokevirtual ix, nx, tg)) (hn : nx = pc + 3) (hk : ev_lk mi.1.cls ix ce 0) (hst : Cond.instanceMethod ce.1 ∈ gwl ∧ Cond.selects ce.1.cls ce.1 ce.1 ∈ gwl) (ha : Nat.blt 0 a = true) (hz : ev_sh G a = some (.inl c)) (hc : (vwCl[c]?).map (fun q => q.1) = some ce.1.cls) (hR : ev_room mi ce) (hw : Nat.ble ((st.map fun v => v.category).sum) 8 = true) (hM : EvD ce (.ref a :: []) G h r h1) (kk : EvQ mi nx lo (.int r :: st) G h1 kc ks Q) : EvQ mi pc lo (.ref a :: st) G h kc ks Q := by
  have h0 : EvQ mi pc lo (.ref a :: st) G h (0 + kc) (0 + ks) Q := ev_invV0 (As := []) hd hn hk hst ha hz hc rfl hR (Nat.le_of_ble_eq_true hw) hM (fun v G' h' hq _ => by
    obtain ⟨rfl, rfl, rfl⟩ := hq
    exact kk)
  rw [Nat.zero_add, Nat.zero_add] at h0
  exact h0
theorem ev_V0U (hd : ev_at mi pc = some (.invokevirtual ix, nx, tg)) (hn : nx = pc + 3) (hk : ev_lk mi.1.cls ix ce 0) (hst : Cond.instanceMethod ce.1 ∈ gwl ∧ Cond.selects ce.1.cls ce.1 ce.1 ∈ gwl) (ha : Nat.blt 0 a = true) (hz : ev_sh G a = some (.inl c)) (hc : (vwCl[c]?).map (fun q => q.1) = some ce.1.cls) (hR : ev_room mi ce) (hw : Nat.ble ((st.map fun v => v.category).sum) 8 = true) (hM : EvU ce (.ref a :: []) G h h1) (kk : EvQ mi nx lo st G h1 kc ks Q) : EvQ mi pc lo (.ref a :: st) G h kc ks Q := by
  have h0 : EvQ mi pc lo (.ref a :: st) G h (0 + kc) (0 + ks) Q := ev_invV0 (As := []) hd hn hk hst ha hz hc rfl hR (Nat.le_of_ble_eq_true hw) hM (fun v G' h' hq _ => by
    obtain ⟨rfl, rfl, rfl⟩ := hq
    exact kk)
  rw [Nat.zero_add, Nat.zero_add] at h0
  exact h0
theorem ev_SN0D (hd : ev_at mi pc = some (.invokestatic ix, nx, tg)) (hn : nx = pc + 3) (hk : ev_ln mi.1.cls ix ce 0) (hst : Cond.static ce.1 ∈ gwl) (hR : ev_room mi ce) (hw : Nat.ble ((st.map fun v => v.category).sum) 8 = true) (hM : EvD ce [] G h r h1) (kk : EvQ mi nx lo (.int r :: st) G h1 kc ks Q) : EvQ mi pc lo (st) G h kc ks Q := by
  have h0 : EvQ mi pc lo (st) G h (0 + kc) (0 + ks) Q := ev_invSN0 (As := []) hd hn hk hst rfl hR (Nat.le_of_ble_eq_true hw) hM (fun v G' h' hq _ => by
    obtain ⟨rfl, rfl, rfl⟩ := hq
    exact kk)
  rw [Nat.zero_add, Nat.zero_add] at h0
  exact h0
theorem ev_SN0U (hd : ev_at mi pc = some (.invokestatic ix, nx, tg)) (hn : nx = pc + 3) (hk : ev_ln mi.1.cls ix ce 0) (hst : Cond.static ce.1 ∈ gwl) (hR : ev_room mi ce) (hw : Nat.ble ((st.map fun v => v.category).sum) 8 = true) (hM : EvU ce [] G h h1) (kk : EvQ mi nx lo st G h1 kc ks Q) : EvQ mi pc lo (st) G h kc ks Q := by
  have h0 : EvQ mi pc lo (st) G h (0 + kc) (0 + ks) Q := ev_invSN0 (As := []) hd hn hk hst rfl hR (Nat.le_of_ble_eq_true hw) hM (fun v G' h' hq _ => by
    obtain ⟨rfl, rfl, rfl⟩ := hq
    exact kk)
  rw [Nat.zero_add, Nat.zero_add] at h0
  exact h0
theorem ev_S1D (hd : ev_at mi pc = some (.invokestatic ix, nx, tg)) (hn : nx = pc + 3) (hk : ev_lk mi.1.cls ix ce 1) (hst : Cond.static ce.1 ∈ gwl) (hR : ev_room mi ce) (hw : Nat.ble ((st.map fun v => v.category).sum) 8 = true) (hM : EvD ce [v1] G h r h1) (kk : EvQ mi nx lo (.int r :: st) G h1 kc ks Q) : EvQ mi pc lo (v1 :: st) G h kc ks Q := by
  have h0 : EvQ mi pc lo (v1 :: st) G h (0 + kc) (0 + ks) Q := ev_invS0 (As := [v1]) hd hn hk hst rfl hR (Nat.le_of_ble_eq_true hw) hM (fun v G' h' hq _ => by
    obtain ⟨rfl, rfl, rfl⟩ := hq
    exact kk)
  rw [Nat.zero_add, Nat.zero_add] at h0
  exact h0
theorem ev_S1U (hd : ev_at mi pc = some (.invokestatic ix, nx, tg)) (hn : nx = pc + 3) (hk : ev_lk mi.1.cls ix ce 1) (hst : Cond.static ce.1 ∈ gwl) (hR : ev_room mi ce) (hw : Nat.ble ((st.map fun v => v.category).sum) 8 = true) (hM : EvU ce [v1] G h h1) (kk : EvQ mi nx lo st G h1 kc ks Q) : EvQ mi pc lo (v1 :: st) G h kc ks Q := by
  have h0 : EvQ mi pc lo (v1 :: st) G h (0 + kc) (0 + ks) Q := ev_invS0 (As := [v1]) hd hn hk hst rfl hR (Nat.le_of_ble_eq_true hw) hM (fun v G' h' hq _ => by
    obtain ⟨rfl, rfl, rfl⟩ := hq
    exact kk)
  rw [Nat.zero_add, Nat.zero_add] at h0
  exact h0
theorem ev_V1D (hd : ev_at mi pc = some (.invokevirtual ix, nx, tg)) (hn : nx = pc + 3) (hk : ev_lk mi.1.cls ix ce 1) (hst : Cond.instanceMethod ce.1 ∈ gwl ∧ Cond.selects ce.1.cls ce.1 ce.1 ∈ gwl) (ha : Nat.blt 0 a = true) (hz : ev_sh G a = some (.inl c)) (hc : (vwCl[c]?).map (fun q => q.1) = some ce.1.cls) (hR : ev_room mi ce) (hw : Nat.ble ((st.map fun v => v.category).sum) 8 = true) (hM : EvD ce (.ref a :: [v1]) G h r h1) (kk : EvQ mi nx lo (.int r :: st) G h1 kc ks Q) : EvQ mi pc lo (v1 :: .ref a :: st) G h kc ks Q := by
  have h0 : EvQ mi pc lo (v1 :: .ref a :: st) G h (0 + kc) (0 + ks) Q := ev_invV0 (As := [v1]) hd hn hk hst ha hz hc rfl hR (Nat.le_of_ble_eq_true hw) hM (fun v G' h' hq _ => by
    obtain ⟨rfl, rfl, rfl⟩ := hq
    exact kk)
  rw [Nat.zero_add, Nat.zero_add] at h0
  exact h0
theorem ev_V1U (hd : ev_at mi pc = some (.invokevirtual ix, nx, tg)) (hn : nx = pc + 3) (hk : ev_lk mi.1.cls ix ce 1) (hst : Cond.instanceMethod ce.1 ∈ gwl ∧ Cond.selects ce.1.cls ce.1 ce.1 ∈ gwl) (ha : Nat.blt 0 a = true) (hz : ev_sh G a = some (.inl c)) (hc : (vwCl[c]?).map (fun q => q.1) = some ce.1.cls) (hR : ev_room mi ce) (hw : Nat.ble ((st.map fun v => v.category).sum) 8 = true) (hM : EvU ce (.ref a :: [v1]) G h h1) (kk : EvQ mi nx lo st G h1 kc ks Q) : EvQ mi pc lo (v1 :: .ref a :: st) G h kc ks Q := by
  have h0 : EvQ mi pc lo (v1 :: .ref a :: st) G h (0 + kc) (0 + ks) Q := ev_invV0 (As := [v1]) hd hn hk hst ha hz hc rfl hR (Nat.le_of_ble_eq_true hw) hM (fun v G' h' hq _ => by
    obtain ⟨rfl, rfl, rfl⟩ := hq
    exact kk)
  rw [Nat.zero_add, Nat.zero_add] at h0
  exact h0
theorem ev_SN1D (hd : ev_at mi pc = some (.invokestatic ix, nx, tg)) (hn : nx = pc + 3) (hk : ev_ln mi.1.cls ix ce 1) (hst : Cond.static ce.1 ∈ gwl) (hR : ev_room mi ce) (hw : Nat.ble ((st.map fun v => v.category).sum) 8 = true) (hM : EvD ce [v1] G h r h1) (kk : EvQ mi nx lo (.int r :: st) G h1 kc ks Q) : EvQ mi pc lo (v1 :: st) G h kc ks Q := by
  have h0 : EvQ mi pc lo (v1 :: st) G h (0 + kc) (0 + ks) Q := ev_invSN0 (As := [v1]) hd hn hk hst rfl hR (Nat.le_of_ble_eq_true hw) hM (fun v G' h' hq _ => by
    obtain ⟨rfl, rfl, rfl⟩ := hq
    exact kk)
  rw [Nat.zero_add, Nat.zero_add] at h0
  exact h0
theorem ev_SN1U (hd : ev_at mi pc = some (.invokestatic ix, nx, tg)) (hn : nx = pc + 3) (hk : ev_ln mi.1.cls ix ce 1) (hst : Cond.static ce.1 ∈ gwl) (hR : ev_room mi ce) (hw : Nat.ble ((st.map fun v => v.category).sum) 8 = true) (hM : EvU ce [v1] G h h1) (kk : EvQ mi nx lo st G h1 kc ks Q) : EvQ mi pc lo (v1 :: st) G h kc ks Q := by
  have h0 : EvQ mi pc lo (v1 :: st) G h (0 + kc) (0 + ks) Q := ev_invSN0 (As := [v1]) hd hn hk hst rfl hR (Nat.le_of_ble_eq_true hw) hM (fun v G' h' hq _ => by
    obtain ⟨rfl, rfl, rfl⟩ := hq
    exact kk)
  rw [Nat.zero_add, Nat.zero_add] at h0
  exact h0
theorem ev_S2D (hd : ev_at mi pc = some (.invokestatic ix, nx, tg)) (hn : nx = pc + 3) (hk : ev_lk mi.1.cls ix ce 2) (hst : Cond.static ce.1 ∈ gwl) (hR : ev_room mi ce) (hw : Nat.ble ((st.map fun v => v.category).sum) 8 = true) (hM : EvD ce [v1, v2] G h r h1) (kk : EvQ mi nx lo (.int r :: st) G h1 kc ks Q) : EvQ mi pc lo (v2 :: v1 :: st) G h kc ks Q := by
  have h0 : EvQ mi pc lo (v2 :: v1 :: st) G h (0 + kc) (0 + ks) Q := ev_invS0 (As := [v1, v2]) hd hn hk hst rfl hR (Nat.le_of_ble_eq_true hw) hM (fun v G' h' hq _ => by
    obtain ⟨rfl, rfl, rfl⟩ := hq
    exact kk)
  rw [Nat.zero_add, Nat.zero_add] at h0
  exact h0
theorem ev_S2U (hd : ev_at mi pc = some (.invokestatic ix, nx, tg)) (hn : nx = pc + 3) (hk : ev_lk mi.1.cls ix ce 2) (hst : Cond.static ce.1 ∈ gwl) (hR : ev_room mi ce) (hw : Nat.ble ((st.map fun v => v.category).sum) 8 = true) (hM : EvU ce [v1, v2] G h h1) (kk : EvQ mi nx lo st G h1 kc ks Q) : EvQ mi pc lo (v2 :: v1 :: st) G h kc ks Q := by
  have h0 : EvQ mi pc lo (v2 :: v1 :: st) G h (0 + kc) (0 + ks) Q := ev_invS0 (As := [v1, v2]) hd hn hk hst rfl hR (Nat.le_of_ble_eq_true hw) hM (fun v G' h' hq _ => by
    obtain ⟨rfl, rfl, rfl⟩ := hq
    exact kk)
  rw [Nat.zero_add, Nat.zero_add] at h0
  exact h0
theorem ev_V2D (hd : ev_at mi pc = some (.invokevirtual ix, nx, tg)) (hn : nx = pc + 3) (hk : ev_lk mi.1.cls ix ce 2) (hst : Cond.instanceMethod ce.1 ∈ gwl ∧ Cond.selects ce.1.cls ce.1 ce.1 ∈ gwl) (ha : Nat.blt 0 a = true) (hz : ev_sh G a = some (.inl c)) (hc : (vwCl[c]?).map (fun q => q.1) = some ce.1.cls) (hR : ev_room mi ce) (hw : Nat.ble ((st.map fun v => v.category).sum) 8 = true) (hM : EvD ce (.ref a :: [v1, v2]) G h r h1) (kk : EvQ mi nx lo (.int r :: st) G h1 kc ks Q) : EvQ mi pc lo (v2 :: v1 :: .ref a :: st) G h kc ks Q := by
  have h0 : EvQ mi pc lo (v2 :: v1 :: .ref a :: st) G h (0 + kc) (0 + ks) Q := ev_invV0 (As := [v1, v2]) hd hn hk hst ha hz hc rfl hR (Nat.le_of_ble_eq_true hw) hM (fun v G' h' hq _ => by
    obtain ⟨rfl, rfl, rfl⟩ := hq
    exact kk)
  rw [Nat.zero_add, Nat.zero_add] at h0
  exact h0
theorem ev_V2U (hd : ev_at mi pc = some (.invokevirtual ix, nx, tg)) (hn : nx = pc + 3) (hk : ev_lk mi.1.cls ix ce 2) (hst : Cond.instanceMethod ce.1 ∈ gwl ∧ Cond.selects ce.1.cls ce.1 ce.1 ∈ gwl) (ha : Nat.blt 0 a = true) (hz : ev_sh G a = some (.inl c)) (hc : (vwCl[c]?).map (fun q => q.1) = some ce.1.cls) (hR : ev_room mi ce) (hw : Nat.ble ((st.map fun v => v.category).sum) 8 = true) (hM : EvU ce (.ref a :: [v1, v2]) G h h1) (kk : EvQ mi nx lo st G h1 kc ks Q) : EvQ mi pc lo (v2 :: v1 :: .ref a :: st) G h kc ks Q := by
  have h0 : EvQ mi pc lo (v2 :: v1 :: .ref a :: st) G h (0 + kc) (0 + ks) Q := ev_invV0 (As := [v1, v2]) hd hn hk hst ha hz hc rfl hR (Nat.le_of_ble_eq_true hw) hM (fun v G' h' hq _ => by
    obtain ⟨rfl, rfl, rfl⟩ := hq
    exact kk)
  rw [Nat.zero_add, Nat.zero_add] at h0
  exact h0
theorem ev_SN2D (hd : ev_at mi pc = some (.invokestatic ix, nx, tg)) (hn : nx = pc + 3) (hk : ev_ln mi.1.cls ix ce 2) (hst : Cond.static ce.1 ∈ gwl) (hR : ev_room mi ce) (hw : Nat.ble ((st.map fun v => v.category).sum) 8 = true) (hM : EvD ce [v1, v2] G h r h1) (kk : EvQ mi nx lo (.int r :: st) G h1 kc ks Q) : EvQ mi pc lo (v2 :: v1 :: st) G h kc ks Q := by
  have h0 : EvQ mi pc lo (v2 :: v1 :: st) G h (0 + kc) (0 + ks) Q := ev_invSN0 (As := [v1, v2]) hd hn hk hst rfl hR (Nat.le_of_ble_eq_true hw) hM (fun v G' h' hq _ => by
    obtain ⟨rfl, rfl, rfl⟩ := hq
    exact kk)
  rw [Nat.zero_add, Nat.zero_add] at h0
  exact h0
theorem ev_SN2U (hd : ev_at mi pc = some (.invokestatic ix, nx, tg)) (hn : nx = pc + 3) (hk : ev_ln mi.1.cls ix ce 2) (hst : Cond.static ce.1 ∈ gwl) (hR : ev_room mi ce) (hw : Nat.ble ((st.map fun v => v.category).sum) 8 = true) (hM : EvU ce [v1, v2] G h h1) (kk : EvQ mi nx lo st G h1 kc ks Q) : EvQ mi pc lo (v2 :: v1 :: st) G h kc ks Q := by
  have h0 : EvQ mi pc lo (v2 :: v1 :: st) G h (0 + kc) (0 + ks) Q := ev_invSN0 (As := [v1, v2]) hd hn hk hst rfl hR (Nat.le_of_ble_eq_true hw) hM (fun v G' h' hq _ => by
    obtain ⟨rfl, rfl, rfl⟩ := hq
    exact kk)
  rw [Nat.zero_add, Nat.zero_add] at h0
  exact h0
theorem ev_S3D (hd : ev_at mi pc = some (.invokestatic ix, nx, tg)) (hn : nx = pc + 3) (hk : ev_lk mi.1.cls ix ce 3) (hst : Cond.static ce.1 ∈ gwl) (hR : ev_room mi ce) (hw : Nat.ble ((st.map fun v => v.category).sum) 8 = true) (hM : EvD ce [v1, v2, v3] G h r h1) (kk : EvQ mi nx lo (.int r :: st) G h1 kc ks Q) : EvQ mi pc lo (v3 :: v2 :: v1 :: st) G h kc ks Q := by
  have h0 : EvQ mi pc lo (v3 :: v2 :: v1 :: st) G h (0 + kc) (0 + ks) Q := ev_invS0 (As := [v1, v2, v3]) hd hn hk hst rfl hR (Nat.le_of_ble_eq_true hw) hM (fun v G' h' hq _ => by
    obtain ⟨rfl, rfl, rfl⟩ := hq
    exact kk)
  rw [Nat.zero_add, Nat.zero_add] at h0
  exact h0
theorem ev_S3U (hd : ev_at mi pc = some (.invokestatic ix, nx, tg)) (hn : nx = pc + 3) (hk : ev_lk mi.1.cls ix ce 3) (hst : Cond.static ce.1 ∈ gwl) (hR : ev_room mi ce) (hw : Nat.ble ((st.map fun v => v.category).sum) 8 = true) (hM : EvU ce [v1, v2, v3] G h h1) (kk : EvQ mi nx lo st G h1 kc ks Q) : EvQ mi pc lo (v3 :: v2 :: v1 :: st) G h kc ks Q := by
  have h0 : EvQ mi pc lo (v3 :: v2 :: v1 :: st) G h (0 + kc) (0 + ks) Q := ev_invS0 (As := [v1, v2, v3]) hd hn hk hst rfl hR (Nat.le_of_ble_eq_true hw) hM (fun v G' h' hq _ => by
    obtain ⟨rfl, rfl, rfl⟩ := hq
    exact kk)
  rw [Nat.zero_add, Nat.zero_add] at h0
  exact h0
theorem ev_V3D (hd : ev_at mi pc = some (.invokevirtual ix, nx, tg)) (hn : nx = pc + 3) (hk : ev_lk mi.1.cls ix ce 3) (hst : Cond.instanceMethod ce.1 ∈ gwl ∧ Cond.selects ce.1.cls ce.1 ce.1 ∈ gwl) (ha : Nat.blt 0 a = true) (hz : ev_sh G a = some (.inl c)) (hc : (vwCl[c]?).map (fun q => q.1) = some ce.1.cls) (hR : ev_room mi ce) (hw : Nat.ble ((st.map fun v => v.category).sum) 8 = true) (hM : EvD ce (.ref a :: [v1, v2, v3]) G h r h1) (kk : EvQ mi nx lo (.int r :: st) G h1 kc ks Q) : EvQ mi pc lo (v3 :: v2 :: v1 :: .ref a :: st) G h kc ks Q := by
  have h0 : EvQ mi pc lo (v3 :: v2 :: v1 :: .ref a :: st) G h (0 + kc) (0 + ks) Q := ev_invV0 (As := [v1, v2, v3]) hd hn hk hst ha hz hc rfl hR (Nat.le_of_ble_eq_true hw) hM (fun v G' h' hq _ => by
    obtain ⟨rfl, rfl, rfl⟩ := hq
    exact kk)
  rw [Nat.zero_add, Nat.zero_add] at h0
  exact h0
theorem ev_V3U (hd : ev_at mi pc = some (.invokevirtual ix, nx, tg)) (hn : nx = pc + 3) (hk : ev_lk mi.1.cls ix ce 3) (hst : Cond.instanceMethod ce.1 ∈ gwl ∧ Cond.selects ce.1.cls ce.1 ce.1 ∈ gwl) (ha : Nat.blt 0 a = true) (hz : ev_sh G a = some (.inl c)) (hc : (vwCl[c]?).map (fun q => q.1) = some ce.1.cls) (hR : ev_room mi ce) (hw : Nat.ble ((st.map fun v => v.category).sum) 8 = true) (hM : EvU ce (.ref a :: [v1, v2, v3]) G h h1) (kk : EvQ mi nx lo st G h1 kc ks Q) : EvQ mi pc lo (v3 :: v2 :: v1 :: .ref a :: st) G h kc ks Q := by
  have h0 : EvQ mi pc lo (v3 :: v2 :: v1 :: .ref a :: st) G h (0 + kc) (0 + ks) Q := ev_invV0 (As := [v1, v2, v3]) hd hn hk hst ha hz hc rfl hR (Nat.le_of_ble_eq_true hw) hM (fun v G' h' hq _ => by
    obtain ⟨rfl, rfl, rfl⟩ := hq
    exact kk)
  rw [Nat.zero_add, Nat.zero_add] at h0
  exact h0
theorem ev_SN3D (hd : ev_at mi pc = some (.invokestatic ix, nx, tg)) (hn : nx = pc + 3) (hk : ev_ln mi.1.cls ix ce 3) (hst : Cond.static ce.1 ∈ gwl) (hR : ev_room mi ce) (hw : Nat.ble ((st.map fun v => v.category).sum) 8 = true) (hM : EvD ce [v1, v2, v3] G h r h1) (kk : EvQ mi nx lo (.int r :: st) G h1 kc ks Q) : EvQ mi pc lo (v3 :: v2 :: v1 :: st) G h kc ks Q := by
  have h0 : EvQ mi pc lo (v3 :: v2 :: v1 :: st) G h (0 + kc) (0 + ks) Q := ev_invSN0 (As := [v1, v2, v3]) hd hn hk hst rfl hR (Nat.le_of_ble_eq_true hw) hM (fun v G' h' hq _ => by
    obtain ⟨rfl, rfl, rfl⟩ := hq
    exact kk)
  rw [Nat.zero_add, Nat.zero_add] at h0
  exact h0
theorem ev_SN3U (hd : ev_at mi pc = some (.invokestatic ix, nx, tg)) (hn : nx = pc + 3) (hk : ev_ln mi.1.cls ix ce 3) (hst : Cond.static ce.1 ∈ gwl) (hR : ev_room mi ce) (hw : Nat.ble ((st.map fun v => v.category).sum) 8 = true) (hM : EvU ce [v1, v2, v3] G h h1) (kk : EvQ mi nx lo st G h1 kc ks Q) : EvQ mi pc lo (v3 :: v2 :: v1 :: st) G h kc ks Q := by
  have h0 : EvQ mi pc lo (v3 :: v2 :: v1 :: st) G h (0 + kc) (0 + ks) Q := ev_invSN0 (As := [v1, v2, v3]) hd hn hk hst rfl hR (Nat.le_of_ble_eq_true hw) hM (fun v G' h' hq _ => by
    obtain ⟨rfl, rfl, rfl⟩ := hq
    exact kk)
  rw [Nat.zero_add, Nat.zero_add] at h0
  exact h0
theorem ev_S4D (hd : ev_at mi pc = some (.invokestatic ix, nx, tg)) (hn : nx = pc + 3) (hk : ev_lk mi.1.cls ix ce 4) (hst : Cond.static ce.1 ∈ gwl) (hR : ev_room mi ce) (hw : Nat.ble ((st.map fun v => v.category).sum) 8 = true) (hM : EvD ce [v1, v2, v3, v4] G h r h1) (kk : EvQ mi nx lo (.int r :: st) G h1 kc ks Q) : EvQ mi pc lo (v4 :: v3 :: v2 :: v1 :: st) G h kc ks Q := by
  have h0 : EvQ mi pc lo (v4 :: v3 :: v2 :: v1 :: st) G h (0 + kc) (0 + ks) Q := ev_invS0 (As := [v1, v2, v3, v4]) hd hn hk hst rfl hR (Nat.le_of_ble_eq_true hw) hM (fun v G' h' hq _ => by
    obtain ⟨rfl, rfl, rfl⟩ := hq
    exact kk)
  rw [Nat.zero_add, Nat.zero_add] at h0
  exact h0
theorem ev_S4U (hd : ev_at mi pc = some (.invokestatic ix, nx, tg)) (hn : nx = pc + 3) (hk : ev_lk mi.1.cls ix ce 4) (hst : Cond.static ce.1 ∈ gwl) (hR : ev_room mi ce) (hw : Nat.ble ((st.map fun v => v.category).sum) 8 = true) (hM : EvU ce [v1, v2, v3, v4] G h h1) (kk : EvQ mi nx lo st G h1 kc ks Q) : EvQ mi pc lo (v4 :: v3 :: v2 :: v1 :: st) G h kc ks Q := by
  have h0 : EvQ mi pc lo (v4 :: v3 :: v2 :: v1 :: st) G h (0 + kc) (0 + ks) Q := ev_invS0 (As := [v1, v2, v3, v4]) hd hn hk hst rfl hR (Nat.le_of_ble_eq_true hw) hM (fun v G' h' hq _ => by
    obtain ⟨rfl, rfl, rfl⟩ := hq
    exact kk)
  rw [Nat.zero_add, Nat.zero_add] at h0
  exact h0
theorem ev_V4D (hd : ev_at mi pc = some (.invokevirtual ix, nx, tg)) (hn : nx = pc + 3) (hk : ev_lk mi.1.cls ix ce 4) (hst : Cond.instanceMethod ce.1 ∈ gwl ∧ Cond.selects ce.1.cls ce.1 ce.1 ∈ gwl) (ha : Nat.blt 0 a = true) (hz : ev_sh G a = some (.inl c)) (hc : (vwCl[c]?).map (fun q => q.1) = some ce.1.cls) (hR : ev_room mi ce) (hw : Nat.ble ((st.map fun v => v.category).sum) 8 = true) (hM : EvD ce (.ref a :: [v1, v2, v3, v4]) G h r h1) (kk : EvQ mi nx lo (.int r :: st) G h1 kc ks Q) : EvQ mi pc lo (v4 :: v3 :: v2 :: v1 :: .ref a :: st) G h kc ks Q := by
  have h0 : EvQ mi pc lo (v4 :: v3 :: v2 :: v1 :: .ref a :: st) G h (0 + kc) (0 + ks) Q := ev_invV0 (As := [v1, v2, v3, v4]) hd hn hk hst ha hz hc rfl hR (Nat.le_of_ble_eq_true hw) hM (fun v G' h' hq _ => by
    obtain ⟨rfl, rfl, rfl⟩ := hq
    exact kk)
  rw [Nat.zero_add, Nat.zero_add] at h0
  exact h0
theorem ev_V4U (hd : ev_at mi pc = some (.invokevirtual ix, nx, tg)) (hn : nx = pc + 3) (hk : ev_lk mi.1.cls ix ce 4) (hst : Cond.instanceMethod ce.1 ∈ gwl ∧ Cond.selects ce.1.cls ce.1 ce.1 ∈ gwl) (ha : Nat.blt 0 a = true) (hz : ev_sh G a = some (.inl c)) (hc : (vwCl[c]?).map (fun q => q.1) = some ce.1.cls) (hR : ev_room mi ce) (hw : Nat.ble ((st.map fun v => v.category).sum) 8 = true) (hM : EvU ce (.ref a :: [v1, v2, v3, v4]) G h h1) (kk : EvQ mi nx lo st G h1 kc ks Q) : EvQ mi pc lo (v4 :: v3 :: v2 :: v1 :: .ref a :: st) G h kc ks Q := by
  have h0 : EvQ mi pc lo (v4 :: v3 :: v2 :: v1 :: .ref a :: st) G h (0 + kc) (0 + ks) Q := ev_invV0 (As := [v1, v2, v3, v4]) hd hn hk hst ha hz hc rfl hR (Nat.le_of_ble_eq_true hw) hM (fun v G' h' hq _ => by
    obtain ⟨rfl, rfl, rfl⟩ := hq
    exact kk)
  rw [Nat.zero_add, Nat.zero_add] at h0
  exact h0
theorem ev_SN4D (hd : ev_at mi pc = some (.invokestatic ix, nx, tg)) (hn : nx = pc + 3) (hk : ev_ln mi.1.cls ix ce 4) (hst : Cond.static ce.1 ∈ gwl) (hR : ev_room mi ce) (hw : Nat.ble ((st.map fun v => v.category).sum) 8 = true) (hM : EvD ce [v1, v2, v3, v4] G h r h1) (kk : EvQ mi nx lo (.int r :: st) G h1 kc ks Q) : EvQ mi pc lo (v4 :: v3 :: v2 :: v1 :: st) G h kc ks Q := by
  have h0 : EvQ mi pc lo (v4 :: v3 :: v2 :: v1 :: st) G h (0 + kc) (0 + ks) Q := ev_invSN0 (As := [v1, v2, v3, v4]) hd hn hk hst rfl hR (Nat.le_of_ble_eq_true hw) hM (fun v G' h' hq _ => by
    obtain ⟨rfl, rfl, rfl⟩ := hq
    exact kk)
  rw [Nat.zero_add, Nat.zero_add] at h0
  exact h0
theorem ev_SN4U (hd : ev_at mi pc = some (.invokestatic ix, nx, tg)) (hn : nx = pc + 3) (hk : ev_ln mi.1.cls ix ce 4) (hst : Cond.static ce.1 ∈ gwl) (hR : ev_room mi ce) (hw : Nat.ble ((st.map fun v => v.category).sum) 8 = true) (hM : EvU ce [v1, v2, v3, v4] G h h1) (kk : EvQ mi nx lo st G h1 kc ks Q) : EvQ mi pc lo (v4 :: v3 :: v2 :: v1 :: st) G h kc ks Q := by
  have h0 : EvQ mi pc lo (v4 :: v3 :: v2 :: v1 :: st) G h (0 + kc) (0 + ks) Q := ev_invSN0 (As := [v1, v2, v3, v4]) hd hn hk hst rfl hR (Nat.le_of_ble_eq_true hw) hM (fun v G' h' hq _ => by
    obtain ⟨rfl, rfl, rfl⟩ := hq
    exact kk)
  rw [Nat.zero_add, Nat.zero_add] at h0
  exact h0
theorem ev_S5D (hd : ev_at mi pc = some (.invokestatic ix, nx, tg)) (hn : nx = pc + 3) (hk : ev_lk mi.1.cls ix ce 5) (hst : Cond.static ce.1 ∈ gwl) (hR : ev_room mi ce) (hw : Nat.ble ((st.map fun v => v.category).sum) 8 = true) (hM : EvD ce [v1, v2, v3, v4, v5] G h r h1) (kk : EvQ mi nx lo (.int r :: st) G h1 kc ks Q) : EvQ mi pc lo (v5 :: v4 :: v3 :: v2 :: v1 :: st) G h kc ks Q := by
  have h0 : EvQ mi pc lo (v5 :: v4 :: v3 :: v2 :: v1 :: st) G h (0 + kc) (0 + ks) Q := ev_invS0 (As := [v1, v2, v3, v4, v5]) hd hn hk hst rfl hR (Nat.le_of_ble_eq_true hw) hM (fun v G' h' hq _ => by
    obtain ⟨rfl, rfl, rfl⟩ := hq
    exact kk)
  rw [Nat.zero_add, Nat.zero_add] at h0
  exact h0
theorem ev_S5U (hd : ev_at mi pc = some (.invokestatic ix, nx, tg)) (hn : nx = pc + 3) (hk : ev_lk mi.1.cls ix ce 5) (hst : Cond.static ce.1 ∈ gwl) (hR : ev_room mi ce) (hw : Nat.ble ((st.map fun v => v.category).sum) 8 = true) (hM : EvU ce [v1, v2, v3, v4, v5] G h h1) (kk : EvQ mi nx lo st G h1 kc ks Q) : EvQ mi pc lo (v5 :: v4 :: v3 :: v2 :: v1 :: st) G h kc ks Q := by
  have h0 : EvQ mi pc lo (v5 :: v4 :: v3 :: v2 :: v1 :: st) G h (0 + kc) (0 + ks) Q := ev_invS0 (As := [v1, v2, v3, v4, v5]) hd hn hk hst rfl hR (Nat.le_of_ble_eq_true hw) hM (fun v G' h' hq _ => by
    obtain ⟨rfl, rfl, rfl⟩ := hq
    exact kk)
  rw [Nat.zero_add, Nat.zero_add] at h0
  exact h0
theorem ev_V5D (hd : ev_at mi pc = some (.invokevirtual ix, nx, tg)) (hn : nx = pc + 3) (hk : ev_lk mi.1.cls ix ce 5) (hst : Cond.instanceMethod ce.1 ∈ gwl ∧ Cond.selects ce.1.cls ce.1 ce.1 ∈ gwl) (ha : Nat.blt 0 a = true) (hz : ev_sh G a = some (.inl c)) (hc : (vwCl[c]?).map (fun q => q.1) = some ce.1.cls) (hR : ev_room mi ce) (hw : Nat.ble ((st.map fun v => v.category).sum) 8 = true) (hM : EvD ce (.ref a :: [v1, v2, v3, v4, v5]) G h r h1) (kk : EvQ mi nx lo (.int r :: st) G h1 kc ks Q) : EvQ mi pc lo (v5 :: v4 :: v3 :: v2 :: v1 :: .ref a :: st) G h kc ks Q := by
  have h0 : EvQ mi pc lo (v5 :: v4 :: v3 :: v2 :: v1 :: .ref a :: st) G h (0 + kc) (0 + ks) Q := ev_invV0 (As := [v1, v2, v3, v4, v5]) hd hn hk hst ha hz hc rfl hR (Nat.le_of_ble_eq_true hw) hM (fun v G' h' hq _ => by
    obtain ⟨rfl, rfl, rfl⟩ := hq
    exact kk)
  rw [Nat.zero_add, Nat.zero_add] at h0
  exact h0
theorem ev_V5U (hd : ev_at mi pc = some (.invokevirtual ix, nx, tg)) (hn : nx = pc + 3) (hk : ev_lk mi.1.cls ix ce 5) (hst : Cond.instanceMethod ce.1 ∈ gwl ∧ Cond.selects ce.1.cls ce.1 ce.1 ∈ gwl) (ha : Nat.blt 0 a = true) (hz : ev_sh G a = some (.inl c)) (hc : (vwCl[c]?).map (fun q => q.1) = some ce.1.cls) (hR : ev_room mi ce) (hw : Nat.ble ((st.map fun v => v.category).sum) 8 = true) (hM : EvU ce (.ref a :: [v1, v2, v3, v4, v5]) G h h1) (kk : EvQ mi nx lo st G h1 kc ks Q) : EvQ mi pc lo (v5 :: v4 :: v3 :: v2 :: v1 :: .ref a :: st) G h kc ks Q := by
  have h0 : EvQ mi pc lo (v5 :: v4 :: v3 :: v2 :: v1 :: .ref a :: st) G h (0 + kc) (0 + ks) Q := ev_invV0 (As := [v1, v2, v3, v4, v5]) hd hn hk hst ha hz hc rfl hR (Nat.le_of_ble_eq_true hw) hM (fun v G' h' hq _ => by
    obtain ⟨rfl, rfl, rfl⟩ := hq
    exact kk)
  rw [Nat.zero_add, Nat.zero_add] at h0
  exact h0
theorem ev_SN5D (hd : ev_at mi pc = some (.invokestatic ix, nx, tg)) (hn : nx = pc + 3) (hk : ev_ln mi.1.cls ix ce 5) (hst : Cond.static ce.1 ∈ gwl) (hR : ev_room mi ce) (hw : Nat.ble ((st.map fun v => v.category).sum) 8 = true) (hM : EvD ce [v1, v2, v3, v4, v5] G h r h1) (kk : EvQ mi nx lo (.int r :: st) G h1 kc ks Q) : EvQ mi pc lo (v5 :: v4 :: v3 :: v2 :: v1 :: st) G h kc ks Q := by
  have h0 : EvQ mi pc lo (v5 :: v4 :: v3 :: v2 :: v1 :: st) G h (0 + kc) (0 + ks) Q := ev_invSN0 (As := [v1, v2, v3, v4, v5]) hd hn hk hst rfl hR (Nat.le_of_ble_eq_true hw) hM (fun v G' h' hq _ => by
    obtain ⟨rfl, rfl, rfl⟩ := hq
    exact kk)
  rw [Nat.zero_add, Nat.zero_add] at h0
  exact h0
theorem ev_SN5U (hd : ev_at mi pc = some (.invokestatic ix, nx, tg)) (hn : nx = pc + 3) (hk : ev_ln mi.1.cls ix ce 5) (hst : Cond.static ce.1 ∈ gwl) (hR : ev_room mi ce) (hw : Nat.ble ((st.map fun v => v.category).sum) 8 = true) (hM : EvU ce [v1, v2, v3, v4, v5] G h h1) (kk : EvQ mi nx lo st G h1 kc ks Q) : EvQ mi pc lo (v5 :: v4 :: v3 :: v2 :: v1 :: st) G h kc ks Q := by
  have h0 : EvQ mi pc lo (v5 :: v4 :: v3 :: v2 :: v1 :: st) G h (0 + kc) (0 + ks) Q := ev_invSN0 (As := [v1, v2, v3, v4, v5]) hd hn hk hst rfl hR (Nat.le_of_ble_eq_true hw) hM (fun v G' h' hq _ => by
    obtain ⟨rfl, rfl, rfl⟩ := hq
    exact kk)
  rw [Nat.zero_add, Nat.zero_add] at h0
  exact h0
theorem ev_S6D (hd : ev_at mi pc = some (.invokestatic ix, nx, tg)) (hn : nx = pc + 3) (hk : ev_lk mi.1.cls ix ce 6) (hst : Cond.static ce.1 ∈ gwl) (hR : ev_room mi ce) (hw : Nat.ble ((st.map fun v => v.category).sum) 8 = true) (hM : EvD ce [v1, v2, v3, v4, v5, v6] G h r h1) (kk : EvQ mi nx lo (.int r :: st) G h1 kc ks Q) : EvQ mi pc lo (v6 :: v5 :: v4 :: v3 :: v2 :: v1 :: st) G h kc ks Q := by
  have h0 : EvQ mi pc lo (v6 :: v5 :: v4 :: v3 :: v2 :: v1 :: st) G h (0 + kc) (0 + ks) Q := ev_invS0 (As := [v1, v2, v3, v4, v5, v6]) hd hn hk hst rfl hR (Nat.le_of_ble_eq_true hw) hM (fun v G' h' hq _ => by
    obtain ⟨rfl, rfl, rfl⟩ := hq
    exact kk)
  rw [Nat.zero_add, Nat.zero_add] at h0
  exact h0
theorem ev_S6U (hd : ev_at mi pc = some (.invokestatic ix, nx, tg)) (hn : nx = pc + 3) (hk : ev_lk mi.1.cls ix ce 6) (hst : Cond.static ce.1 ∈ gwl) (hR : ev_room mi ce) (hw : Nat.ble ((st.map fun v => v.category).sum) 8 = true) (hM : EvU ce [v1, v2, v3, v4, v5, v6] G h h1) (kk : EvQ mi nx lo st G h1 kc ks Q) : EvQ mi pc lo (v6 :: v5 :: v4 :: v3 :: v2 :: v1 :: st) G h kc ks Q := by
  have h0 : EvQ mi pc lo (v6 :: v5 :: v4 :: v3 :: v2 :: v1 :: st) G h (0 + kc) (0 + ks) Q := ev_invS0 (As := [v1, v2, v3, v4, v5, v6]) hd hn hk hst rfl hR (Nat.le_of_ble_eq_true hw) hM (fun v G' h' hq _ => by
    obtain ⟨rfl, rfl, rfl⟩ := hq
    exact kk)
  rw [Nat.zero_add, Nat.zero_add] at h0
  exact h0
theorem ev_V6D (hd : ev_at mi pc = some (.invokevirtual ix, nx, tg)) (hn : nx = pc + 3) (hk : ev_lk mi.1.cls ix ce 6) (hst : Cond.instanceMethod ce.1 ∈ gwl ∧ Cond.selects ce.1.cls ce.1 ce.1 ∈ gwl) (ha : Nat.blt 0 a = true) (hz : ev_sh G a = some (.inl c)) (hc : (vwCl[c]?).map (fun q => q.1) = some ce.1.cls) (hR : ev_room mi ce) (hw : Nat.ble ((st.map fun v => v.category).sum) 8 = true) (hM : EvD ce (.ref a :: [v1, v2, v3, v4, v5, v6]) G h r h1) (kk : EvQ mi nx lo (.int r :: st) G h1 kc ks Q) : EvQ mi pc lo (v6 :: v5 :: v4 :: v3 :: v2 :: v1 :: .ref a :: st) G h kc ks Q := by
  have h0 : EvQ mi pc lo (v6 :: v5 :: v4 :: v3 :: v2 :: v1 :: .ref a :: st) G h (0 + kc) (0 + ks) Q := ev_invV0 (As := [v1, v2, v3, v4, v5, v6]) hd hn hk hst ha hz hc rfl hR (Nat.le_of_ble_eq_true hw) hM (fun v G' h' hq _ => by
    obtain ⟨rfl, rfl, rfl⟩ := hq
    exact kk)
  rw [Nat.zero_add, Nat.zero_add] at h0
  exact h0
theorem ev_V6U (hd : ev_at mi pc = some (.invokevirtual ix, nx, tg)) (hn : nx = pc + 3) (hk : ev_lk mi.1.cls ix ce 6) (hst : Cond.instanceMethod ce.1 ∈ gwl ∧ Cond.selects ce.1.cls ce.1 ce.1 ∈ gwl) (ha : Nat.blt 0 a = true) (hz : ev_sh G a = some (.inl c)) (hc : (vwCl[c]?).map (fun q => q.1) = some ce.1.cls) (hR : ev_room mi ce) (hw : Nat.ble ((st.map fun v => v.category).sum) 8 = true) (hM : EvU ce (.ref a :: [v1, v2, v3, v4, v5, v6]) G h h1) (kk : EvQ mi nx lo st G h1 kc ks Q) : EvQ mi pc lo (v6 :: v5 :: v4 :: v3 :: v2 :: v1 :: .ref a :: st) G h kc ks Q := by
  have h0 : EvQ mi pc lo (v6 :: v5 :: v4 :: v3 :: v2 :: v1 :: .ref a :: st) G h (0 + kc) (0 + ks) Q := ev_invV0 (As := [v1, v2, v3, v4, v5, v6]) hd hn hk hst ha hz hc rfl hR (Nat.le_of_ble_eq_true hw) hM (fun v G' h' hq _ => by
    obtain ⟨rfl, rfl, rfl⟩ := hq
    exact kk)
  rw [Nat.zero_add, Nat.zero_add] at h0
  exact h0
theorem ev_SN6D (hd : ev_at mi pc = some (.invokestatic ix, nx, tg)) (hn : nx = pc + 3) (hk : ev_ln mi.1.cls ix ce 6) (hst : Cond.static ce.1 ∈ gwl) (hR : ev_room mi ce) (hw : Nat.ble ((st.map fun v => v.category).sum) 8 = true) (hM : EvD ce [v1, v2, v3, v4, v5, v6] G h r h1) (kk : EvQ mi nx lo (.int r :: st) G h1 kc ks Q) : EvQ mi pc lo (v6 :: v5 :: v4 :: v3 :: v2 :: v1 :: st) G h kc ks Q := by
  have h0 : EvQ mi pc lo (v6 :: v5 :: v4 :: v3 :: v2 :: v1 :: st) G h (0 + kc) (0 + ks) Q := ev_invSN0 (As := [v1, v2, v3, v4, v5, v6]) hd hn hk hst rfl hR (Nat.le_of_ble_eq_true hw) hM (fun v G' h' hq _ => by
    obtain ⟨rfl, rfl, rfl⟩ := hq
    exact kk)
  rw [Nat.zero_add, Nat.zero_add] at h0
  exact h0
theorem ev_SN6U (hd : ev_at mi pc = some (.invokestatic ix, nx, tg)) (hn : nx = pc + 3) (hk : ev_ln mi.1.cls ix ce 6) (hst : Cond.static ce.1 ∈ gwl) (hR : ev_room mi ce) (hw : Nat.ble ((st.map fun v => v.category).sum) 8 = true) (hM : EvU ce [v1, v2, v3, v4, v5, v6] G h h1) (kk : EvQ mi nx lo st G h1 kc ks Q) : EvQ mi pc lo (v6 :: v5 :: v4 :: v3 :: v2 :: v1 :: st) G h kc ks Q := by
  have h0 : EvQ mi pc lo (v6 :: v5 :: v4 :: v3 :: v2 :: v1 :: st) G h (0 + kc) (0 + ks) Q := ev_invSN0 (As := [v1, v2, v3, v4, v5, v6]) hd hn hk hst rfl hR (Nat.le_of_ble_eq_true hw) hM (fun v G' h' hq _ => by
    obtain ⟨rfl, rfl, rfl⟩ := hq
    exact kk)
  rw [Nat.zero_add, Nat.zero_add] at h0
  exact h0
theorem ev_S7D (hd : ev_at mi pc = some (.invokestatic ix, nx, tg)) (hn : nx = pc + 3) (hk : ev_lk mi.1.cls ix ce 7) (hst : Cond.static ce.1 ∈ gwl) (hR : ev_room mi ce) (hw : Nat.ble ((st.map fun v => v.category).sum) 8 = true) (hM : EvD ce [v1, v2, v3, v4, v5, v6, v7] G h r h1) (kk : EvQ mi nx lo (.int r :: st) G h1 kc ks Q) : EvQ mi pc lo (v7 :: v6 :: v5 :: v4 :: v3 :: v2 :: v1 :: st) G h kc ks Q := by
  have h0 : EvQ mi pc lo (v7 :: v6 :: v5 :: v4 :: v3 :: v2 :: v1 :: st) G h (0 + kc) (0 + ks) Q := ev_invS0 (As := [v1, v2, v3, v4, v5, v6, v7]) hd hn hk hst rfl hR (Nat.le_of_ble_eq_true hw) hM (fun v G' h' hq _ => by
    obtain ⟨rfl, rfl, rfl⟩ := hq
    exact kk)
  rw [Nat.zero_add, Nat.zero_add] at h0
  exact h0
theorem ev_S7U (hd : ev_at mi pc = some (.invokestatic ix, nx, tg)) (hn : nx = pc + 3) (hk : ev_lk mi.1.cls ix ce 7) (hst : Cond.static ce.1 ∈ gwl) (hR : ev_room mi ce) (hw : Nat.ble ((st.map fun v => v.category).sum) 8 = true) (hM : EvU ce [v1, v2, v3, v4, v5, v6, v7] G h h1) (kk : EvQ mi nx lo st G h1 kc ks Q) : EvQ mi pc lo (v7 :: v6 :: v5 :: v4 :: v3 :: v2 :: v1 :: st) G h kc ks Q := by
  have h0 : EvQ mi pc lo (v7 :: v6 :: v5 :: v4 :: v3 :: v2 :: v1 :: st) G h (0 + kc) (0 + ks) Q := ev_invS0 (As := [v1, v2, v3, v4, v5, v6, v7]) hd hn hk hst rfl hR (Nat.le_of_ble_eq_true hw) hM (fun v G' h' hq _ => by
    obtain ⟨rfl, rfl, rfl⟩ := hq
    exact kk)
  rw [Nat.zero_add, Nat.zero_add] at h0
  exact h0
theorem ev_V7D (hd : ev_at mi pc = some (.invokevirtual ix, nx, tg)) (hn : nx = pc + 3) (hk : ev_lk mi.1.cls ix ce 7) (hst : Cond.instanceMethod ce.1 ∈ gwl ∧ Cond.selects ce.1.cls ce.1 ce.1 ∈ gwl) (ha : Nat.blt 0 a = true) (hz : ev_sh G a = some (.inl c)) (hc : (vwCl[c]?).map (fun q => q.1) = some ce.1.cls) (hR : ev_room mi ce) (hw : Nat.ble ((st.map fun v => v.category).sum) 8 = true) (hM : EvD ce (.ref a :: [v1, v2, v3, v4, v5, v6, v7]) G h r h1) (kk : EvQ mi nx lo (.int r :: st) G h1 kc ks Q) : EvQ mi pc lo (v7 :: v6 :: v5 :: v4 :: v3 :: v2 :: v1 :: .ref a :: st) G h kc ks Q := by
  have h0 : EvQ mi pc lo (v7 :: v6 :: v5 :: v4 :: v3 :: v2 :: v1 :: .ref a :: st) G h (0 + kc) (0 + ks) Q := ev_invV0 (As := [v1, v2, v3, v4, v5, v6, v7]) hd hn hk hst ha hz hc rfl hR (Nat.le_of_ble_eq_true hw) hM (fun v G' h' hq _ => by
    obtain ⟨rfl, rfl, rfl⟩ := hq
    exact kk)
  rw [Nat.zero_add, Nat.zero_add] at h0
  exact h0
theorem ev_V7U (hd : ev_at mi pc = some (.invokevirtual ix, nx, tg)) (hn : nx = pc + 3) (hk : ev_lk mi.1.cls ix ce 7) (hst : Cond.instanceMethod ce.1 ∈ gwl ∧ Cond.selects ce.1.cls ce.1 ce.1 ∈ gwl) (ha : Nat.blt 0 a = true) (hz : ev_sh G a = some (.inl c)) (hc : (vwCl[c]?).map (fun q => q.1) = some ce.1.cls) (hR : ev_room mi ce) (hw : Nat.ble ((st.map fun v => v.category).sum) 8 = true) (hM : EvU ce (.ref a :: [v1, v2, v3, v4, v5, v6, v7]) G h h1) (kk : EvQ mi nx lo st G h1 kc ks Q) : EvQ mi pc lo (v7 :: v6 :: v5 :: v4 :: v3 :: v2 :: v1 :: .ref a :: st) G h kc ks Q := by
  have h0 : EvQ mi pc lo (v7 :: v6 :: v5 :: v4 :: v3 :: v2 :: v1 :: .ref a :: st) G h (0 + kc) (0 + ks) Q := ev_invV0 (As := [v1, v2, v3, v4, v5, v6, v7]) hd hn hk hst ha hz hc rfl hR (Nat.le_of_ble_eq_true hw) hM (fun v G' h' hq _ => by
    obtain ⟨rfl, rfl, rfl⟩ := hq
    exact kk)
  rw [Nat.zero_add, Nat.zero_add] at h0
  exact h0
theorem ev_SN7D (hd : ev_at mi pc = some (.invokestatic ix, nx, tg)) (hn : nx = pc + 3) (hk : ev_ln mi.1.cls ix ce 7) (hst : Cond.static ce.1 ∈ gwl) (hR : ev_room mi ce) (hw : Nat.ble ((st.map fun v => v.category).sum) 8 = true) (hM : EvD ce [v1, v2, v3, v4, v5, v6, v7] G h r h1) (kk : EvQ mi nx lo (.int r :: st) G h1 kc ks Q) : EvQ mi pc lo (v7 :: v6 :: v5 :: v4 :: v3 :: v2 :: v1 :: st) G h kc ks Q := by
  have h0 : EvQ mi pc lo (v7 :: v6 :: v5 :: v4 :: v3 :: v2 :: v1 :: st) G h (0 + kc) (0 + ks) Q := ev_invSN0 (As := [v1, v2, v3, v4, v5, v6, v7]) hd hn hk hst rfl hR (Nat.le_of_ble_eq_true hw) hM (fun v G' h' hq _ => by
    obtain ⟨rfl, rfl, rfl⟩ := hq
    exact kk)
  rw [Nat.zero_add, Nat.zero_add] at h0
  exact h0
theorem ev_SN7U (hd : ev_at mi pc = some (.invokestatic ix, nx, tg)) (hn : nx = pc + 3) (hk : ev_ln mi.1.cls ix ce 7) (hst : Cond.static ce.1 ∈ gwl) (hR : ev_room mi ce) (hw : Nat.ble ((st.map fun v => v.category).sum) 8 = true) (hM : EvU ce [v1, v2, v3, v4, v5, v6, v7] G h h1) (kk : EvQ mi nx lo st G h1 kc ks Q) : EvQ mi pc lo (v7 :: v6 :: v5 :: v4 :: v3 :: v2 :: v1 :: st) G h kc ks Q := by
  have h0 : EvQ mi pc lo (v7 :: v6 :: v5 :: v4 :: v3 :: v2 :: v1 :: st) G h (0 + kc) (0 + ks) Q := ev_invSN0 (As := [v1, v2, v3, v4, v5, v6, v7]) hd hn hk hst rfl hR (Nat.le_of_ble_eq_true hw) hM (fun v G' h' hq _ => by
    obtain ⟨rfl, rfl, rfl⟩ := hq
    exact kk)
  rw [Nat.zero_add, Nat.zero_add] at h0
  exact h0
theorem ev_I0 {kc1 ks1 : Nat} {Q1 : Pst} (hd : ev_at mi pc = some (.invokespecial ix, nx, tg)) (hn : nx = pc + 3) (hk : ev_lk mi.1.cls ix ce 0) (hst : Cond.instanceMethod ce.1 ∈ gwl ∧ ce.1.name = "<init>" ∧ mi_R ce = none) (hR : ev_room mi ce) (hw : Nat.ble ((st.map fun v => v.category).sum) 8 = true) (hM : EvM ce [.ref a] G h kc1 ks1 Q1) (kk : ∀ G' h', Q1 none G' h' → EvQ mi nx lo st G' h' kc ks Q) : EvQ mi pc lo (.ref a :: st) G h (kc1 + kc) (ks1 + ks) Q :=
  ev_invI0 (As := []) hd hn hk hst rfl hR (Nat.le_of_ble_eq_true hw) hM (fun v G' h' hq ht => by
    rw [hst.2.2] at ht
    cases v with
    | none => exact kk G' h' hq
    | some w => cases ht)
theorem ev_IN0 {kc1 ks1 : Nat} {Q1 : Pst} (hd : ev_at mi pc = some (.invokespecial ix, nx, tg)) (hn : nx = pc + 3) (hk : ev_ln mi.1.cls ix ce 0) (hst : Cond.instanceMethod ce.1 ∈ gwl ∧ ce.1.name = "<init>" ∧ mi_R ce = none) (hR : ev_room mi ce) (hw : Nat.ble ((st.map fun v => v.category).sum) 8 = true) (hM : EvM ce [.ref a] G h kc1 ks1 Q1) (kk : ∀ G' h', Q1 none G' h' → EvQ mi nx lo st G' h' kc ks Q) : EvQ mi pc lo (.ref a :: st) G h (kc1 + kc) (ks1 + ks) Q :=
  ev_invIN0 (As := []) hd hn hk hst rfl hR (Nat.le_of_ble_eq_true hw) hM (fun v G' h' hq ht => by
    rw [hst.2.2] at ht
    cases v with
    | none => exact kk G' h' hq
    | some w => cases ht)
end EVW
end
section
def z_in (v a b : Int64) : Int32 := if lg_cmp v a < 0 then 0 else if 0 < lg_cmp v b then 0 else 1
def z_wi (v a b : Int32) : Int32 := if v < a then 0 else if b < v then 0 else 1
def z_max (x y : Int32) : Int32 := if x < y then y else x
def z_min (x y : Int32) : Int32 := if y < x then y else x
def z_abs (x : Int32) : Int32 := if 0 ≤ x then x else -x
def z_fd (x y : Int32) : Int32 := if 0 ≤ x ^^^ y then x / y else if x / y * y = x then x / y else x / y - 1
def z_dn (x y : Int32) : Int32 := if 0 ≤ x - x / y * y then x / y else x / y - 1
def z_sz (x : Int32) : Int32 := if 0 ≤ x then x else -x

set_option maxRecDepth 100000 in
set_option maxHeartbeats 4000000 in
theorem c_isWithin (G : Geo) (h : Hp) (v a b : Int32) : EvD mi_X9_isWithin [.int v, .int a, .int b] G h (z_wi v a b) (h) := by
  refine EvD.of (lo := [some (.int v), some (.int a), some (.int b)]) pf_X9_isWithin ok_X9_isWithin rfl rfl ?_
  refine ev_iload_n rfl rfl rfl ?_
  refine ev_iload_n rfl rfl rfl ?_
  refine ev_icmp_gt rfl rfl (fun c_2 => ?_) (fun c_2 => ?_)
  · refine ev_iconst (v := 0) rfl rfl (by decide) ?_
    exact ev_iret rfl rfl rfl (⟨congrArg (fun z => some (Value.int z)) (by simp only [z_wi, if_pos c_2]), rfl, rfl⟩)
  · refine ev_iload_n rfl rfl rfl ?_
    refine ev_iload_n rfl rfl rfl ?_
    refine ev_icmp_gt rfl rfl (fun c_7 => ?_) (fun c_7 => ?_)
    · refine ev_iconst (v := 0) rfl rfl (by decide) ?_
      exact ev_iret rfl rfl rfl (⟨congrArg (fun z => some (Value.int z)) (by simp only [z_wi, if_neg c_2, if_pos c_7]), rfl, rfl⟩)
    · refine ev_iconst (v := 1) rfl rfl (by decide) ?_
      refine ev_goto rfl rfl ?_
      exact ev_iret rfl rfl rfl (⟨congrArg (fun z => some (Value.int z)) (by simp only [z_wi, if_neg c_2, if_neg c_7]), rfl, rfl⟩)

theorem z_wi_b (v a b : Int32) : narrow .boolean (.int (z_wi v a b)) = .int (z_wi v a b) := by
  unfold z_wi
  split
  · rfl
  · split <;> rfl
theorem z_in_b (v a b : Int64) : narrow .boolean (.int (z_in v a b)) = .int (z_in v a b) := by
  unfold z_in
  split
  · rfl
  · split <;> rfl

set_option maxRecDepth 100000 in
set_option maxHeartbeats 4000000 in
theorem c_in (G : Geo) (h : Hp) (v a b : Int64) : EvD mi_X10_in [.long v, .long a, .long b] G h (z_in v a b) (h) := by
  refine EvD.of (lo := [some (.long v), none, some (.long a), none, some (.long b), none]) pf_X10_in ok_X10_in rfl rfl ?_
  refine ev_lload_n rfl rfl rfl ?_
  refine ev_lload_n rfl rfl rfl ?_
  refine ev_lcmp rfl rfl ?_
  refine ev_if_lt rfl rfl (fun c_3 => ?_) (fun c_3 => ?_)
  · refine ev_iconst (v := 0) rfl rfl (by decide) ?_
    exact ev_iret rfl rfl rfl (⟨congrArg (fun z => some (Value.int z)) (by simp only [z_in, if_pos c_3]), rfl, rfl⟩)
  · refine ev_lload_n rfl rfl rfl ?_
    refine ev_lload rfl rfl rfl ?_
    refine ev_lcmp rfl rfl ?_
    refine ev_if_gt rfl rfl (fun c_10 => ?_) (fun c_10 => ?_)
    · refine ev_iconst (v := 0) rfl rfl (by decide) ?_
      exact ev_iret rfl rfl rfl (⟨congrArg (fun z => some (Value.int z)) (by simp only [z_in, if_neg c_3, if_pos c_10]), rfl, rfl⟩)
    · refine ev_iconst (v := 1) rfl rfl (by decide) ?_
      refine ev_goto rfl rfl ?_
      exact ev_iret rfl rfl rfl (⟨congrArg (fun z => some (Value.int z)) (by simp only [z_in, if_neg c_3, if_neg c_10]), rfl, rfl⟩)

set_option maxRecDepth 100000 in
set_option maxHeartbeats 4000000 in
theorem c_max (G : Geo) (h : Hp) (x y : Int32) : EvD mi_J9_max_7cf53 [.int x, .int y] G h (z_max x y) (h) := by
  refine EvD.of (lo := [some (.int x), some (.int y)]) pf_J9_max_7cf53 ok_J9_max_7cf53 rfl rfl ?_
  refine ev_iload_n rfl rfl rfl ?_
  refine ev_iload_n rfl rfl rfl ?_
  refine ev_icmp_lt rfl rfl (fun c_2 => ?_) (fun c_2 => ?_)
  · refine ev_iload_n rfl rfl rfl ?_
    exact ev_iret rfl rfl rfl (⟨congrArg (fun z => some (Value.int z)) (by simp only [z_max, if_pos c_2]), rfl, rfl⟩)
  · refine ev_iload_n rfl rfl rfl ?_
    refine ev_goto rfl rfl ?_
    exact ev_iret rfl rfl rfl (⟨congrArg (fun z => some (Value.int z)) (by simp only [z_max, if_neg c_2]), rfl, rfl⟩)

set_option maxRecDepth 100000 in
set_option maxHeartbeats 4000000 in
theorem c_min (G : Geo) (h : Hp) (x y : Int32) : EvD mi_J9_min_7cf53 [.int x, .int y] G h (z_min x y) (h) := by
  refine EvD.of (lo := [some (.int x), some (.int y)]) pf_J9_min_7cf53 ok_J9_min_7cf53 rfl rfl ?_
  refine ev_iload_n rfl rfl rfl ?_
  refine ev_iload_n rfl rfl rfl ?_
  refine ev_icmp_gt rfl rfl (fun c_2 => ?_) (fun c_2 => ?_)
  · refine ev_iload_n rfl rfl rfl ?_
    exact ev_iret rfl rfl rfl (⟨congrArg (fun z => some (Value.int z)) (by simp only [z_min, if_pos c_2]), rfl, rfl⟩)
  · refine ev_iload_n rfl rfl rfl ?_
    refine ev_goto rfl rfl ?_
    exact ev_iret rfl rfl rfl (⟨congrArg (fun z => some (Value.int z)) (by simp only [z_min, if_neg c_2]), rfl, rfl⟩)

set_option maxRecDepth 100000 in
set_option maxHeartbeats 4000000 in
theorem c_abs (G : Geo) (h : Hp) (x : Int32) : EvD mi_J9_abs_0f7a4 [.int x] G h (z_abs x) (h) := by
  refine EvD.of (lo := [some (.int x)]) pf_J9_abs_0f7a4 ok_J9_abs_0f7a4 rfl rfl ?_
  refine ev_iload_n rfl rfl rfl ?_
  refine ev_if_ge rfl rfl (fun c_1 => ?_) (fun c_1 => ?_)
  · refine ev_iload_n rfl rfl rfl ?_
    exact ev_iret rfl rfl rfl (⟨congrArg (fun z => some (Value.int z)) (by simp only [z_abs, if_pos c_1]), rfl, rfl⟩)
  · refine ev_iload_n rfl rfl rfl ?_
    refine ev_ineg rfl rfl ?_
    refine ev_goto rfl rfl ?_
    exact ev_iret rfl rfl rfl (⟨congrArg (fun z => some (Value.int z)) (by simp only [z_abs, if_neg c_1]), rfl, rfl⟩)

set_option maxRecDepth 100000 in
set_option maxHeartbeats 4000000 in
theorem c_floorDiv (G : Geo) (h : Hp) (x y : Int32) (hy : ¬ y = 0) : EvD mi_J9_floorDiv_7cf53 [.int x, .int y] G h (z_fd x y) (h) := by
  refine EvD.of (lo := [some (.int x), some (.int y), none]) pf_J9_floorDiv_7cf53 ok_J9_floorDiv_7cf53 rfl rfl ?_
  refine ev_iload_n rfl rfl rfl ?_
  refine ev_iload_n rfl rfl rfl ?_
  refine ev_idiv rfl rfl hy ?_
  refine ev_istore_n rfl rfl rfl rfl ?_
  dsimp only [List.set]
  refine ev_iload_n rfl rfl rfl ?_
  refine ev_iload_n rfl rfl rfl ?_
  refine ev_ixor rfl rfl ?_
  refine ev_if_ge rfl rfl (fun c_7 => ?_) (fun c_7 => ?_)
  · refine ev_iload_n rfl rfl rfl ?_
    exact ev_iret rfl rfl rfl (⟨congrArg (fun z => some (Value.int z)) (by simp only [z_fd, if_pos c_7]), rfl, rfl⟩)
  · refine ev_iload_n rfl rfl rfl ?_
    refine ev_iload_n rfl rfl rfl ?_
    refine ev_imul rfl rfl ?_
    refine ev_iload_n rfl rfl rfl ?_
    refine ev_icmp_eq rfl rfl (fun c_14 => ?_) (fun c_14 => ?_)
    · refine ev_iload_n rfl rfl rfl ?_
      exact ev_iret rfl rfl rfl (⟨congrArg (fun z => some (Value.int z)) (by simp only [z_fd, if_neg c_7, if_pos c_14]), rfl, rfl⟩)
    · refine ev_iload_n rfl rfl rfl ?_
      refine ev_iconst (v := 1) rfl rfl (by decide) ?_
      refine ev_isub rfl rfl ?_
      exact ev_iret rfl rfl rfl (⟨congrArg (fun z => some (Value.int z)) (by simp only [z_fd, if_neg c_7, if_neg c_14]), rfl, rfl⟩)

set_option maxRecDepth 100000 in
set_option maxHeartbeats 4000000 in
theorem c_down (G : Geo) (h : Hp) (x y : Int32) (hy : ¬ y = 0) : EvD mi_X10_down [.int x, .int y] G h (z_dn x y) (h) := by
  refine EvD.of (lo := [some (.int x), some (.int y), none]) pf_X10_down ok_X10_down rfl rfl ?_
  refine ev_iload_n rfl rfl rfl ?_
  refine ev_iload_n rfl rfl rfl ?_
  refine ev_idiv rfl rfl hy ?_
  refine ev_istore_n rfl rfl rfl rfl ?_
  dsimp only [List.set]
  refine ev_iload_n rfl rfl rfl ?_
  refine ev_iload_n rfl rfl rfl ?_
  refine ev_irem rfl rfl hy ?_
  refine ev_if_ge rfl rfl (fun c_7 => ?_) (fun c_7 => ?_)
  · refine ev_iload_n rfl rfl rfl ?_
    exact ev_iret rfl rfl rfl (⟨congrArg (fun z => some (Value.int z)) (by simp only [z_dn, if_pos c_7]), rfl, rfl⟩)
  · refine ev_iload_n rfl rfl rfl ?_
    refine ev_iconst (v := 1) rfl rfl (by decide) ?_
    refine ev_isub rfl rfl ?_
    refine ev_goto rfl rfl ?_
    exact ev_iret rfl rfl rfl (⟨congrArg (fun z => some (Value.int z)) (by simp only [z_dn, if_neg c_7]), rfl, rfl⟩)

set_option maxRecDepth 100000 in
set_option maxHeartbeats 4000000 in
theorem c_size (G : Geo) (h : Hp) (x : Int32) : EvD mi_X10_size [.int x] G h (z_sz x) (h) := by
  refine EvD.of (lo := [some (.int x)]) pf_X10_size ok_X10_size rfl rfl ?_
  refine ev_iload_n rfl rfl rfl ?_
  refine ev_if_ge rfl rfl (fun c_1 => ?_) (fun c_1 => ?_)
  · refine ev_iload_n rfl rfl rfl ?_
    exact ev_iret rfl rfl rfl (⟨congrArg (fun z => some (Value.int z)) (by simp only [z_sz, if_pos c_1]), rfl, rfl⟩)
  · refine ev_iload_n rfl rfl rfl ?_
    refine ev_ineg rfl rfl ?_
    refine ev_goto rfl rfl ?_
    exact ev_iret rfl rfl rfl (⟨congrArg (fun z => some (Value.int z)) (by simp only [z_sz, if_neg c_1]), rfl, rfl⟩)
end
section
def ev_Z (n : Nat) (h : Hp) : Prop := ∀ i j, n ≤ i → h i j = 0
theorem ev_Z.set {n : Nat} {h : Hp} {a k : Nat} {x : Int32} (hz : ev_Z n h) (ha : Nat.blt a n = true) : ev_Z n (ev_set h a k x) := fun i j hi => by
  have := Nat.le_of_ble_eq_true ha
  rw [ev_set_ne (by omega)]
  exact hz i j hi
theorem ev_Z.up {n m : Nat} {h : Hp} (hz : ev_Z n h) (hm : Nat.ble n m = true) : ev_Z m h := fun i j hi => hz i j (Nat.le_trans (Nat.le_of_ble_eq_true hm) hi)
theorem ev_Z.at {n : Nat} {h : Hp} (hz : ev_Z n h) (i j : Nat) (hi : Nat.ble n i = true) : h i j = 0 := hz i j (Nat.le_of_ble_eq_true hi)
theorem ev_set_same {h : Hp} {a k : Nat} {x : Int32} (e : h a k = x) : ev_set h a k x = h := by
  funext i j
  unfold ev_set
  by_cases q : i = a ∧ j = k
  · rw [if_pos q, q.1, q.2, e]
  · rw [if_neg q]
theorem EvQ.geo {mi : MI} {pc : Nat} {lo : List (Option Value)} {st : List Value} {G : Geo} {h : Hp} {kc ks : Nat} {Q : Pst} (G' : Geo) (e : G = G') (k : EvQ mi pc lo st G' h kc ks Q) : EvQ mi pc lo st G h kc ks Q := by rw [e]; exact k
theorem EvQ.hp {mi : MI} {pc : Nat} {lo : List (Option Value)} {st : List Value} {G : Geo} {h : Hp} {kc ks : Nat} {Q : Pst} (h' : Hp) (e : h = h') (k : EvQ mi pc lo st G h' kc ks Q) : EvQ mi pc lo st G h kc ks Q := by rw [e]; exact k
theorem EvQ.cs {mi : MI} {pc : Nat} {lo : List (Option Value)} {st : List Value} {G : Geo} {h : Hp} {kc ks : Nat} {Q : Pst} (kc' ks' : Nat) (e1 : kc = kc') (e2 : ks = ks') (k : EvQ mi pc lo st G h kc' ks' Q) : EvQ mi pc lo st G h kc ks Q := by rw [e1, e2]; exact k

def h_boil (h : Hp) (a : Nat) : Hp := ev_set (ev_set (ev_set (ev_set h a 0 100) a 1 1000) a 2 3) a 3 150
set_option maxRecDepth 100000 in
set_option maxHeartbeats 4000000 in
theorem c_Boiler_init (G : Geo) (h : Hp) (a : Nat) (ha : Nat.blt 0 a = true) (hz : ev_sh G a = some (.inl 1)) (h0 : h a 4 = 0) : EvU mi_X1_init [.ref a] G h (h_boil h a) := by
  refine EvU.of (lo := [some (.ref a)]) pf_X1_init ok_X1_init rfl rfl ?_
  refine ev_aload_n rfl rfl rfl ?_
  refine ev_obj rfl rfl oi_X1_1 oi_i oi_c rfl rfl ?_
  refine ev_aload_n rfl rfl rfl ?_
  refine ev_bipush (v := 100) rfl rfl (by decide) ?_
  refine ev_putI rfl rfl fl_X1_7 rfl rfl ha hz rfl ?_
  refine ev_aload_n rfl rfl rfl ?_
  refine ev_sipush (v := 1000) rfl rfl (by decide) ?_
  refine ev_putI rfl rfl fl_X1_13 rfl rfl ha hz rfl ?_
  refine ev_aload_n rfl rfl rfl ?_
  refine ev_iconst (v := 3) rfl rfl (by decide) ?_
  refine ev_putI rfl rfl fl_X1_16 rfl rfl ha hz rfl ?_
  refine ev_aload_n rfl rfl rfl ?_
  refine ev_sipush (v := 150) rfl rfl (by decide) ?_
  refine ev_putI rfl rfl fl_X1_19 rfl rfl ha hz rfl ?_
  refine ev_aload_n rfl rfl rfl ?_
  refine ev_iconst (v := 0) rfl rfl (by decide) ?_
  refine ev_putI rfl rfl fl_X1_22 rfl rfl ha hz rfl ?_
  exact ev_vret rfl rfl trivial (⟨rfl, rfl, ev_set_same (by simp [ev_set, h0])⟩)

def gb_4 (L : Nat) : Geo := (.inr (.int, L), []) :: [(.inl 9, [some 2, some 3, none, none, none, none, none, none, none, none]), (.inl 1, [none, none, none, none, none]), (.inl 1, [none, none, none, none, none]), (.inl 8, [none, none, none, none, none, none, none, none])]
def ga_4 (L : Nat) : Geo := (.inr (.int, L), []) :: [(.inl 9, [some 2, some 3, none, none, none, none, none, none, none, none]), (.inl 1, [none, none, none, none, none]), (.inl 1, [none, none, none, none, none]), (.inl 8, [some 5, some 6, some 7, some 8, some 9, some 10, none, none]), (.inr (.int, 12), []), (.inr (.int, 12), []), (.inr (.int, 12), []), (.inr (.boolean, 12), []), (.inr (.int, 12), []), (.inr (.int, 12), [])]
def gb_11 (L : Nat) : Geo := (.inr (.int, L), []) :: [(.inl 9, [some 2, some 3, some 4, none, none, none, none, none, none, none]), (.inl 1, [none, none, none, none, none]), (.inl 1, [none, none, none, none, none]), (.inl 8, [some 5, some 6, some 7, some 8, some 9, some 10, none, none]), (.inr (.int, 12), []), (.inr (.int, 12), []), (.inr (.int, 12), []), (.inr (.boolean, 12), []), (.inr (.int, 12), []), (.inr (.int, 12), []), (.inl 0, [none, none, none, none])]
def ga_11 (L : Nat) : Geo := (.inr (.int, L), []) :: [(.inl 9, [some 2, some 3, some 4, none, none, none, none, none, none, none]), (.inl 1, [none, none, none, none, none]), (.inl 1, [none, none, none, none, none]), (.inl 8, [some 5, some 6, some 7, some 8, some 9, some 10, none, none]), (.inr (.int, 12), []), (.inr (.int, 12), []), (.inr (.int, 12), []), (.inr (.boolean, 12), []), (.inr (.int, 12), []), (.inr (.int, 12), []), (.inl 0, [some 12, none, none, none]), (.inr (.array .int, 10), [some 13, some 14, some 15, some 16, some 17, some 18, some 19, some 20, some 21, some 22]), (.inr (.int, 30), []), (.inr (.int, 30), []), (.inr (.int, 30), []), (.inr (.int, 30), []), (.inr (.int, 30), []), (.inr (.int, 30), []), (.inr (.int, 30), []), (.inr (.int, 30), []), (.inr (.int, 30), []), (.inr (.int, 30), [])]
def gb_23 (L : Nat) : Geo := (.inr (.int, L), []) :: [(.inl 9, [some 2, some 3, some 4, some 11, none, none, none, none, none, none]), (.inl 1, [none, none, none, none, none]), (.inl 1, [none, none, none, none, none]), (.inl 8, [some 5, some 6, some 7, some 8, some 9, some 10, none, none]), (.inr (.int, 12), []), (.inr (.int, 12), []), (.inr (.int, 12), []), (.inr (.boolean, 12), []), (.inr (.int, 12), []), (.inr (.int, 12), []), (.inl 0, [some 12, none, none, none]), (.inr (.array .int, 10), [some 13, some 14, some 15, some 16, some 17, some 18, some 19, some 20, some 21, some 22]), (.inr (.int, 30), []), (.inr (.int, 30), []), (.inr (.int, 30), []), (.inr (.int, 30), []), (.inr (.int, 30), []), (.inr (.int, 30), []), (.inr (.int, 30), []), (.inr (.int, 30), []), (.inr (.int, 30), []), (.inr (.int, 30), []), (.inl 2, [none, none, none, none, none, none, none, none, none, none, none, none, none, none])]
def ga_23 (L : Nat) : Geo := (.inr (.int, L), []) :: [(.inl 9, [some 2, some 3, some 4, some 11, none, none, none, none, none, none]), (.inl 1, [none, none, none, none, none]), (.inl 1, [none, none, none, none, none]), (.inl 8, [some 5, some 6, some 7, some 8, some 9, some 10, none, none]), (.inr (.int, 12), []), (.inr (.int, 12), []), (.inr (.int, 12), []), (.inr (.boolean, 12), []), (.inr (.int, 12), []), (.inr (.int, 12), []), (.inl 0, [some 12, none, none, none]), (.inr (.array .int, 10), [some 13, some 14, some 15, some 16, some 17, some 18, some 19, some 20, some 21, some 22]), (.inr (.int, 30), []), (.inr (.int, 30), []), (.inr (.int, 30), []), (.inr (.int, 30), []), (.inr (.int, 30), []), (.inr (.int, 30), []), (.inr (.int, 30), []), (.inr (.int, 30), []), (.inr (.int, 30), []), (.inr (.int, 30), []), (.inl 2, [some 24, none, none, none, none, none, none, none, none, some 25, none, some 26, some 27, none]), (.inr (.byte, 160), []), (.inr (.int, 24), []), (.inr (.int, 4), []), (.inr (.int, 4), [])]
def gb_28 (L : Nat) : Geo := (.inr (.int, L), []) :: [(.inl 9, [some 2, some 3, some 4, some 11, some 23, none, none, none, none, none]), (.inl 1, [none, none, none, none, none]), (.inl 1, [none, none, none, none, none]), (.inl 8, [some 5, some 6, some 7, some 8, some 9, some 10, none, none]), (.inr (.int, 12), []), (.inr (.int, 12), []), (.inr (.int, 12), []), (.inr (.boolean, 12), []), (.inr (.int, 12), []), (.inr (.int, 12), []), (.inl 0, [some 12, none, none, none]), (.inr (.array .int, 10), [some 13, some 14, some 15, some 16, some 17, some 18, some 19, some 20, some 21, some 22]), (.inr (.int, 30), []), (.inr (.int, 30), []), (.inr (.int, 30), []), (.inr (.int, 30), []), (.inr (.int, 30), []), (.inr (.int, 30), []), (.inr (.int, 30), []), (.inr (.int, 30), []), (.inr (.int, 30), []), (.inr (.int, 30), []), (.inl 2, [some 24, none, none, none, none, none, none, none, none, some 25, none, some 26, some 27, none]), (.inr (.byte, 160), []), (.inr (.int, 24), []), (.inr (.int, 4), []), (.inr (.int, 4), []), (.inl 7, [none, none, none])]
def ga_28 (L : Nat) : Geo := (.inr (.int, L), []) :: [(.inl 9, [some 2, some 3, some 4, some 11, some 23, none, none, none, none, none]), (.inl 1, [none, none, none, none, none]), (.inl 1, [none, none, none, none, none]), (.inl 8, [some 5, some 6, some 7, some 8, some 9, some 10, none, none]), (.inr (.int, 12), []), (.inr (.int, 12), []), (.inr (.int, 12), []), (.inr (.boolean, 12), []), (.inr (.int, 12), []), (.inr (.int, 12), []), (.inl 0, [some 12, none, none, none]), (.inr (.array .int, 10), [some 13, some 14, some 15, some 16, some 17, some 18, some 19, some 20, some 21, some 22]), (.inr (.int, 30), []), (.inr (.int, 30), []), (.inr (.int, 30), []), (.inr (.int, 30), []), (.inr (.int, 30), []), (.inr (.int, 30), []), (.inr (.int, 30), []), (.inr (.int, 30), []), (.inr (.int, 30), []), (.inr (.int, 30), []), (.inl 2, [some 24, none, none, none, none, none, none, none, none, some 25, none, some 26, some 27, none]), (.inr (.byte, 160), []), (.inr (.int, 24), []), (.inr (.int, 4), []), (.inr (.int, 4), []), (.inl 7, [some 29, some 36, none]), (.inr (.array .int, 6), [some 30, some 31, some 32, some 33, some 34, some 35]), (.inr (.int, 24), []), (.inr (.int, 24), []), (.inr (.int, 24), []), (.inr (.int, 24), []), (.inr (.int, 24), []), (.inr (.int, 24), []), (.inr (.int, 6), [])]
def gb_37 (L : Nat) : Geo := (.inr (.int, L), []) :: [(.inl 9, [some 2, some 3, some 4, some 11, some 23, some 28, none, none, none, none]), (.inl 1, [none, none, none, none, none]), (.inl 1, [none, none, none, none, none]), (.inl 8, [some 5, some 6, some 7, some 8, some 9, some 10, none, none]), (.inr (.int, 12), []), (.inr (.int, 12), []), (.inr (.int, 12), []), (.inr (.boolean, 12), []), (.inr (.int, 12), []), (.inr (.int, 12), []), (.inl 0, [some 12, none, none, none]), (.inr (.array .int, 10), [some 13, some 14, some 15, some 16, some 17, some 18, some 19, some 20, some 21, some 22]), (.inr (.int, 30), []), (.inr (.int, 30), []), (.inr (.int, 30), []), (.inr (.int, 30), []), (.inr (.int, 30), []), (.inr (.int, 30), []), (.inr (.int, 30), []), (.inr (.int, 30), []), (.inr (.int, 30), []), (.inr (.int, 30), []), (.inl 2, [some 24, none, none, none, none, none, none, none, none, some 25, none, some 26, some 27, none]), (.inr (.byte, 160), []), (.inr (.int, 24), []), (.inr (.int, 4), []), (.inr (.int, 4), []), (.inl 7, [some 29, some 36, none]), (.inr (.array .int, 6), [some 30, some 31, some 32, some 33, some 34, some 35]), (.inr (.int, 24), []), (.inr (.int, 24), []), (.inr (.int, 24), []), (.inr (.int, 24), []), (.inr (.int, 24), []), (.inr (.int, 24), []), (.inr (.int, 6), []), (.inl 4, [none, none, none, none, none, none, none, none, none, none, none, none, none, none, none, none])]
def ga_37 (L : Nat) : Geo := (.inr (.int, L), []) :: [(.inl 9, [some 2, some 3, some 4, some 11, some 23, some 28, none, none, none, none]), (.inl 1, [none, none, none, none, none]), (.inl 1, [none, none, none, none, none]), (.inl 8, [some 5, some 6, some 7, some 8, some 9, some 10, none, none]), (.inr (.int, 12), []), (.inr (.int, 12), []), (.inr (.int, 12), []), (.inr (.boolean, 12), []), (.inr (.int, 12), []), (.inr (.int, 12), []), (.inl 0, [some 12, none, none, none]), (.inr (.array .int, 10), [some 13, some 14, some 15, some 16, some 17, some 18, some 19, some 20, some 21, some 22]), (.inr (.int, 30), []), (.inr (.int, 30), []), (.inr (.int, 30), []), (.inr (.int, 30), []), (.inr (.int, 30), []), (.inr (.int, 30), []), (.inr (.int, 30), []), (.inr (.int, 30), []), (.inr (.int, 30), []), (.inr (.int, 30), []), (.inl 2, [some 24, none, none, none, none, none, none, none, none, some 25, none, some 26, some 27, none]), (.inr (.byte, 160), []), (.inr (.int, 24), []), (.inr (.int, 4), []), (.inr (.int, 4), []), (.inl 7, [some 29, some 36, none]), (.inr (.array .int, 6), [some 30, some 31, some 32, some 33, some 34, some 35]), (.inr (.int, 24), []), (.inr (.int, 24), []), (.inr (.int, 24), []), (.inr (.int, 24), []), (.inr (.int, 24), []), (.inr (.int, 24), []), (.inr (.int, 6), []), (.inl 4, [none, some 38, some 39, none, none, some 40, some 41, none, none, some 42, some 43, none, none, none, some 44, none]), (.inr (.int, 201), []), (.inr (.int, 24), []), (.inr (.int, 32), []), (.inr (.int, 32), []), (.inr (.int, 24), []), (.inr (.int, 24), []), (.inr (.int, 5), [])]
def gb_45 (L : Nat) : Geo := (.inr (.int, L), []) :: [(.inl 9, [some 2, some 3, some 4, some 11, some 23, some 28, some 37, none, none, none]), (.inl 1, [none, none, none, none, none]), (.inl 1, [none, none, none, none, none]), (.inl 8, [some 5, some 6, some 7, some 8, some 9, some 10, none, none]), (.inr (.int, 12), []), (.inr (.int, 12), []), (.inr (.int, 12), []), (.inr (.boolean, 12), []), (.inr (.int, 12), []), (.inr (.int, 12), []), (.inl 0, [some 12, none, none, none]), (.inr (.array .int, 10), [some 13, some 14, some 15, some 16, some 17, some 18, some 19, some 20, some 21, some 22]), (.inr (.int, 30), []), (.inr (.int, 30), []), (.inr (.int, 30), []), (.inr (.int, 30), []), (.inr (.int, 30), []), (.inr (.int, 30), []), (.inr (.int, 30), []), (.inr (.int, 30), []), (.inr (.int, 30), []), (.inr (.int, 30), []), (.inl 2, [some 24, none, none, none, none, none, none, none, none, some 25, none, some 26, some 27, none]), (.inr (.byte, 160), []), (.inr (.int, 24), []), (.inr (.int, 4), []), (.inr (.int, 4), []), (.inl 7, [some 29, some 36, none]), (.inr (.array .int, 6), [some 30, some 31, some 32, some 33, some 34, some 35]), (.inr (.int, 24), []), (.inr (.int, 24), []), (.inr (.int, 24), []), (.inr (.int, 24), []), (.inr (.int, 24), []), (.inr (.int, 24), []), (.inr (.int, 6), []), (.inl 4, [none, some 38, some 39, none, none, some 40, some 41, none, none, some 42, some 43, none, none, none, some 44, none]), (.inr (.int, 201), []), (.inr (.int, 24), []), (.inr (.int, 32), []), (.inr (.int, 32), []), (.inr (.int, 24), []), (.inr (.int, 24), []), (.inr (.int, 5), []), (.inl 6, [none, none, none, none, none, none, none, none])]
def ga_45 (L : Nat) : Geo := (.inr (.int, L), []) :: [(.inl 9, [some 2, some 3, some 4, some 11, some 23, some 28, some 37, none, none, none]), (.inl 1, [none, none, none, none, none]), (.inl 1, [none, none, none, none, none]), (.inl 8, [some 5, some 6, some 7, some 8, some 9, some 10, none, none]), (.inr (.int, 12), []), (.inr (.int, 12), []), (.inr (.int, 12), []), (.inr (.boolean, 12), []), (.inr (.int, 12), []), (.inr (.int, 12), []), (.inl 0, [some 12, none, none, none]), (.inr (.array .int, 10), [some 13, some 14, some 15, some 16, some 17, some 18, some 19, some 20, some 21, some 22]), (.inr (.int, 30), []), (.inr (.int, 30), []), (.inr (.int, 30), []), (.inr (.int, 30), []), (.inr (.int, 30), []), (.inr (.int, 30), []), (.inr (.int, 30), []), (.inr (.int, 30), []), (.inr (.int, 30), []), (.inr (.int, 30), []), (.inl 2, [some 24, none, none, none, none, none, none, none, none, some 25, none, some 26, some 27, none]), (.inr (.byte, 160), []), (.inr (.int, 24), []), (.inr (.int, 4), []), (.inr (.int, 4), []), (.inl 7, [some 29, some 36, none]), (.inr (.array .int, 6), [some 30, some 31, some 32, some 33, some 34, some 35]), (.inr (.int, 24), []), (.inr (.int, 24), []), (.inr (.int, 24), []), (.inr (.int, 24), []), (.inr (.int, 24), []), (.inr (.int, 24), []), (.inr (.int, 6), []), (.inl 4, [none, some 38, some 39, none, none, some 40, some 41, none, none, some 42, some 43, none, none, none, some 44, none]), (.inr (.int, 201), []), (.inr (.int, 24), []), (.inr (.int, 32), []), (.inr (.int, 32), []), (.inr (.int, 24), []), (.inr (.int, 24), []), (.inr (.int, 5), []), (.inl 6, [some 46, some 47, none, some 48, none, some 49, none, none]), (.inr (.int, 24), []), (.inr (.int, 24), []), (.inr (.int, 12), []), (.inr (.int, 12), [])]
def gb_50 (L : Nat) : Geo := (.inr (.int, L), []) :: [(.inl 9, [some 2, some 3, some 4, some 11, some 23, some 28, some 37, some 45, none, none]), (.inl 1, [none, none, none, none, none]), (.inl 1, [none, none, none, none, none]), (.inl 8, [some 5, some 6, some 7, some 8, some 9, some 10, none, none]), (.inr (.int, 12), []), (.inr (.int, 12), []), (.inr (.int, 12), []), (.inr (.boolean, 12), []), (.inr (.int, 12), []), (.inr (.int, 12), []), (.inl 0, [some 12, none, none, none]), (.inr (.array .int, 10), [some 13, some 14, some 15, some 16, some 17, some 18, some 19, some 20, some 21, some 22]), (.inr (.int, 30), []), (.inr (.int, 30), []), (.inr (.int, 30), []), (.inr (.int, 30), []), (.inr (.int, 30), []), (.inr (.int, 30), []), (.inr (.int, 30), []), (.inr (.int, 30), []), (.inr (.int, 30), []), (.inr (.int, 30), []), (.inl 2, [some 24, none, none, none, none, none, none, none, none, some 25, none, some 26, some 27, none]), (.inr (.byte, 160), []), (.inr (.int, 24), []), (.inr (.int, 4), []), (.inr (.int, 4), []), (.inl 7, [some 29, some 36, none]), (.inr (.array .int, 6), [some 30, some 31, some 32, some 33, some 34, some 35]), (.inr (.int, 24), []), (.inr (.int, 24), []), (.inr (.int, 24), []), (.inr (.int, 24), []), (.inr (.int, 24), []), (.inr (.int, 24), []), (.inr (.int, 6), []), (.inl 4, [none, some 38, some 39, none, none, some 40, some 41, none, none, some 42, some 43, none, none, none, some 44, none]), (.inr (.int, 201), []), (.inr (.int, 24), []), (.inr (.int, 32), []), (.inr (.int, 32), []), (.inr (.int, 24), []), (.inr (.int, 24), []), (.inr (.int, 5), []), (.inl 6, [some 46, some 47, none, some 48, none, some 49, none, none]), (.inr (.int, 24), []), (.inr (.int, 24), []), (.inr (.int, 12), []), (.inr (.int, 12), []), (.inl 3, [none, none, none, none, none, none, none, none, none, none, none])]
def ga_50 (L : Nat) : Geo := (.inr (.int, L), []) :: [(.inl 9, [some 2, some 3, some 4, some 11, some 23, some 28, some 37, some 45, none, none]), (.inl 1, [none, none, none, none, none]), (.inl 1, [none, none, none, none, none]), (.inl 8, [some 5, some 6, some 7, some 8, some 9, some 10, none, none]), (.inr (.int, 12), []), (.inr (.int, 12), []), (.inr (.int, 12), []), (.inr (.boolean, 12), []), (.inr (.int, 12), []), (.inr (.int, 12), []), (.inl 0, [some 12, none, none, none]), (.inr (.array .int, 10), [some 13, some 14, some 15, some 16, some 17, some 18, some 19, some 20, some 21, some 22]), (.inr (.int, 30), []), (.inr (.int, 30), []), (.inr (.int, 30), []), (.inr (.int, 30), []), (.inr (.int, 30), []), (.inr (.int, 30), []), (.inr (.int, 30), []), (.inr (.int, 30), []), (.inr (.int, 30), []), (.inr (.int, 30), []), (.inl 2, [some 24, none, none, none, none, none, none, none, none, some 25, none, some 26, some 27, none]), (.inr (.byte, 160), []), (.inr (.int, 24), []), (.inr (.int, 4), []), (.inr (.int, 4), []), (.inl 7, [some 29, some 36, none]), (.inr (.array .int, 6), [some 30, some 31, some 32, some 33, some 34, some 35]), (.inr (.int, 24), []), (.inr (.int, 24), []), (.inr (.int, 24), []), (.inr (.int, 24), []), (.inr (.int, 24), []), (.inr (.int, 24), []), (.inr (.int, 6), []), (.inl 4, [none, some 38, some 39, none, none, some 40, some 41, none, none, some 42, some 43, none, none, none, some 44, none]), (.inr (.int, 201), []), (.inr (.int, 24), []), (.inr (.int, 32), []), (.inr (.int, 32), []), (.inr (.int, 24), []), (.inr (.int, 24), []), (.inr (.int, 5), []), (.inl 6, [some 46, some 47, none, some 48, none, some 49, none, none]), (.inr (.int, 24), []), (.inr (.int, 24), []), (.inr (.int, 12), []), (.inr (.int, 12), []), (.inl 3, [some 51, some 52, none, some 53, some 54, none, none, none, none, none, none]), (.inr (.int, 4), []), (.inr (.int, 4), []), (.inr (.int, 6), []), (.inr (.int, 6), [])]
def gb_55 (L : Nat) : Geo := (.inr (.int, L), []) :: [(.inl 9, [some 2, some 3, some 4, some 11, some 23, some 28, some 37, some 45, some 50, none]), (.inl 1, [none, none, none, none, none]), (.inl 1, [none, none, none, none, none]), (.inl 8, [some 5, some 6, some 7, some 8, some 9, some 10, none, none]), (.inr (.int, 12), []), (.inr (.int, 12), []), (.inr (.int, 12), []), (.inr (.boolean, 12), []), (.inr (.int, 12), []), (.inr (.int, 12), []), (.inl 0, [some 12, none, none, none]), (.inr (.array .int, 10), [some 13, some 14, some 15, some 16, some 17, some 18, some 19, some 20, some 21, some 22]), (.inr (.int, 30), []), (.inr (.int, 30), []), (.inr (.int, 30), []), (.inr (.int, 30), []), (.inr (.int, 30), []), (.inr (.int, 30), []), (.inr (.int, 30), []), (.inr (.int, 30), []), (.inr (.int, 30), []), (.inr (.int, 30), []), (.inl 2, [some 24, none, none, none, none, none, none, none, none, some 25, none, some 26, some 27, none]), (.inr (.byte, 160), []), (.inr (.int, 24), []), (.inr (.int, 4), []), (.inr (.int, 4), []), (.inl 7, [some 29, some 36, none]), (.inr (.array .int, 6), [some 30, some 31, some 32, some 33, some 34, some 35]), (.inr (.int, 24), []), (.inr (.int, 24), []), (.inr (.int, 24), []), (.inr (.int, 24), []), (.inr (.int, 24), []), (.inr (.int, 24), []), (.inr (.int, 6), []), (.inl 4, [none, some 38, some 39, none, none, some 40, some 41, none, none, some 42, some 43, none, none, none, some 44, none]), (.inr (.int, 201), []), (.inr (.int, 24), []), (.inr (.int, 32), []), (.inr (.int, 32), []), (.inr (.int, 24), []), (.inr (.int, 24), []), (.inr (.int, 5), []), (.inl 6, [some 46, some 47, none, some 48, none, some 49, none, none]), (.inr (.int, 24), []), (.inr (.int, 24), []), (.inr (.int, 12), []), (.inr (.int, 12), []), (.inl 3, [some 51, some 52, none, some 53, some 54, none, none, none, none, none, none]), (.inr (.int, 4), []), (.inr (.int, 4), []), (.inr (.int, 6), []), (.inr (.int, 6), []), (.inl 5, [none, none, none])]
def ga_55 (L : Nat) : Geo := (.inr (.int, L), []) :: [(.inl 9, [some 2, some 3, some 4, some 11, some 23, some 28, some 37, some 45, some 50, none]), (.inl 1, [none, none, none, none, none]), (.inl 1, [none, none, none, none, none]), (.inl 8, [some 5, some 6, some 7, some 8, some 9, some 10, none, none]), (.inr (.int, 12), []), (.inr (.int, 12), []), (.inr (.int, 12), []), (.inr (.boolean, 12), []), (.inr (.int, 12), []), (.inr (.int, 12), []), (.inl 0, [some 12, none, none, none]), (.inr (.array .int, 10), [some 13, some 14, some 15, some 16, some 17, some 18, some 19, some 20, some 21, some 22]), (.inr (.int, 30), []), (.inr (.int, 30), []), (.inr (.int, 30), []), (.inr (.int, 30), []), (.inr (.int, 30), []), (.inr (.int, 30), []), (.inr (.int, 30), []), (.inr (.int, 30), []), (.inr (.int, 30), []), (.inr (.int, 30), []), (.inl 2, [some 24, none, none, none, none, none, none, none, none, some 25, none, some 26, some 27, none]), (.inr (.byte, 160), []), (.inr (.int, 24), []), (.inr (.int, 4), []), (.inr (.int, 4), []), (.inl 7, [some 29, some 36, none]), (.inr (.array .int, 6), [some 30, some 31, some 32, some 33, some 34, some 35]), (.inr (.int, 24), []), (.inr (.int, 24), []), (.inr (.int, 24), []), (.inr (.int, 24), []), (.inr (.int, 24), []), (.inr (.int, 24), []), (.inr (.int, 6), []), (.inl 4, [none, some 38, some 39, none, none, some 40, some 41, none, none, some 42, some 43, none, none, none, some 44, none]), (.inr (.int, 201), []), (.inr (.int, 24), []), (.inr (.int, 32), []), (.inr (.int, 32), []), (.inr (.int, 24), []), (.inr (.int, 24), []), (.inr (.int, 5), []), (.inl 6, [some 46, some 47, none, some 48, none, some 49, none, none]), (.inr (.int, 24), []), (.inr (.int, 24), []), (.inr (.int, 12), []), (.inr (.int, 12), []), (.inl 3, [some 51, some 52, none, some 53, some 54, none, none, none, none, none, none]), (.inr (.int, 4), []), (.inr (.int, 4), []), (.inr (.int, 6), []), (.inr (.int, 6), []), (.inl 5, [some 56, some 61, some 62]), (.inr (.array .int, 4), [some 57, some 58, some 59, some 60]), (.inr (.int, 60), []), (.inr (.int, 60), []), (.inr (.int, 60), []), (.inr (.int, 60), []), (.inr (.int, 4), []), (.inr (.int, 4), [])]
def gb_63 (L : Nat) : Geo := (.inr (.int, L), []) :: [(.inl 9, [some 2, some 3, some 4, some 11, some 23, some 28, some 37, some 45, some 50, some 55]), (.inl 1, [none, none, none, none, none]), (.inl 1, [none, none, none, none, none]), (.inl 8, [some 5, some 6, some 7, some 8, some 9, some 10, none, none]), (.inr (.int, 12), []), (.inr (.int, 12), []), (.inr (.int, 12), []), (.inr (.boolean, 12), []), (.inr (.int, 12), []), (.inr (.int, 12), []), (.inl 0, [some 12, none, none, none]), (.inr (.array .int, 10), [some 13, some 14, some 15, some 16, some 17, some 18, some 19, some 20, some 21, some 22]), (.inr (.int, 30), []), (.inr (.int, 30), []), (.inr (.int, 30), []), (.inr (.int, 30), []), (.inr (.int, 30), []), (.inr (.int, 30), []), (.inr (.int, 30), []), (.inr (.int, 30), []), (.inr (.int, 30), []), (.inr (.int, 30), []), (.inl 2, [some 24, none, none, none, none, none, none, none, none, some 25, none, some 26, some 27, none]), (.inr (.byte, 160), []), (.inr (.int, 24), []), (.inr (.int, 4), []), (.inr (.int, 4), []), (.inl 7, [some 29, some 36, none]), (.inr (.array .int, 6), [some 30, some 31, some 32, some 33, some 34, some 35]), (.inr (.int, 24), []), (.inr (.int, 24), []), (.inr (.int, 24), []), (.inr (.int, 24), []), (.inr (.int, 24), []), (.inr (.int, 24), []), (.inr (.int, 6), []), (.inl 4, [none, some 38, some 39, none, none, some 40, some 41, none, none, some 42, some 43, none, none, none, some 44, none]), (.inr (.int, 201), []), (.inr (.int, 24), []), (.inr (.int, 32), []), (.inr (.int, 32), []), (.inr (.int, 24), []), (.inr (.int, 24), []), (.inr (.int, 5), []), (.inl 6, [some 46, some 47, none, some 48, none, some 49, none, none]), (.inr (.int, 24), []), (.inr (.int, 24), []), (.inr (.int, 12), []), (.inr (.int, 12), []), (.inl 3, [some 51, some 52, none, some 53, some 54, none, none, none, none, none, none]), (.inr (.int, 4), []), (.inr (.int, 4), []), (.inr (.int, 6), []), (.inr (.int, 6), []), (.inl 5, [some 56, some 61, some 62]), (.inr (.array .int, 4), [some 57, some 58, some 59, some 60]), (.inr (.int, 60), []), (.inr (.int, 60), []), (.inr (.int, 60), []), (.inr (.int, 60), []), (.inr (.int, 4), []), (.inr (.int, 4), []), (.inl 10, [none, none, none, none, none, none, none, none, none, none, none, none, none, none, none, none, none, none, none, none, none, none, none, none, none, none, none, none, none, none, none, none, none, none, none, none, none, none, none, none, none, none, none, none, none, none, none, none, none, none, none, none, none, none, none])]
def ga_63 (L : Nat) : Geo := (.inr (.int, L), []) :: [(.inl 9, [some 2, some 3, some 4, some 11, some 23, some 28, some 37, some 45, some 50, some 55]), (.inl 1, [none, none, none, none, none]), (.inl 1, [none, none, none, none, none]), (.inl 8, [some 5, some 6, some 7, some 8, some 9, some 10, none, none]), (.inr (.int, 12), []), (.inr (.int, 12), []), (.inr (.int, 12), []), (.inr (.boolean, 12), []), (.inr (.int, 12), []), (.inr (.int, 12), []), (.inl 0, [some 12, none, none, none]), (.inr (.array .int, 10), [some 13, some 14, some 15, some 16, some 17, some 18, some 19, some 20, some 21, some 22]), (.inr (.int, 30), []), (.inr (.int, 30), []), (.inr (.int, 30), []), (.inr (.int, 30), []), (.inr (.int, 30), []), (.inr (.int, 30), []), (.inr (.int, 30), []), (.inr (.int, 30), []), (.inr (.int, 30), []), (.inr (.int, 30), []), (.inl 2, [some 24, none, none, none, none, none, none, none, none, some 25, none, some 26, some 27, none]), (.inr (.byte, 160), []), (.inr (.int, 24), []), (.inr (.int, 4), []), (.inr (.int, 4), []), (.inl 7, [some 29, some 36, none]), (.inr (.array .int, 6), [some 30, some 31, some 32, some 33, some 34, some 35]), (.inr (.int, 24), []), (.inr (.int, 24), []), (.inr (.int, 24), []), (.inr (.int, 24), []), (.inr (.int, 24), []), (.inr (.int, 24), []), (.inr (.int, 6), []), (.inl 4, [none, some 38, some 39, none, none, some 40, some 41, none, none, some 42, some 43, none, none, none, some 44, none]), (.inr (.int, 201), []), (.inr (.int, 24), []), (.inr (.int, 32), []), (.inr (.int, 32), []), (.inr (.int, 24), []), (.inr (.int, 24), []), (.inr (.int, 5), []), (.inl 6, [some 46, some 47, none, some 48, none, some 49, none, none]), (.inr (.int, 24), []), (.inr (.int, 24), []), (.inr (.int, 12), []), (.inr (.int, 12), []), (.inl 3, [some 51, some 52, none, some 53, some 54, none, none, none, none, none, none]), (.inr (.int, 4), []), (.inr (.int, 4), []), (.inr (.int, 6), []), (.inr (.int, 6), []), (.inl 5, [some 56, some 61, some 62]), (.inr (.array .int, 4), [some 57, some 58, some 59, some 60]), (.inr (.int, 60), []), (.inr (.int, 60), []), (.inr (.int, 60), []), (.inr (.int, 60), []), (.inr (.int, 4), []), (.inr (.int, 4), []), (.inl 10, [none, none, none, none, none, none, some 64, some 65, some 66, some 67, some 68, some 69, some 70, none, some 71, some 72, none, none, none, none, none, none, none, none, some 73, some 74, some 75, none, none, some 76, some 77, none, some 78, some 79, some 80, none, none, none, some 81, some 82, some 83, some 84, some 85, some 86, some 87, none, some 88, some 89, none, some 90, some 91, none, some 92, some 93, some 94]), (.inr (.int, 12), []), (.inr (.int, 12), []), (.inr (.int, 12), []), (.inr (.boolean, 12), []), (.inr (.int, 12), []), (.inr (.int, 12), []), (.inr (.boolean, 12), []), (.inr (.int, 420), []), (.inr (.int, 160), []), (.inr (.int, 6), []), (.inr (.int, 144), []), (.inr (.int, 64), []), (.inr (.int, 5), []), (.inr (.int, 5), []), (.inr (.int, 45225), []), (.inr (.int, 24), []), (.inr (.int, 24), []), (.inr (.int, 201), []), (.inr (.int, 4096), []), (.inr (.int, 4096), []), (.inr (.boolean, 45225), []), (.inr (.int, 12), []), (.inr (.boolean, 12), []), (.inr (.int, 12), []), (.inr (.int, 4), []), (.inr (.int, 4), []), (.inr (.int, 6), []), (.inr (.int, 6), []), (.inr (.int, 4), []), (.inr (.int, 4), []), (.inr (.int, 240), [])]
def gp_63 (L : Nat) : Geo := (.inr (.int, L), []) :: [(.inl 9, [some 2, some 3, some 4, some 11, some 23, some 28, some 37, some 45, some 50, some 55]), (.inl 1, [none, none, none, none, none]), (.inl 1, [none, none, none, none, none]), (.inl 8, [some 5, some 6, some 7, some 8, some 9, some 10, none, none]), (.inr (.int, 12), []), (.inr (.int, 12), []), (.inr (.int, 12), []), (.inr (.boolean, 12), []), (.inr (.int, 12), []), (.inr (.int, 12), []), (.inl 0, [some 12, none, none, none]), (.inr (.array .int, 10), [some 13, some 14, some 15, some 16, some 17, some 18, some 19, some 20, some 21, some 22]), (.inr (.int, 30), []), (.inr (.int, 30), []), (.inr (.int, 30), []), (.inr (.int, 30), []), (.inr (.int, 30), []), (.inr (.int, 30), []), (.inr (.int, 30), []), (.inr (.int, 30), []), (.inr (.int, 30), []), (.inr (.int, 30), []), (.inl 2, [some 24, none, none, none, none, none, none, none, none, some 25, none, some 26, some 27, none]), (.inr (.byte, 160), []), (.inr (.int, 24), []), (.inr (.int, 4), []), (.inr (.int, 4), []), (.inl 7, [some 29, some 36, none]), (.inr (.array .int, 6), [some 30, some 31, some 32, some 33, some 34, some 35]), (.inr (.int, 24), []), (.inr (.int, 24), []), (.inr (.int, 24), []), (.inr (.int, 24), []), (.inr (.int, 24), []), (.inr (.int, 24), []), (.inr (.int, 6), []), (.inl 4, [none, some 38, some 39, none, none, some 40, some 41, none, none, some 42, some 43, none, none, none, some 44, none]), (.inr (.int, 201), []), (.inr (.int, 24), []), (.inr (.int, 32), []), (.inr (.int, 32), []), (.inr (.int, 24), []), (.inr (.int, 24), []), (.inr (.int, 5), []), (.inl 6, [some 46, some 47, none, some 48, none, some 49, none, none]), (.inr (.int, 24), []), (.inr (.int, 24), []), (.inr (.int, 12), []), (.inr (.int, 12), []), (.inl 3, [some 51, some 52, none, some 53, some 54, none, none, none, none, none, none]), (.inr (.int, 4), []), (.inr (.int, 4), []), (.inr (.int, 6), []), (.inr (.int, 6), []), (.inl 5, [some 56, some 61, some 62]), (.inr (.array .int, 4), [some 57, some 58, some 59, some 60]), (.inr (.int, 60), []), (.inr (.int, 60), []), (.inr (.int, 60), []), (.inr (.int, 60), []), (.inr (.int, 4), []), (.inr (.int, 4), [])]
def gm_0 (L : Nat) : Geo := gp_63 L ++ [(.inl 10, [none, none, none, none, none, none, none, none, none, none, none, none, none, none, none, none, none, none, none, none, none, none, none, none, none, none, none, none, none, none, none, none, none, none, none, none, none, none, none, none, none, none, none, none, none, none, none, none, none, none, none, none, none, none, none])]
def gm_1 (L : Nat) : Geo := gp_63 L ++ [(.inl 10, [none, none, none, none, none, none, some 64, none, none, none, none, none, none, none, none, none, none, none, none, none, none, none, none, none, none, none, none, none, none, none, none, none, none, none, none, none, none, none, none, none, none, none, none, none, none, none, none, none, none, none, none, none, none, none, none]), (.inr (.int, 12), [])]
def gm_2 (L : Nat) : Geo := gp_63 L ++ [(.inl 10, [none, none, none, none, none, none, some 64, some 65, none, none, none, none, none, none, none, none, none, none, none, none, none, none, none, none, none, none, none, none, none, none, none, none, none, none, none, none, none, none, none, none, none, none, none, none, none, none, none, none, none, none, none, none, none, none, none]), (.inr (.int, 12), []), (.inr (.int, 12), [])]
def gm_3 (L : Nat) : Geo := gp_63 L ++ [(.inl 10, [none, none, none, none, none, none, some 64, some 65, some 66, none, none, none, none, none, none, none, none, none, none, none, none, none, none, none, none, none, none, none, none, none, none, none, none, none, none, none, none, none, none, none, none, none, none, none, none, none, none, none, none, none, none, none, none, none, none]), (.inr (.int, 12), []), (.inr (.int, 12), []), (.inr (.int, 12), [])]
def gm_4 (L : Nat) : Geo := gp_63 L ++ [(.inl 10, [none, none, none, none, none, none, some 64, some 65, some 66, some 67, none, none, none, none, none, none, none, none, none, none, none, none, none, none, none, none, none, none, none, none, none, none, none, none, none, none, none, none, none, none, none, none, none, none, none, none, none, none, none, none, none, none, none, none, none]), (.inr (.int, 12), []), (.inr (.int, 12), []), (.inr (.int, 12), []), (.inr (.boolean, 12), [])]
def gm_5 (L : Nat) : Geo := gp_63 L ++ [(.inl 10, [none, none, none, none, none, none, some 64, some 65, some 66, some 67, some 68, none, none, none, none, none, none, none, none, none, none, none, none, none, none, none, none, none, none, none, none, none, none, none, none, none, none, none, none, none, none, none, none, none, none, none, none, none, none, none, none, none, none, none, none]), (.inr (.int, 12), []), (.inr (.int, 12), []), (.inr (.int, 12), []), (.inr (.boolean, 12), []), (.inr (.int, 12), [])]
def gm_6 (L : Nat) : Geo := gp_63 L ++ [(.inl 10, [none, none, none, none, none, none, some 64, some 65, some 66, some 67, some 68, some 69, none, none, none, none, none, none, none, none, none, none, none, none, none, none, none, none, none, none, none, none, none, none, none, none, none, none, none, none, none, none, none, none, none, none, none, none, none, none, none, none, none, none, none]), (.inr (.int, 12), []), (.inr (.int, 12), []), (.inr (.int, 12), []), (.inr (.boolean, 12), []), (.inr (.int, 12), []), (.inr (.int, 12), [])]
def gm_7 (L : Nat) : Geo := gp_63 L ++ [(.inl 10, [none, none, none, none, none, none, some 64, some 65, some 66, some 67, some 68, some 69, some 70, none, none, none, none, none, none, none, none, none, none, none, none, none, none, none, none, none, none, none, none, none, none, none, none, none, none, none, none, none, none, none, none, none, none, none, none, none, none, none, none, none, none]), (.inr (.int, 12), []), (.inr (.int, 12), []), (.inr (.int, 12), []), (.inr (.boolean, 12), []), (.inr (.int, 12), []), (.inr (.int, 12), []), (.inr (.boolean, 12), [])]
def gm_8 (L : Nat) : Geo := gp_63 L ++ [(.inl 10, [none, none, none, none, none, none, some 64, some 65, some 66, some 67, some 68, some 69, some 70, none, some 71, none, none, none, none, none, none, none, none, none, none, none, none, none, none, none, none, none, none, none, none, none, none, none, none, none, none, none, none, none, none, none, none, none, none, none, none, none, none, none, none]), (.inr (.int, 12), []), (.inr (.int, 12), []), (.inr (.int, 12), []), (.inr (.boolean, 12), []), (.inr (.int, 12), []), (.inr (.int, 12), []), (.inr (.boolean, 12), []), (.inr (.int, 420), [])]
def gm_9 (L : Nat) : Geo := gp_63 L ++ [(.inl 10, [none, none, none, none, none, none, some 64, some 65, some 66, some 67, some 68, some 69, some 70, none, some 71, some 72, none, none, none, none, none, none, none, none, none, none, none, none, none, none, none, none, none, none, none, none, none, none, none, none, none, none, none, none, none, none, none, none, none, none, none, none, none, none, none]), (.inr (.int, 12), []), (.inr (.int, 12), []), (.inr (.int, 12), []), (.inr (.boolean, 12), []), (.inr (.int, 12), []), (.inr (.int, 12), []), (.inr (.boolean, 12), []), (.inr (.int, 420), []), (.inr (.int, 160), [])]
def gm_10 (L : Nat) : Geo := gp_63 L ++ [(.inl 10, [none, none, none, none, none, none, some 64, some 65, some 66, some 67, some 68, some 69, some 70, none, some 71, some 72, none, none, none, none, none, none, none, none, some 73, none, none, none, none, none, none, none, none, none, none, none, none, none, none, none, none, none, none, none, none, none, none, none, none, none, none, none, none, none, none]), (.inr (.int, 12), []), (.inr (.int, 12), []), (.inr (.int, 12), []), (.inr (.boolean, 12), []), (.inr (.int, 12), []), (.inr (.int, 12), []), (.inr (.boolean, 12), []), (.inr (.int, 420), []), (.inr (.int, 160), []), (.inr (.int, 6), [])]
def gm_11 (L : Nat) : Geo := gp_63 L ++ [(.inl 10, [none, none, none, none, none, none, some 64, some 65, some 66, some 67, some 68, some 69, some 70, none, some 71, some 72, none, none, none, none, none, none, none, none, some 73, some 74, none, none, none, none, none, none, none, none, none, none, none, none, none, none, none, none, none, none, none, none, none, none, none, none, none, none, none, none, none]), (.inr (.int, 12), []), (.inr (.int, 12), []), (.inr (.int, 12), []), (.inr (.boolean, 12), []), (.inr (.int, 12), []), (.inr (.int, 12), []), (.inr (.boolean, 12), []), (.inr (.int, 420), []), (.inr (.int, 160), []), (.inr (.int, 6), []), (.inr (.int, 144), [])]
def gm_12 (L : Nat) : Geo := gp_63 L ++ [(.inl 10, [none, none, none, none, none, none, some 64, some 65, some 66, some 67, some 68, some 69, some 70, none, some 71, some 72, none, none, none, none, none, none, none, none, some 73, some 74, some 75, none, none, none, none, none, none, none, none, none, none, none, none, none, none, none, none, none, none, none, none, none, none, none, none, none, none, none, none]), (.inr (.int, 12), []), (.inr (.int, 12), []), (.inr (.int, 12), []), (.inr (.boolean, 12), []), (.inr (.int, 12), []), (.inr (.int, 12), []), (.inr (.boolean, 12), []), (.inr (.int, 420), []), (.inr (.int, 160), []), (.inr (.int, 6), []), (.inr (.int, 144), []), (.inr (.int, 64), [])]
def gm_13 (L : Nat) : Geo := gp_63 L ++ [(.inl 10, [none, none, none, none, none, none, some 64, some 65, some 66, some 67, some 68, some 69, some 70, none, some 71, some 72, none, none, none, none, none, none, none, none, some 73, some 74, some 75, none, none, some 76, none, none, none, none, none, none, none, none, none, none, none, none, none, none, none, none, none, none, none, none, none, none, none, none, none]), (.inr (.int, 12), []), (.inr (.int, 12), []), (.inr (.int, 12), []), (.inr (.boolean, 12), []), (.inr (.int, 12), []), (.inr (.int, 12), []), (.inr (.boolean, 12), []), (.inr (.int, 420), []), (.inr (.int, 160), []), (.inr (.int, 6), []), (.inr (.int, 144), []), (.inr (.int, 64), []), (.inr (.int, 5), [])]
def gm_14 (L : Nat) : Geo := gp_63 L ++ [(.inl 10, [none, none, none, none, none, none, some 64, some 65, some 66, some 67, some 68, some 69, some 70, none, some 71, some 72, none, none, none, none, none, none, none, none, some 73, some 74, some 75, none, none, some 76, some 77, none, none, none, none, none, none, none, none, none, none, none, none, none, none, none, none, none, none, none, none, none, none, none, none]), (.inr (.int, 12), []), (.inr (.int, 12), []), (.inr (.int, 12), []), (.inr (.boolean, 12), []), (.inr (.int, 12), []), (.inr (.int, 12), []), (.inr (.boolean, 12), []), (.inr (.int, 420), []), (.inr (.int, 160), []), (.inr (.int, 6), []), (.inr (.int, 144), []), (.inr (.int, 64), []), (.inr (.int, 5), []), (.inr (.int, 5), [])]
def gm_15 (L : Nat) : Geo := gp_63 L ++ [(.inl 10, [none, none, none, none, none, none, some 64, some 65, some 66, some 67, some 68, some 69, some 70, none, some 71, some 72, none, none, none, none, none, none, none, none, some 73, some 74, some 75, none, none, some 76, some 77, none, some 78, none, none, none, none, none, none, none, none, none, none, none, none, none, none, none, none, none, none, none, none, none, none]), (.inr (.int, 12), []), (.inr (.int, 12), []), (.inr (.int, 12), []), (.inr (.boolean, 12), []), (.inr (.int, 12), []), (.inr (.int, 12), []), (.inr (.boolean, 12), []), (.inr (.int, 420), []), (.inr (.int, 160), []), (.inr (.int, 6), []), (.inr (.int, 144), []), (.inr (.int, 64), []), (.inr (.int, 5), []), (.inr (.int, 5), []), (.inr (.int, 45225), [])]
def gm_16 (L : Nat) : Geo := gp_63 L ++ [(.inl 10, [none, none, none, none, none, none, some 64, some 65, some 66, some 67, some 68, some 69, some 70, none, some 71, some 72, none, none, none, none, none, none, none, none, some 73, some 74, some 75, none, none, some 76, some 77, none, some 78, some 79, none, none, none, none, none, none, none, none, none, none, none, none, none, none, none, none, none, none, none, none, none]), (.inr (.int, 12), []), (.inr (.int, 12), []), (.inr (.int, 12), []), (.inr (.boolean, 12), []), (.inr (.int, 12), []), (.inr (.int, 12), []), (.inr (.boolean, 12), []), (.inr (.int, 420), []), (.inr (.int, 160), []), (.inr (.int, 6), []), (.inr (.int, 144), []), (.inr (.int, 64), []), (.inr (.int, 5), []), (.inr (.int, 5), []), (.inr (.int, 45225), []), (.inr (.int, 24), [])]
def gm_17 (L : Nat) : Geo := gp_63 L ++ [(.inl 10, [none, none, none, none, none, none, some 64, some 65, some 66, some 67, some 68, some 69, some 70, none, some 71, some 72, none, none, none, none, none, none, none, none, some 73, some 74, some 75, none, none, some 76, some 77, none, some 78, some 79, some 80, none, none, none, none, none, none, none, none, none, none, none, none, none, none, none, none, none, none, none, none]), (.inr (.int, 12), []), (.inr (.int, 12), []), (.inr (.int, 12), []), (.inr (.boolean, 12), []), (.inr (.int, 12), []), (.inr (.int, 12), []), (.inr (.boolean, 12), []), (.inr (.int, 420), []), (.inr (.int, 160), []), (.inr (.int, 6), []), (.inr (.int, 144), []), (.inr (.int, 64), []), (.inr (.int, 5), []), (.inr (.int, 5), []), (.inr (.int, 45225), []), (.inr (.int, 24), []), (.inr (.int, 24), [])]
def gm_18 (L : Nat) : Geo := gp_63 L ++ [(.inl 10, [none, none, none, none, none, none, some 64, some 65, some 66, some 67, some 68, some 69, some 70, none, some 71, some 72, none, none, none, none, none, none, none, none, some 73, some 74, some 75, none, none, some 76, some 77, none, some 78, some 79, some 80, none, none, none, some 81, none, none, none, none, none, none, none, none, none, none, none, none, none, none, none, none]), (.inr (.int, 12), []), (.inr (.int, 12), []), (.inr (.int, 12), []), (.inr (.boolean, 12), []), (.inr (.int, 12), []), (.inr (.int, 12), []), (.inr (.boolean, 12), []), (.inr (.int, 420), []), (.inr (.int, 160), []), (.inr (.int, 6), []), (.inr (.int, 144), []), (.inr (.int, 64), []), (.inr (.int, 5), []), (.inr (.int, 5), []), (.inr (.int, 45225), []), (.inr (.int, 24), []), (.inr (.int, 24), []), (.inr (.int, 201), [])]
def gm_19 (L : Nat) : Geo := gp_63 L ++ [(.inl 10, [none, none, none, none, none, none, some 64, some 65, some 66, some 67, some 68, some 69, some 70, none, some 71, some 72, none, none, none, none, none, none, none, none, some 73, some 74, some 75, none, none, some 76, some 77, none, some 78, some 79, some 80, none, none, none, some 81, some 82, none, none, none, none, none, none, none, none, none, none, none, none, none, none, none]), (.inr (.int, 12), []), (.inr (.int, 12), []), (.inr (.int, 12), []), (.inr (.boolean, 12), []), (.inr (.int, 12), []), (.inr (.int, 12), []), (.inr (.boolean, 12), []), (.inr (.int, 420), []), (.inr (.int, 160), []), (.inr (.int, 6), []), (.inr (.int, 144), []), (.inr (.int, 64), []), (.inr (.int, 5), []), (.inr (.int, 5), []), (.inr (.int, 45225), []), (.inr (.int, 24), []), (.inr (.int, 24), []), (.inr (.int, 201), []), (.inr (.int, 4096), [])]
def gm_20 (L : Nat) : Geo := gp_63 L ++ [(.inl 10, [none, none, none, none, none, none, some 64, some 65, some 66, some 67, some 68, some 69, some 70, none, some 71, some 72, none, none, none, none, none, none, none, none, some 73, some 74, some 75, none, none, some 76, some 77, none, some 78, some 79, some 80, none, none, none, some 81, some 82, some 83, none, none, none, none, none, none, none, none, none, none, none, none, none, none]), (.inr (.int, 12), []), (.inr (.int, 12), []), (.inr (.int, 12), []), (.inr (.boolean, 12), []), (.inr (.int, 12), []), (.inr (.int, 12), []), (.inr (.boolean, 12), []), (.inr (.int, 420), []), (.inr (.int, 160), []), (.inr (.int, 6), []), (.inr (.int, 144), []), (.inr (.int, 64), []), (.inr (.int, 5), []), (.inr (.int, 5), []), (.inr (.int, 45225), []), (.inr (.int, 24), []), (.inr (.int, 24), []), (.inr (.int, 201), []), (.inr (.int, 4096), []), (.inr (.int, 4096), [])]
def gm_21 (L : Nat) : Geo := gp_63 L ++ [(.inl 10, [none, none, none, none, none, none, some 64, some 65, some 66, some 67, some 68, some 69, some 70, none, some 71, some 72, none, none, none, none, none, none, none, none, some 73, some 74, some 75, none, none, some 76, some 77, none, some 78, some 79, some 80, none, none, none, some 81, some 82, some 83, some 84, none, none, none, none, none, none, none, none, none, none, none, none, none]), (.inr (.int, 12), []), (.inr (.int, 12), []), (.inr (.int, 12), []), (.inr (.boolean, 12), []), (.inr (.int, 12), []), (.inr (.int, 12), []), (.inr (.boolean, 12), []), (.inr (.int, 420), []), (.inr (.int, 160), []), (.inr (.int, 6), []), (.inr (.int, 144), []), (.inr (.int, 64), []), (.inr (.int, 5), []), (.inr (.int, 5), []), (.inr (.int, 45225), []), (.inr (.int, 24), []), (.inr (.int, 24), []), (.inr (.int, 201), []), (.inr (.int, 4096), []), (.inr (.int, 4096), []), (.inr (.boolean, 45225), [])]
def gm_22 (L : Nat) : Geo := gp_63 L ++ [(.inl 10, [none, none, none, none, none, none, some 64, some 65, some 66, some 67, some 68, some 69, some 70, none, some 71, some 72, none, none, none, none, none, none, none, none, some 73, some 74, some 75, none, none, some 76, some 77, none, some 78, some 79, some 80, none, none, none, some 81, some 82, some 83, some 84, some 85, none, none, none, none, none, none, none, none, none, none, none, none]), (.inr (.int, 12), []), (.inr (.int, 12), []), (.inr (.int, 12), []), (.inr (.boolean, 12), []), (.inr (.int, 12), []), (.inr (.int, 12), []), (.inr (.boolean, 12), []), (.inr (.int, 420), []), (.inr (.int, 160), []), (.inr (.int, 6), []), (.inr (.int, 144), []), (.inr (.int, 64), []), (.inr (.int, 5), []), (.inr (.int, 5), []), (.inr (.int, 45225), []), (.inr (.int, 24), []), (.inr (.int, 24), []), (.inr (.int, 201), []), (.inr (.int, 4096), []), (.inr (.int, 4096), []), (.inr (.boolean, 45225), []), (.inr (.int, 12), [])]
def gm_23 (L : Nat) : Geo := gp_63 L ++ [(.inl 10, [none, none, none, none, none, none, some 64, some 65, some 66, some 67, some 68, some 69, some 70, none, some 71, some 72, none, none, none, none, none, none, none, none, some 73, some 74, some 75, none, none, some 76, some 77, none, some 78, some 79, some 80, none, none, none, some 81, some 82, some 83, some 84, some 85, some 86, none, none, none, none, none, none, none, none, none, none, none]), (.inr (.int, 12), []), (.inr (.int, 12), []), (.inr (.int, 12), []), (.inr (.boolean, 12), []), (.inr (.int, 12), []), (.inr (.int, 12), []), (.inr (.boolean, 12), []), (.inr (.int, 420), []), (.inr (.int, 160), []), (.inr (.int, 6), []), (.inr (.int, 144), []), (.inr (.int, 64), []), (.inr (.int, 5), []), (.inr (.int, 5), []), (.inr (.int, 45225), []), (.inr (.int, 24), []), (.inr (.int, 24), []), (.inr (.int, 201), []), (.inr (.int, 4096), []), (.inr (.int, 4096), []), (.inr (.boolean, 45225), []), (.inr (.int, 12), []), (.inr (.boolean, 12), [])]
def gm_24 (L : Nat) : Geo := gp_63 L ++ [(.inl 10, [none, none, none, none, none, none, some 64, some 65, some 66, some 67, some 68, some 69, some 70, none, some 71, some 72, none, none, none, none, none, none, none, none, some 73, some 74, some 75, none, none, some 76, some 77, none, some 78, some 79, some 80, none, none, none, some 81, some 82, some 83, some 84, some 85, some 86, some 87, none, none, none, none, none, none, none, none, none, none]), (.inr (.int, 12), []), (.inr (.int, 12), []), (.inr (.int, 12), []), (.inr (.boolean, 12), []), (.inr (.int, 12), []), (.inr (.int, 12), []), (.inr (.boolean, 12), []), (.inr (.int, 420), []), (.inr (.int, 160), []), (.inr (.int, 6), []), (.inr (.int, 144), []), (.inr (.int, 64), []), (.inr (.int, 5), []), (.inr (.int, 5), []), (.inr (.int, 45225), []), (.inr (.int, 24), []), (.inr (.int, 24), []), (.inr (.int, 201), []), (.inr (.int, 4096), []), (.inr (.int, 4096), []), (.inr (.boolean, 45225), []), (.inr (.int, 12), []), (.inr (.boolean, 12), []), (.inr (.int, 12), [])]
def gm_25 (L : Nat) : Geo := gp_63 L ++ [(.inl 10, [none, none, none, none, none, none, some 64, some 65, some 66, some 67, some 68, some 69, some 70, none, some 71, some 72, none, none, none, none, none, none, none, none, some 73, some 74, some 75, none, none, some 76, some 77, none, some 78, some 79, some 80, none, none, none, some 81, some 82, some 83, some 84, some 85, some 86, some 87, none, some 88, none, none, none, none, none, none, none, none]), (.inr (.int, 12), []), (.inr (.int, 12), []), (.inr (.int, 12), []), (.inr (.boolean, 12), []), (.inr (.int, 12), []), (.inr (.int, 12), []), (.inr (.boolean, 12), []), (.inr (.int, 420), []), (.inr (.int, 160), []), (.inr (.int, 6), []), (.inr (.int, 144), []), (.inr (.int, 64), []), (.inr (.int, 5), []), (.inr (.int, 5), []), (.inr (.int, 45225), []), (.inr (.int, 24), []), (.inr (.int, 24), []), (.inr (.int, 201), []), (.inr (.int, 4096), []), (.inr (.int, 4096), []), (.inr (.boolean, 45225), []), (.inr (.int, 12), []), (.inr (.boolean, 12), []), (.inr (.int, 12), []), (.inr (.int, 4), [])]
def gm_26 (L : Nat) : Geo := gp_63 L ++ [(.inl 10, [none, none, none, none, none, none, some 64, some 65, some 66, some 67, some 68, some 69, some 70, none, some 71, some 72, none, none, none, none, none, none, none, none, some 73, some 74, some 75, none, none, some 76, some 77, none, some 78, some 79, some 80, none, none, none, some 81, some 82, some 83, some 84, some 85, some 86, some 87, none, some 88, some 89, none, none, none, none, none, none, none]), (.inr (.int, 12), []), (.inr (.int, 12), []), (.inr (.int, 12), []), (.inr (.boolean, 12), []), (.inr (.int, 12), []), (.inr (.int, 12), []), (.inr (.boolean, 12), []), (.inr (.int, 420), []), (.inr (.int, 160), []), (.inr (.int, 6), []), (.inr (.int, 144), []), (.inr (.int, 64), []), (.inr (.int, 5), []), (.inr (.int, 5), []), (.inr (.int, 45225), []), (.inr (.int, 24), []), (.inr (.int, 24), []), (.inr (.int, 201), []), (.inr (.int, 4096), []), (.inr (.int, 4096), []), (.inr (.boolean, 45225), []), (.inr (.int, 12), []), (.inr (.boolean, 12), []), (.inr (.int, 12), []), (.inr (.int, 4), []), (.inr (.int, 4), [])]
def gm_27 (L : Nat) : Geo := gp_63 L ++ [(.inl 10, [none, none, none, none, none, none, some 64, some 65, some 66, some 67, some 68, some 69, some 70, none, some 71, some 72, none, none, none, none, none, none, none, none, some 73, some 74, some 75, none, none, some 76, some 77, none, some 78, some 79, some 80, none, none, none, some 81, some 82, some 83, some 84, some 85, some 86, some 87, none, some 88, some 89, none, some 90, none, none, none, none, none]), (.inr (.int, 12), []), (.inr (.int, 12), []), (.inr (.int, 12), []), (.inr (.boolean, 12), []), (.inr (.int, 12), []), (.inr (.int, 12), []), (.inr (.boolean, 12), []), (.inr (.int, 420), []), (.inr (.int, 160), []), (.inr (.int, 6), []), (.inr (.int, 144), []), (.inr (.int, 64), []), (.inr (.int, 5), []), (.inr (.int, 5), []), (.inr (.int, 45225), []), (.inr (.int, 24), []), (.inr (.int, 24), []), (.inr (.int, 201), []), (.inr (.int, 4096), []), (.inr (.int, 4096), []), (.inr (.boolean, 45225), []), (.inr (.int, 12), []), (.inr (.boolean, 12), []), (.inr (.int, 12), []), (.inr (.int, 4), []), (.inr (.int, 4), []), (.inr (.int, 6), [])]
def gm_28 (L : Nat) : Geo := gp_63 L ++ [(.inl 10, [none, none, none, none, none, none, some 64, some 65, some 66, some 67, some 68, some 69, some 70, none, some 71, some 72, none, none, none, none, none, none, none, none, some 73, some 74, some 75, none, none, some 76, some 77, none, some 78, some 79, some 80, none, none, none, some 81, some 82, some 83, some 84, some 85, some 86, some 87, none, some 88, some 89, none, some 90, some 91, none, none, none, none]), (.inr (.int, 12), []), (.inr (.int, 12), []), (.inr (.int, 12), []), (.inr (.boolean, 12), []), (.inr (.int, 12), []), (.inr (.int, 12), []), (.inr (.boolean, 12), []), (.inr (.int, 420), []), (.inr (.int, 160), []), (.inr (.int, 6), []), (.inr (.int, 144), []), (.inr (.int, 64), []), (.inr (.int, 5), []), (.inr (.int, 5), []), (.inr (.int, 45225), []), (.inr (.int, 24), []), (.inr (.int, 24), []), (.inr (.int, 201), []), (.inr (.int, 4096), []), (.inr (.int, 4096), []), (.inr (.boolean, 45225), []), (.inr (.int, 12), []), (.inr (.boolean, 12), []), (.inr (.int, 12), []), (.inr (.int, 4), []), (.inr (.int, 4), []), (.inr (.int, 6), []), (.inr (.int, 6), [])]
def gm_29 (L : Nat) : Geo := gp_63 L ++ [(.inl 10, [none, none, none, none, none, none, some 64, some 65, some 66, some 67, some 68, some 69, some 70, none, some 71, some 72, none, none, none, none, none, none, none, none, some 73, some 74, some 75, none, none, some 76, some 77, none, some 78, some 79, some 80, none, none, none, some 81, some 82, some 83, some 84, some 85, some 86, some 87, none, some 88, some 89, none, some 90, some 91, none, some 92, none, none]), (.inr (.int, 12), []), (.inr (.int, 12), []), (.inr (.int, 12), []), (.inr (.boolean, 12), []), (.inr (.int, 12), []), (.inr (.int, 12), []), (.inr (.boolean, 12), []), (.inr (.int, 420), []), (.inr (.int, 160), []), (.inr (.int, 6), []), (.inr (.int, 144), []), (.inr (.int, 64), []), (.inr (.int, 5), []), (.inr (.int, 5), []), (.inr (.int, 45225), []), (.inr (.int, 24), []), (.inr (.int, 24), []), (.inr (.int, 201), []), (.inr (.int, 4096), []), (.inr (.int, 4096), []), (.inr (.boolean, 45225), []), (.inr (.int, 12), []), (.inr (.boolean, 12), []), (.inr (.int, 12), []), (.inr (.int, 4), []), (.inr (.int, 4), []), (.inr (.int, 6), []), (.inr (.int, 6), []), (.inr (.int, 4), [])]
def gm_30 (L : Nat) : Geo := gp_63 L ++ [(.inl 10, [none, none, none, none, none, none, some 64, some 65, some 66, some 67, some 68, some 69, some 70, none, some 71, some 72, none, none, none, none, none, none, none, none, some 73, some 74, some 75, none, none, some 76, some 77, none, some 78, some 79, some 80, none, none, none, some 81, some 82, some 83, some 84, some 85, some 86, some 87, none, some 88, some 89, none, some 90, some 91, none, some 92, some 93, none]), (.inr (.int, 12), []), (.inr (.int, 12), []), (.inr (.int, 12), []), (.inr (.boolean, 12), []), (.inr (.int, 12), []), (.inr (.int, 12), []), (.inr (.boolean, 12), []), (.inr (.int, 420), []), (.inr (.int, 160), []), (.inr (.int, 6), []), (.inr (.int, 144), []), (.inr (.int, 64), []), (.inr (.int, 5), []), (.inr (.int, 5), []), (.inr (.int, 45225), []), (.inr (.int, 24), []), (.inr (.int, 24), []), (.inr (.int, 201), []), (.inr (.int, 4096), []), (.inr (.int, 4096), []), (.inr (.boolean, 45225), []), (.inr (.int, 12), []), (.inr (.boolean, 12), []), (.inr (.int, 12), []), (.inr (.int, 4), []), (.inr (.int, 4), []), (.inr (.int, 6), []), (.inr (.int, 6), []), (.inr (.int, 4), []), (.inr (.int, 4), [])]
def gm_31 (L : Nat) : Geo := gp_63 L ++ [(.inl 10, [none, none, none, none, none, none, some 64, some 65, some 66, some 67, some 68, some 69, some 70, none, some 71, some 72, none, none, none, none, none, none, none, none, some 73, some 74, some 75, none, none, some 76, some 77, none, some 78, some 79, some 80, none, none, none, some 81, some 82, some 83, some 84, some 85, some 86, some 87, none, some 88, some 89, none, some 90, some 91, none, some 92, some 93, some 94]), (.inr (.int, 12), []), (.inr (.int, 12), []), (.inr (.int, 12), []), (.inr (.boolean, 12), []), (.inr (.int, 12), []), (.inr (.int, 12), []), (.inr (.boolean, 12), []), (.inr (.int, 420), []), (.inr (.int, 160), []), (.inr (.int, 6), []), (.inr (.int, 144), []), (.inr (.int, 64), []), (.inr (.int, 5), []), (.inr (.int, 5), []), (.inr (.int, 45225), []), (.inr (.int, 24), []), (.inr (.int, 24), []), (.inr (.int, 201), []), (.inr (.int, 4096), []), (.inr (.int, 4096), []), (.inr (.boolean, 45225), []), (.inr (.int, 12), []), (.inr (.boolean, 12), []), (.inr (.int, 12), []), (.inr (.int, 4), []), (.inr (.int, 4), []), (.inr (.int, 6), []), (.inr (.int, 6), []), (.inr (.int, 4), []), (.inr (.int, 4), []), (.inr (.int, 240), [])]
def h_Whistles (h : Hp) : Hp := h
set_option maxRecDepth 100000 in
set_option maxHeartbeats 4000000 in
theorem c_Whistles_init (L : Nat) (h : Hp) (hz : ev_Z 4 h) : EvM mi_X8_init [.ref 4] (gb_4 L) h 6 72 (fun v G' h' => v = none ∧ G' = ga_4 L ∧ h' = h_Whistles h) := by
  refine EvM.of2 (lo := [some (.ref 4)]) pf_X8_init ok_X8_init rfl rfl ?_
  refine ev_aload_n rfl rfl rfl ?_
  refine ev_obj rfl rfl oi_X8_3 oi_i oi_c rfl rfl ?_
  refine ev_aload_n rfl rfl rfl ?_
  refine ev_bipush (v := 12) rfl rfl (by decide) ?_
  refine ev_newa (N := 12) (kc := 5) (ks := 60) rfl rfl rfl ac_int ⟨rfl, rfl⟩ (by decide) (by decide) (by decide) rfl (fun j => ev_Z.at (hz.up (m := 5) rfl) 5 j rfl) ?_
  refine ev_putR rfl rfl fl_X8_9 (Or.inr ⟨rfl, _, rfl, rfl⟩) rfl rfl rfl rfl ?_
  refine ev_aload_n rfl rfl rfl ?_
  refine ev_bipush (v := 12) rfl rfl (by decide) ?_
  refine ev_newa (N := 12) (kc := 4) (ks := 48) rfl rfl rfl ac_int ⟨rfl, rfl⟩ (by decide) (by decide) (by decide) rfl (fun j => ev_Z.at (hz.up (m := 6) rfl) 6 j rfl) ?_
  refine ev_putR rfl rfl fl_X8_15 (Or.inr ⟨rfl, _, rfl, rfl⟩) rfl rfl rfl rfl ?_
  refine ev_aload_n rfl rfl rfl ?_
  refine ev_bipush (v := 12) rfl rfl (by decide) ?_
  refine ev_newa (N := 12) (kc := 3) (ks := 36) rfl rfl rfl ac_int ⟨rfl, rfl⟩ (by decide) (by decide) (by decide) rfl (fun j => ev_Z.at (hz.up (m := 7) rfl) 7 j rfl) ?_
  refine ev_putR rfl rfl fl_X8_18 (Or.inr ⟨rfl, _, rfl, rfl⟩) rfl rfl rfl rfl ?_
  refine ev_aload_n rfl rfl rfl ?_
  refine ev_bipush (v := 12) rfl rfl (by decide) ?_
  refine ev_newa (N := 12) (kc := 2) (ks := 24) rfl rfl rfl ac_boolean ⟨rfl, rfl⟩ (by decide) (by decide) (by decide) rfl (fun j => ev_Z.at (hz.up (m := 8) rfl) 8 j rfl) ?_
  refine ev_putR rfl rfl fl_X8_21 (Or.inr ⟨rfl, _, rfl, rfl⟩) rfl rfl rfl rfl ?_
  refine ev_aload_n rfl rfl rfl ?_
  refine ev_bipush (v := 12) rfl rfl (by decide) ?_
  refine ev_newa (N := 12) (kc := 1) (ks := 12) rfl rfl rfl ac_int ⟨rfl, rfl⟩ (by decide) (by decide) (by decide) rfl (fun j => ev_Z.at (hz.up (m := 9) rfl) 9 j rfl) ?_
  refine ev_putR rfl rfl fl_X8_25 (Or.inr ⟨rfl, _, rfl, rfl⟩) rfl rfl rfl rfl ?_
  refine ev_aload_n rfl rfl rfl ?_
  refine ev_bipush (v := 12) rfl rfl (by decide) ?_
  refine ev_newa (N := 12) (kc := 0) (ks := 0) rfl rfl rfl ac_int ⟨rfl, rfl⟩ (by decide) (by decide) (by decide) rfl (fun j => ev_Z.at (hz.up (m := 10) rfl) 10 j rfl) ?_
  refine ev_putR rfl rfl fl_X8_28 (Or.inr ⟨rfl, _, rfl, rfl⟩) rfl rfl rfl rfl ?_
  refine ev_aload_n rfl rfl rfl ?_
  refine ev_iconst (v := 0) rfl rfl (by decide) ?_
  refine ev_putI rfl rfl fl_X8_31 rfl rfl rfl rfl rfl ?_
  refine EvQ.hp _ (ev_set_same (by first | exact hz.at _ _ rfl | (simp [ev_set]; exact hz.at _ _ rfl))) ?_
  refine ev_aload_n rfl rfl rfl ?_
  refine ev_iconst (v := 0) rfl rfl (by decide) ?_
  refine ev_putI rfl rfl fl_X8_35 rfl rfl rfl rfl rfl ?_
  refine EvQ.hp _ (ev_set_same (by first | exact hz.at _ _ rfl | (simp [ev_set]; exact hz.at _ _ rfl))) ?_
  exact ev_vret rfl rfl trivial (⟨rfl, rfl, rfl⟩)

def h_Acts (h : Hp) : Hp := h
set_option maxRecDepth 100000 in
set_option maxHeartbeats 4000000 in
theorem c_Acts_init (L : Nat) (h : Hp) (hz : ev_Z 11 h) : EvM mi_X0_init [.ref 11] (gb_11 L) h 11 310 (fun v G' h' => v = none ∧ G' = ga_11 L ∧ h' = h_Acts h) := by
  refine EvM.of2 (lo := [some (.ref 11)]) pf_X0_init ok_X0_init rfl rfl ?_
  refine ev_aload_n rfl rfl rfl ?_
  refine ev_obj rfl rfl oi_X0_5 oi_i oi_c rfl rfl ?_
  refine ev_aload_n rfl rfl rfl ?_
  refine ev_bipush (v := 10) rfl rfl (by decide) ?_
  refine ev_bipush (v := 30) rfl rfl (by decide) ?_
  refine ev_mna (N := 10) (K := 30) (kc := 0) (ks := 0) rfl rfl ca_X0_11 ac_int (by decide) (by decide) (by decide) (by decide) (by decide) (by decide) rfl (hz.up (m := 12) rfl) ?_
  refine ev_putR rfl rfl fl_X0_13 (Or.inr ⟨rfl, _, rfl, rfl⟩) rfl rfl rfl rfl ?_
  refine ev_aload_n rfl rfl rfl ?_
  refine ev_iconst (v := 0) rfl rfl (by decide) ?_
  refine ev_putI rfl rfl fl_X0_16 rfl rfl rfl rfl rfl ?_
  refine EvQ.hp _ (ev_set_same (by first | exact hz.at _ _ rfl | (simp [ev_set]; exact hz.at _ _ rfl))) ?_
  refine ev_aload_n rfl rfl rfl ?_
  refine ev_iconst (v := 0) rfl rfl (by decide) ?_
  refine ev_putI rfl rfl fl_X0_20 rfl rfl rfl rfl rfl ?_
  refine EvQ.hp _ (ev_set_same (by first | exact hz.at _ _ rfl | (simp [ev_set]; exact hz.at _ _ rfl))) ?_
  refine ev_aload_n rfl rfl rfl ?_
  refine ev_iconst (v := 0) rfl rfl (by decide) ?_
  refine ev_putI rfl rfl fl_X0_23 rfl rfl rfl rfl rfl ?_
  refine EvQ.hp _ (ev_set_same (by first | exact hz.at _ _ rfl | (simp [ev_set]; exact hz.at _ _ rfl))) ?_
  exact ev_vret rfl rfl trivial (⟨rfl, rfl, rfl⟩)

def h_Reader (h : Hp) : Hp := ev_set h 23 6 (-1)
set_option maxRecDepth 100000 in
set_option maxHeartbeats 4000000 in
theorem c_Reader_init (L : Nat) (h : Hp) (hz : ev_Z 23 h) : EvM mi_X2_init [.ref 23] (gb_23 L) h 4 192 (fun v G' h' => v = none ∧ G' = ga_23 L ∧ h' = h_Reader h) := by
  refine EvM.of2 (lo := [some (.ref 23)]) pf_X2_init ok_X2_init rfl rfl ?_
  refine ev_aload_n rfl rfl rfl ?_
  refine ev_obj rfl rfl oi_X2_3 oi_i oi_c rfl rfl ?_
  refine ev_aload_n rfl rfl rfl ?_
  refine ev_sipush (v := 160) rfl rfl (by decide) ?_
  refine ev_newa (N := 160) (kc := 3) (ks := 32) rfl rfl rfl ac_byte ⟨rfl, rfl⟩ (by decide) (by decide) (by decide) rfl (fun j => ev_Z.at (hz.up (m := 24) rfl) 24 j rfl) ?_
  refine ev_putR rfl rfl fl_X2_11 (Or.inr ⟨rfl, _, rfl, rfl⟩) rfl rfl rfl rfl ?_
  refine ev_aload_n rfl rfl rfl ?_
  refine ev_iconst (v := 0) rfl rfl (by decide) ?_
  refine ev_putI rfl rfl fl_X2_15 rfl rfl rfl rfl rfl ?_
  refine EvQ.hp _ (ev_set_same (by first | exact hz.at _ _ rfl | (simp [ev_set]; exact hz.at _ _ rfl))) ?_
  refine ev_aload_n rfl rfl rfl ?_
  refine ev_iconst (v := 0) rfl rfl (by decide) ?_
  refine ev_putI rfl rfl fl_X2_19 rfl rfl rfl rfl rfl ?_
  refine EvQ.hp _ (ev_set_same (by first | exact hz.at _ _ rfl | (simp [ev_set]; exact hz.at _ _ rfl))) ?_
  refine ev_aload_n rfl rfl rfl ?_
  refine ev_iconst (v := 0) rfl rfl (by decide) ?_
  refine ev_putI rfl rfl fl_X2_22 rfl rfl rfl rfl rfl ?_
  refine EvQ.hp _ (ev_set_same (by first | exact hz.at _ _ rfl | (simp [ev_set]; exact hz.at _ _ rfl))) ?_
  refine ev_aload_n rfl rfl rfl ?_
  refine ev_iconst (v := 0) rfl rfl (by decide) ?_
  refine ev_putI rfl rfl fl_X2_25 rfl rfl rfl rfl rfl ?_
  refine EvQ.hp _ (ev_set_same (by first | exact hz.at _ _ rfl | (simp [ev_set]; exact hz.at _ _ rfl))) ?_
  refine ev_aload_n rfl rfl rfl ?_
  refine ev_iconst (v := 0) rfl rfl (by decide) ?_
  refine ev_putI rfl rfl fl_X2_28 rfl rfl rfl rfl rfl ?_
  refine EvQ.hp _ (ev_set_same (by first | exact hz.at _ _ rfl | (simp [ev_set]; exact hz.at _ _ rfl))) ?_
  refine ev_aload_n rfl rfl rfl ?_
  refine ev_iconst (v := (-1)) rfl rfl (by decide) ?_
  refine ev_putI rfl rfl fl_X2_31 rfl rfl rfl rfl rfl ?_
  refine ev_aload_n rfl rfl rfl ?_
  refine ev_iconst (v := 0) rfl rfl (by decide) ?_
  refine ev_putI rfl rfl fl_X2_34 rfl rfl rfl rfl rfl ?_
  refine EvQ.hp _ (ev_set_same (by first | exact hz.at _ _ rfl | (simp [ev_set]; exact hz.at _ _ rfl))) ?_
  refine ev_aload_n rfl rfl rfl ?_
  refine ev_iconst (v := 0) rfl rfl (by decide) ?_
  refine ev_putI rfl rfl fl_X2_37 rfl rfl rfl rfl rfl ?_
  refine EvQ.hp _ (ev_set_same (by first | exact hz.at _ _ rfl | (simp [ev_set]; exact hz.at _ _ rfl))) ?_
  refine ev_aload_n rfl rfl rfl ?_
  refine ev_bipush (v := 24) rfl rfl (by decide) ?_
  refine ev_newa (N := 24) (kc := 2) (ks := 8) rfl rfl rfl ac_int ⟨rfl, rfl⟩ (by decide) (by decide) (by decide) rfl (fun j => ev_Z.at ((hz.up (m := 25) rfl).set rfl) 25 j rfl) ?_
  refine ev_putR rfl rfl fl_X2_40 (Or.inr ⟨rfl, _, rfl, rfl⟩) rfl rfl rfl rfl ?_
  refine ev_aload_n rfl rfl rfl ?_
  refine ev_iconst (v := 0) rfl rfl (by decide) ?_
  refine ev_putI rfl rfl fl_X2_44 rfl rfl rfl rfl rfl ?_
  refine EvQ.hp _ (ev_set_same (by first | exact hz.at _ _ rfl | (simp [ev_set]; exact hz.at _ _ rfl))) ?_
  refine ev_aload_n rfl rfl rfl ?_
  refine ev_iconst (v := 4) rfl rfl (by decide) ?_
  refine ev_newa (N := 4) (kc := 1) (ks := 4) rfl rfl rfl ac_int ⟨rfl, rfl⟩ (by decide) (by decide) (by decide) rfl (fun j => ev_Z.at ((hz.up (m := 26) rfl).set rfl) 26 j rfl) ?_
  refine ev_putR rfl rfl fl_X2_47 (Or.inr ⟨rfl, _, rfl, rfl⟩) rfl rfl rfl rfl ?_
  refine ev_aload_n rfl rfl rfl ?_
  refine ev_iconst (v := 4) rfl rfl (by decide) ?_
  refine ev_newa (N := 4) (kc := 0) (ks := 0) rfl rfl rfl ac_int ⟨rfl, rfl⟩ (by decide) (by decide) (by decide) rfl (fun j => ev_Z.at ((hz.up (m := 27) rfl).set rfl) 27 j rfl) ?_
  refine ev_putR rfl rfl fl_X2_50 (Or.inr ⟨rfl, _, rfl, rfl⟩) rfl rfl rfl rfl ?_
  refine ev_aload_n rfl rfl rfl ?_
  refine ev_iconst (v := 0) rfl rfl (by decide) ?_
  refine ev_putI rfl rfl fl_X2_53 rfl rfl rfl rfl rfl ?_
  refine EvQ.hp _ (ev_set_same (by first | exact hz.at _ _ rfl | (simp [ev_set]; exact hz.at _ _ rfl))) ?_
  exact ev_vret rfl rfl trivial (⟨rfl, rfl, rfl⟩)

def h_Tunes (h : Hp) : Hp := h
set_option maxRecDepth 100000 in
set_option maxHeartbeats 4000000 in
theorem c_Tunes_init (L : Nat) (h : Hp) (hz : ev_Z 28 h) : EvM mi_X7_init [.ref 28] (gb_28 L) h 8 156 (fun v G' h' => v = none ∧ G' = ga_28 L ∧ h' = h_Tunes h) := by
  refine EvM.of2 (lo := [some (.ref 28)]) pf_X7_init ok_X7_init rfl rfl ?_
  refine ev_aload_n rfl rfl rfl ?_
  refine ev_obj rfl rfl oi_X7_3 oi_i oi_c rfl rfl ?_
  refine ev_aload_n rfl rfl rfl ?_
  refine ev_bipush (v := 6) rfl rfl (by decide) ?_
  refine ev_bipush (v := 24) rfl rfl (by decide) ?_
  refine ev_mna (N := 6) (K := 24) (kc := 1) (ks := 6) rfl rfl ca_X7_9 ac_int (by decide) (by decide) (by decide) (by decide) (by decide) (by decide) rfl (hz.up (m := 29) rfl) ?_
  refine ev_putR rfl rfl fl_X7_11 (Or.inr ⟨rfl, _, rfl, rfl⟩) rfl rfl rfl rfl ?_
  refine ev_aload_n rfl rfl rfl ?_
  refine ev_bipush (v := 6) rfl rfl (by decide) ?_
  refine ev_newa (N := 6) (kc := 0) (ks := 0) rfl rfl rfl ac_int ⟨rfl, rfl⟩ (by decide) (by decide) (by decide) rfl (fun j => ev_Z.at (hz.up (m := 36) rfl) 36 j rfl) ?_
  refine ev_putR rfl rfl fl_X7_16 (Or.inr ⟨rfl, _, rfl, rfl⟩) rfl rfl rfl rfl ?_
  refine ev_aload_n rfl rfl rfl ?_
  refine ev_iconst (v := 0) rfl rfl (by decide) ?_
  refine ev_putI rfl rfl fl_X7_20 rfl rfl rfl rfl rfl ?_
  refine EvQ.hp _ (ev_set_same (by first | exact hz.at _ _ rfl | (simp [ev_set]; exact hz.at _ _ rfl))) ?_
  exact ev_vret rfl rfl trivial (⟨rfl, rfl, rfl⟩)

def h_Setting (h : Hp) : Hp := h
set_option maxRecDepth 100000 in
set_option maxHeartbeats 4000000 in
theorem c_Setting_init (L : Nat) (h : Hp) (hz : ev_Z 37 h) : EvM mi_X4_init [.ref 37] (gb_37 L) h 7 342 (fun v G' h' => v = none ∧ G' = ga_37 L ∧ h' = h_Setting h) := by
  refine EvM.of2 (lo := [some (.ref 37)]) pf_X4_init ok_X4_init rfl rfl ?_
  refine ev_aload_n rfl rfl rfl ?_
  refine ev_obj rfl rfl oi_X4_3 oi_i oi_c rfl rfl ?_
  refine ev_aload_n rfl rfl rfl ?_
  refine ev_null rfl rfl ?_
  refine ev_putN rfl rfl fl_X4_9 (Or.inr ⟨rfl, _, rfl, rfl⟩) rfl rfl rfl rfl ?_
  refine ev_aload_n rfl rfl rfl ?_
  refine ev_sipush (v := 201) rfl rfl (by decide) ?_
  refine ev_newa (N := 201) (kc := 6) (ks := 141) rfl rfl rfl ac_int ⟨rfl, rfl⟩ (by decide) (by decide) (by decide) rfl (fun j => ev_Z.at (hz.up (m := 38) rfl) 38 j rfl) ?_
  refine ev_putR rfl rfl fl_X4_15 (Or.inr ⟨rfl, _, rfl, rfl⟩) rfl rfl rfl rfl ?_
  refine ev_aload_n rfl rfl rfl ?_
  refine ev_bipush (v := 24) rfl rfl (by decide) ?_
  refine ev_newa (N := 24) (kc := 5) (ks := 117) rfl rfl rfl ac_int ⟨rfl, rfl⟩ (by decide) (by decide) (by decide) rfl (fun j => ev_Z.at (hz.up (m := 39) rfl) 39 j rfl) ?_
  refine ev_putR rfl rfl fl_X4_18 (Or.inr ⟨rfl, _, rfl, rfl⟩) rfl rfl rfl rfl ?_
  refine ev_aload_n rfl rfl rfl ?_
  refine ev_iconst (v := 0) rfl rfl (by decide) ?_
  refine ev_putI rfl rfl fl_X4_21 rfl rfl rfl rfl rfl ?_
  refine EvQ.hp _ (ev_set_same (by first | exact hz.at _ _ rfl | (simp [ev_set]; exact hz.at _ _ rfl))) ?_
  refine ev_aload_n rfl rfl rfl ?_
  refine ev_iconst (v := 0) rfl rfl (by decide) ?_
  refine ev_putI rfl rfl fl_X4_25 rfl rfl rfl rfl rfl ?_
  refine EvQ.hp _ (ev_set_same (by first | exact hz.at _ _ rfl | (simp [ev_set]; exact hz.at _ _ rfl))) ?_
  refine ev_aload_n rfl rfl rfl ?_
  refine ev_bipush (v := 32) rfl rfl (by decide) ?_
  refine ev_newa (N := 32) (kc := 4) (ks := 85) rfl rfl rfl ac_int ⟨rfl, rfl⟩ (by decide) (by decide) (by decide) rfl (fun j => ev_Z.at (hz.up (m := 40) rfl) 40 j rfl) ?_
  refine ev_putR rfl rfl fl_X4_28 (Or.inr ⟨rfl, _, rfl, rfl⟩) rfl rfl rfl rfl ?_
  refine ev_aload_n rfl rfl rfl ?_
  refine ev_bipush (v := 32) rfl rfl (by decide) ?_
  refine ev_newa (N := 32) (kc := 3) (ks := 53) rfl rfl rfl ac_int ⟨rfl, rfl⟩ (by decide) (by decide) (by decide) rfl (fun j => ev_Z.at (hz.up (m := 41) rfl) 41 j rfl) ?_
  refine ev_putR rfl rfl fl_X4_31 (Or.inr ⟨rfl, _, rfl, rfl⟩) rfl rfl rfl rfl ?_
  refine ev_aload_n rfl rfl rfl ?_
  refine ev_iconst (v := 0) rfl rfl (by decide) ?_
  refine ev_putI rfl rfl fl_X4_34 rfl rfl rfl rfl rfl ?_
  refine EvQ.hp _ (ev_set_same (by first | exact hz.at _ _ rfl | (simp [ev_set]; exact hz.at _ _ rfl))) ?_
  refine ev_aload_n rfl rfl rfl ?_
  refine ev_iconst (v := 0) rfl rfl (by decide) ?_
  refine ev_putI rfl rfl fl_X4_37 rfl rfl rfl rfl rfl ?_
  refine EvQ.hp _ (ev_set_same (by first | exact hz.at _ _ rfl | (simp [ev_set]; exact hz.at _ _ rfl))) ?_
  refine ev_aload_n rfl rfl rfl ?_
  refine ev_bipush (v := 24) rfl rfl (by decide) ?_
  refine ev_newa (N := 24) (kc := 2) (ks := 29) rfl rfl rfl ac_int ⟨rfl, rfl⟩ (by decide) (by decide) (by decide) rfl (fun j => ev_Z.at (hz.up (m := 42) rfl) 42 j rfl) ?_
  refine ev_putR rfl rfl fl_X4_40 (Or.inr ⟨rfl, _, rfl, rfl⟩) rfl rfl rfl rfl ?_
  refine ev_aload_n rfl rfl rfl ?_
  refine ev_bipush (v := 24) rfl rfl (by decide) ?_
  refine ev_newa (N := 24) (kc := 1) (ks := 5) rfl rfl rfl ac_int ⟨rfl, rfl⟩ (by decide) (by decide) (by decide) rfl (fun j => ev_Z.at (hz.up (m := 43) rfl) 43 j rfl) ?_
  refine ev_putR rfl rfl fl_X4_43 (Or.inr ⟨rfl, _, rfl, rfl⟩) rfl rfl rfl rfl ?_
  refine ev_aload_n rfl rfl rfl ?_
  refine ev_iconst (v := 0) rfl rfl (by decide) ?_
  refine ev_putI rfl rfl fl_X4_46 rfl rfl rfl rfl rfl ?_
  refine EvQ.hp _ (ev_set_same (by first | exact hz.at _ _ rfl | (simp [ev_set]; exact hz.at _ _ rfl))) ?_
  refine ev_aload_n rfl rfl rfl ?_
  refine ev_iconst (v := 0) rfl rfl (by decide) ?_
  refine ev_putI rfl rfl fl_X4_49 rfl rfl rfl rfl rfl ?_
  refine EvQ.hp _ (ev_set_same (by first | exact hz.at _ _ rfl | (simp [ev_set]; exact hz.at _ _ rfl))) ?_
  refine ev_aload_n rfl rfl rfl ?_
  refine ev_iconst (v := 0) rfl rfl (by decide) ?_
  refine ev_putI rfl rfl fl_X4_52 rfl rfl rfl rfl rfl ?_
  refine EvQ.hp _ (ev_set_same (by first | exact hz.at _ _ rfl | (simp [ev_set]; exact hz.at _ _ rfl))) ?_
  refine ev_aload_n rfl rfl rfl ?_
  refine ev_iconst (v := 5) rfl rfl (by decide) ?_
  refine ev_newa (N := 5) (kc := 0) (ks := 0) rfl rfl rfl ac_int ⟨rfl, rfl⟩ (by decide) (by decide) (by decide) rfl (fun j => ev_Z.at (hz.up (m := 44) rfl) 44 j rfl) ?_
  refine ev_putR rfl rfl fl_X4_55 (Or.inr ⟨rfl, _, rfl, rfl⟩) rfl rfl rfl rfl ?_
  refine ev_aload_n rfl rfl rfl ?_
  refine ev_iconst (v := 0) rfl rfl (by decide) ?_
  refine ev_putZ rfl rfl fl_X4_58 rfl rfl rfl rfl rfl (by decide) ?_
  refine EvQ.hp _ (ev_set_same (by first | exact hz.at _ _ rfl | (simp [ev_set]; exact hz.at _ _ rfl))) ?_
  exact ev_vret rfl rfl trivial (⟨rfl, rfl, rfl⟩)

def h_Suspects (h : Hp) : Hp := ev_set h 45 7 (-1)
set_option maxRecDepth 100000 in
set_option maxHeartbeats 4000000 in
theorem c_Suspects_init (L : Nat) (h : Hp) (hz : ev_Z 45 h) : EvM mi_X6_init [.ref 45] (gb_45 L) h 4 72 (fun v G' h' => v = none ∧ G' = ga_45 L ∧ h' = h_Suspects h) := by
  refine EvM.of2 (lo := [some (.ref 45)]) pf_X6_init ok_X6_init rfl rfl ?_
  refine ev_aload_n rfl rfl rfl ?_
  refine ev_obj rfl rfl oi_X6_3 oi_i oi_c rfl rfl ?_
  refine ev_aload_n rfl rfl rfl ?_
  refine ev_bipush (v := 24) rfl rfl (by decide) ?_
  refine ev_newa (N := 24) (kc := 3) (ks := 48) rfl rfl rfl ac_int ⟨rfl, rfl⟩ (by decide) (by decide) (by decide) rfl (fun j => ev_Z.at (hz.up (m := 46) rfl) 46 j rfl) ?_
  refine ev_putR rfl rfl fl_X6_9 (Or.inr ⟨rfl, _, rfl, rfl⟩) rfl rfl rfl rfl ?_
  refine ev_aload_n rfl rfl rfl ?_
  refine ev_bipush (v := 24) rfl rfl (by decide) ?_
  refine ev_newa (N := 24) (kc := 2) (ks := 24) rfl rfl rfl ac_int ⟨rfl, rfl⟩ (by decide) (by decide) (by decide) rfl (fun j => ev_Z.at (hz.up (m := 47) rfl) 47 j rfl) ?_
  refine ev_putR rfl rfl fl_X6_15 (Or.inr ⟨rfl, _, rfl, rfl⟩) rfl rfl rfl rfl ?_
  refine ev_aload_n rfl rfl rfl ?_
  refine ev_iconst (v := 0) rfl rfl (by decide) ?_
  refine ev_putI rfl rfl fl_X6_18 rfl rfl rfl rfl rfl ?_
  refine EvQ.hp _ (ev_set_same (by first | exact hz.at _ _ rfl | (simp [ev_set]; exact hz.at _ _ rfl))) ?_
  refine ev_aload_n rfl rfl rfl ?_
  refine ev_bipush (v := 12) rfl rfl (by decide) ?_
  refine ev_newa (N := 12) (kc := 1) (ks := 12) rfl rfl rfl ac_int ⟨rfl, rfl⟩ (by decide) (by decide) (by decide) rfl (fun j => ev_Z.at (hz.up (m := 48) rfl) 48 j rfl) ?_
  refine ev_putR rfl rfl fl_X6_22 (Or.inr ⟨rfl, _, rfl, rfl⟩) rfl rfl rfl rfl ?_
  refine ev_aload_n rfl rfl rfl ?_
  refine ev_iconst (v := 0) rfl rfl (by decide) ?_
  refine ev_putI rfl rfl fl_X6_25 rfl rfl rfl rfl rfl ?_
  refine EvQ.hp _ (ev_set_same (by first | exact hz.at _ _ rfl | (simp [ev_set]; exact hz.at _ _ rfl))) ?_
  refine ev_aload_n rfl rfl rfl ?_
  refine ev_bipush (v := 12) rfl rfl (by decide) ?_
  refine ev_newa (N := 12) (kc := 0) (ks := 0) rfl rfl rfl ac_int ⟨rfl, rfl⟩ (by decide) (by decide) (by decide) rfl (fun j => ev_Z.at (hz.up (m := 49) rfl) 49 j rfl) ?_
  refine ev_putR rfl rfl fl_X6_28 (Or.inr ⟨rfl, _, rfl, rfl⟩) rfl rfl rfl rfl ?_
  refine ev_aload_n rfl rfl rfl ?_
  refine ev_iconst (v := 0) rfl rfl (by decide) ?_
  refine ev_putI rfl rfl fl_X6_31 rfl rfl rfl rfl rfl ?_
  refine EvQ.hp _ (ev_set_same (by first | exact hz.at _ _ rfl | (simp [ev_set]; exact hz.at _ _ rfl))) ?_
  refine ev_aload_n rfl rfl rfl ?_
  refine ev_iconst (v := (-1)) rfl rfl (by decide) ?_
  refine ev_putI rfl rfl fl_X6_34 rfl rfl rfl rfl rfl ?_
  exact ev_vret rfl rfl trivial (⟨rfl, rfl, rfl⟩)

def h_River (h : Hp) : Hp := ev_set (ev_set (ev_set h 50 6 10) 50 8 (-4)) 50 9 (-4)
set_option maxRecDepth 100000 in
set_option maxHeartbeats 4000000 in
theorem c_River_init (L : Nat) (h : Hp) (hz : ev_Z 50 h) : EvM mi_X3_init [.ref 50] (gb_50 L) h 4 20 (fun v G' h' => v = none ∧ G' = ga_50 L ∧ h' = h_River h) := by
  refine EvM.of2 (lo := [some (.ref 50)]) pf_X3_init ok_X3_init rfl rfl ?_
  refine ev_aload_n rfl rfl rfl ?_
  refine ev_obj rfl rfl oi_X3_3 oi_i oi_c rfl rfl ?_
  refine ev_aload_n rfl rfl rfl ?_
  refine ev_iconst (v := 4) rfl rfl (by decide) ?_
  refine ev_newa (N := 4) (kc := 3) (ks := 16) rfl rfl rfl ac_int ⟨rfl, rfl⟩ (by decide) (by decide) (by decide) rfl (fun j => ev_Z.at (hz.up (m := 51) rfl) 51 j rfl) ?_
  refine ev_putR rfl rfl fl_X3_11 (Or.inr ⟨rfl, _, rfl, rfl⟩) rfl rfl rfl rfl ?_
  refine ev_aload_n rfl rfl rfl ?_
  refine ev_iconst (v := 4) rfl rfl (by decide) ?_
  refine ev_newa (N := 4) (kc := 2) (ks := 12) rfl rfl rfl ac_int ⟨rfl, rfl⟩ (by decide) (by decide) (by decide) rfl (fun j => ev_Z.at (hz.up (m := 52) rfl) 52 j rfl) ?_
  refine ev_putR rfl rfl fl_X3_15 (Or.inr ⟨rfl, _, rfl, rfl⟩) rfl rfl rfl rfl ?_
  refine ev_aload_n rfl rfl rfl ?_
  refine ev_iconst (v := 0) rfl rfl (by decide) ?_
  refine ev_putI rfl rfl fl_X3_18 rfl rfl rfl rfl rfl ?_
  refine EvQ.hp _ (ev_set_same (by first | exact hz.at _ _ rfl | (simp [ev_set]; exact hz.at _ _ rfl))) ?_
  refine ev_aload_n rfl rfl rfl ?_
  refine ev_bipush (v := 6) rfl rfl (by decide) ?_
  refine ev_newa (N := 6) (kc := 1) (ks := 6) rfl rfl rfl ac_int ⟨rfl, rfl⟩ (by decide) (by decide) (by decide) rfl (fun j => ev_Z.at (hz.up (m := 53) rfl) 53 j rfl) ?_
  refine ev_putR rfl rfl fl_X3_22 (Or.inr ⟨rfl, _, rfl, rfl⟩) rfl rfl rfl rfl ?_
  refine ev_aload_n rfl rfl rfl ?_
  refine ev_bipush (v := 6) rfl rfl (by decide) ?_
  refine ev_newa (N := 6) (kc := 0) (ks := 0) rfl rfl rfl ac_int ⟨rfl, rfl⟩ (by decide) (by decide) (by decide) rfl (fun j => ev_Z.at (hz.up (m := 54) rfl) 54 j rfl) ?_
  refine ev_putR rfl rfl fl_X3_25 (Or.inr ⟨rfl, _, rfl, rfl⟩) rfl rfl rfl rfl ?_
  refine ev_aload_n rfl rfl rfl ?_
  refine ev_iconst (v := 0) rfl rfl (by decide) ?_
  refine ev_putI rfl rfl fl_X3_28 rfl rfl rfl rfl rfl ?_
  refine EvQ.hp _ (ev_set_same (by first | exact hz.at _ _ rfl | (simp [ev_set]; exact hz.at _ _ rfl))) ?_
  refine ev_aload_n rfl rfl rfl ?_
  refine ev_bipush (v := 10) rfl rfl (by decide) ?_
  refine ev_putI rfl rfl fl_X3_31 rfl rfl rfl rfl rfl ?_
  refine ev_aload_n rfl rfl rfl ?_
  refine ev_iconst (v := 0) rfl rfl (by decide) ?_
  refine ev_putI rfl rfl fl_X3_34 rfl rfl rfl rfl rfl ?_
  refine EvQ.hp _ (ev_set_same (by first | exact hz.at _ _ rfl | (simp [ev_set]; exact hz.at _ _ rfl))) ?_
  refine ev_aload_n rfl rfl rfl ?_
  refine ev_bipush (v := (-4)) rfl rfl (by decide) ?_
  refine ev_putI rfl rfl fl_X3_37 rfl rfl rfl rfl rfl ?_
  refine ev_aload_n rfl rfl rfl ?_
  refine ev_bipush (v := (-4)) rfl rfl (by decide) ?_
  refine ev_putI rfl rfl fl_X3_40 rfl rfl rfl rfl rfl ?_
  refine ev_aload_n rfl rfl rfl ?_
  refine ev_iconst (v := 0) rfl rfl (by decide) ?_
  refine ev_putI rfl rfl fl_X3_43 rfl rfl rfl rfl rfl ?_
  refine EvQ.hp _ (ev_set_same (by first | exact hz.at _ _ rfl | (simp [ev_set]; exact hz.at _ _ rfl))) ?_
  exact ev_vret rfl rfl trivial (⟨rfl, rfl, rfl⟩)

def h_Sheets (h : Hp) : Hp := ev_set (ev_set (ev_set (ev_set h 62 0 (-1)) 62 1 (-1)) 62 2 (-1)) 62 3 (-1)
set_option maxRecDepth 100000 in
set_option maxHeartbeats 4000000 in
theorem c_Sheets_init (L : Nat) (h : Hp) (hz : ev_Z 55 h) : EvM mi_X5_init [.ref 55] (gb_55 L) h 7 252 (fun v G' h' => v = none ∧ G' = ga_55 L ∧ h' = h_Sheets h) := by
  refine EvM.of2 (lo := [some (.ref 55)]) pf_X5_init ok_X5_init rfl rfl ?_
  refine ev_aload_n rfl rfl rfl ?_
  refine ev_obj rfl rfl oi_X5_1 oi_i oi_c rfl rfl ?_
  refine ev_aload_n rfl rfl rfl ?_
  refine ev_iconst (v := 4) rfl rfl (by decide) ?_
  refine ev_bipush (v := 60) rfl rfl (by decide) ?_
  refine ev_mna (N := 4) (K := 60) (kc := 2) (ks := 8) rfl rfl ca_X5_9 ac_int (by decide) (by decide) (by decide) (by decide) (by decide) (by decide) rfl (hz.up (m := 56) rfl) ?_
  refine ev_putR rfl rfl fl_X5_11 (Or.inr ⟨rfl, _, rfl, rfl⟩) rfl rfl rfl rfl ?_
  refine ev_aload_n rfl rfl rfl ?_
  refine ev_iconst (v := 4) rfl rfl (by decide) ?_
  refine ev_newa (N := 4) (kc := 1) (ks := 4) rfl rfl rfl ac_int ⟨rfl, rfl⟩ (by decide) (by decide) (by decide) rfl (fun j => ev_Z.at (hz.up (m := 61) rfl) 61 j rfl) ?_
  refine ev_putR rfl rfl fl_X5_14 (Or.inr ⟨rfl, _, rfl, rfl⟩) rfl rfl rfl rfl ?_
  refine ev_aload_n rfl rfl rfl ?_
  refine ev_iconst (v := 4) rfl rfl (by decide) ?_
  refine ev_newa (N := 4) (kc := 0) (ks := 0) rfl rfl rfl ac_int ⟨rfl, rfl⟩ (by decide) (by decide) (by decide) rfl (fun j => ev_Z.at (hz.up (m := 62) rfl) 62 j rfl) ?_
  refine ev_dup rfl rfl rfl ?_
  refine ev_iconst (v := 0) rfl rfl (by decide) ?_
  refine ev_iconst (v := (-1)) rfl rfl (by decide) ?_
  refine ev_iast (j := 0) rfl rfl rfl rfl (by unfold vp_in; decide) (by decide) ?_
  refine ev_dup rfl rfl rfl ?_
  refine ev_iconst (v := 1) rfl rfl (by decide) ?_
  refine ev_iconst (v := (-1)) rfl rfl (by decide) ?_
  refine ev_iast (j := 1) rfl rfl rfl rfl (by unfold vp_in; decide) (by decide) ?_
  refine ev_dup rfl rfl rfl ?_
  refine ev_iconst (v := 2) rfl rfl (by decide) ?_
  refine ev_iconst (v := (-1)) rfl rfl (by decide) ?_
  refine ev_iast (j := 2) rfl rfl rfl rfl (by unfold vp_in; decide) (by decide) ?_
  refine ev_dup rfl rfl rfl ?_
  refine ev_iconst (v := 3) rfl rfl (by decide) ?_
  refine ev_iconst (v := (-1)) rfl rfl (by decide) ?_
  refine ev_iast (j := 3) rfl rfl rfl rfl (by unfold vp_in; decide) (by decide) ?_
  refine ev_putR rfl rfl fl_X5_18 (Or.inr ⟨rfl, _, rfl, rfl⟩) rfl rfl rfl rfl ?_
  exact ev_vret rfl rfl trivial (⟨rfl, rfl, rfl⟩)

def h_Model (h : Hp) : Hp := ev_set (ev_set (ev_set (ev_set (ev_set (ev_set (ev_set (ev_set (ev_set h 63 0 100) 63 1 1000) 63 2 3) 63 3 150) 63 51 10) 92 0 (-4)) 92 1 (-4)) 92 2 (-4)) 92 3 (-4)
set_option maxRecDepth 100000 in
set_option maxHeartbeats 4000000 in
theorem c_Model_init (L : Nat) (h : Hp) (hz : ev_Z 63 h) : EvM mi_X10_init [.ref 63] (gm_0 L) h 31 100083 (fun v G' h' => v = none ∧ G' = gm_31 L ∧ h' = h_Model h) := by
  refine EvM.of2 (lo := [some (.ref 63), none]) pf_X10_init ok_X10_init rfl rfl ?_
  refine ev_aload_n rfl rfl rfl ?_
  refine ev_obj rfl rfl oi_X10_1 oi_i oi_c rfl rfl ?_
  refine ev_aload_n rfl rfl rfl ?_
  refine ev_bipush (v := 100) rfl rfl (by decide) ?_
  refine ev_putI rfl rfl fl_X10_7 rfl rfl rfl rfl rfl ?_
  refine ev_aload_n rfl rfl rfl ?_
  refine ev_sipush (v := 1000) rfl rfl (by decide) ?_
  refine ev_putI rfl rfl fl_X10_13 rfl rfl rfl rfl rfl ?_
  refine ev_aload_n rfl rfl rfl ?_
  refine ev_iconst (v := 3) rfl rfl (by decide) ?_
  refine ev_putI rfl rfl fl_X10_16 rfl rfl rfl rfl rfl ?_
  refine ev_aload_n rfl rfl rfl ?_
  refine ev_sipush (v := 150) rfl rfl (by decide) ?_
  refine ev_putI rfl rfl fl_X10_19 rfl rfl rfl rfl rfl ?_
  refine ev_aload_n rfl rfl rfl ?_
  refine ev_bipush (v := 12) rfl rfl (by decide) ?_
  refine ev_newa (N := 12) (kc := 30) (ks := 100071) rfl rfl rfl ac_int ⟨rfl, rfl⟩ (by decide) (by decide) (by decide) rfl (fun j => ev_Z.at (((((hz.up (m := 64) rfl).set rfl).set rfl).set rfl).set rfl) 64 j rfl) ?_
  refine ev_putR rfl rfl fl_X10_22 (Or.inr ⟨rfl, _, rfl, rfl⟩) rfl rfl rfl rfl ?_
  refine EvQ.geo (gm_1 L) rfl ?_
  refine ev_aload_n rfl rfl rfl ?_
  refine ev_bipush (v := 12) rfl rfl (by decide) ?_
  refine ev_newa (N := 12) (kc := 29) (ks := 100059) rfl rfl rfl ac_int ⟨rfl, rfl⟩ (by decide) (by decide) (by decide) rfl (fun j => ev_Z.at (((((hz.up (m := 65) rfl).set rfl).set rfl).set rfl).set rfl) 65 j rfl) ?_
  refine ev_putR rfl rfl fl_X10_26 (Or.inr ⟨rfl, _, rfl, rfl⟩) rfl rfl rfl rfl ?_
  refine EvQ.geo (gm_2 L) rfl ?_
  refine ev_aload_n rfl rfl rfl ?_
  refine ev_bipush (v := 12) rfl rfl (by decide) ?_
  refine ev_newa (N := 12) (kc := 28) (ks := 100047) rfl rfl rfl ac_int ⟨rfl, rfl⟩ (by decide) (by decide) (by decide) rfl (fun j => ev_Z.at (((((hz.up (m := 66) rfl).set rfl).set rfl).set rfl).set rfl) 66 j rfl) ?_
  refine ev_putR rfl rfl fl_X10_29 (Or.inr ⟨rfl, _, rfl, rfl⟩) rfl rfl rfl rfl ?_
  refine EvQ.geo (gm_3 L) rfl ?_
  refine ev_aload_n rfl rfl rfl ?_
  refine ev_bipush (v := 12) rfl rfl (by decide) ?_
  refine ev_newa (N := 12) (kc := 27) (ks := 100035) rfl rfl rfl ac_boolean ⟨rfl, rfl⟩ (by decide) (by decide) (by decide) rfl (fun j => ev_Z.at (((((hz.up (m := 67) rfl).set rfl).set rfl).set rfl).set rfl) 67 j rfl) ?_
  refine ev_putR rfl rfl fl_X10_32 (Or.inr ⟨rfl, _, rfl, rfl⟩) rfl rfl rfl rfl ?_
  refine EvQ.geo (gm_4 L) rfl ?_
  refine ev_aload_n rfl rfl rfl ?_
  refine ev_bipush (v := 12) rfl rfl (by decide) ?_
  refine ev_newa (N := 12) (kc := 26) (ks := 100023) rfl rfl rfl ac_int ⟨rfl, rfl⟩ (by decide) (by decide) (by decide) rfl (fun j => ev_Z.at (((((hz.up (m := 68) rfl).set rfl).set rfl).set rfl).set rfl) 68 j rfl) ?_
  refine ev_putR rfl rfl fl_X10_36 (Or.inr ⟨rfl, _, rfl, rfl⟩) rfl rfl rfl rfl ?_
  refine EvQ.geo (gm_5 L) rfl ?_
  refine ev_aload_n rfl rfl rfl ?_
  refine ev_bipush (v := 12) rfl rfl (by decide) ?_
  refine ev_newa (N := 12) (kc := 25) (ks := 100011) rfl rfl rfl ac_int ⟨rfl, rfl⟩ (by decide) (by decide) (by decide) rfl (fun j => ev_Z.at (((((hz.up (m := 69) rfl).set rfl).set rfl).set rfl).set rfl) 69 j rfl) ?_
  refine ev_putR rfl rfl fl_X10_39 (Or.inr ⟨rfl, _, rfl, rfl⟩) rfl rfl rfl rfl ?_
  refine EvQ.geo (gm_6 L) rfl ?_
  refine ev_aload_n rfl rfl rfl ?_
  refine ev_bipush (v := 12) rfl rfl (by decide) ?_
  refine ev_newa (N := 12) (kc := 24) (ks := 99999) rfl rfl rfl ac_boolean ⟨rfl, rfl⟩ (by decide) (by decide) (by decide) rfl (fun j => ev_Z.at (((((hz.up (m := 70) rfl).set rfl).set rfl).set rfl).set rfl) 70 j rfl) ?_
  refine ev_putR rfl rfl fl_X10_42 (Or.inr ⟨rfl, _, rfl, rfl⟩) rfl rfl rfl rfl ?_
  refine EvQ.geo (gm_7 L) rfl ?_
  refine ev_aload_n rfl rfl rfl ?_
  refine ev_sipush (v := 420) rfl rfl (by decide) ?_
  refine ev_newa (N := 420) (kc := 23) (ks := 99579) rfl rfl rfl ac_int ⟨rfl, rfl⟩ (by decide) (by decide) (by decide) rfl (fun j => ev_Z.at (((((hz.up (m := 71) rfl).set rfl).set rfl).set rfl).set rfl) 71 j rfl) ?_
  refine ev_putR rfl rfl fl_X10_45 (Or.inr ⟨rfl, _, rfl, rfl⟩) rfl rfl rfl rfl ?_
  refine EvQ.geo (gm_8 L) rfl ?_
  refine ev_aload_n rfl rfl rfl ?_
  refine ev_sipush (v := 160) rfl rfl (by decide) ?_
  refine ev_newa (N := 160) (kc := 22) (ks := 99419) rfl rfl rfl ac_int ⟨rfl, rfl⟩ (by decide) (by decide) (by decide) rfl (fun j => ev_Z.at (((((hz.up (m := 72) rfl).set rfl).set rfl).set rfl).set rfl) 72 j rfl) ?_
  refine ev_putR rfl rfl fl_X10_48 (Or.inr ⟨rfl, _, rfl, rfl⟩) rfl rfl rfl rfl ?_
  refine EvQ.geo (gm_9 L) rfl ?_
  refine ev_aload_n rfl rfl rfl ?_
  refine ev_bipush (v := 6) rfl rfl (by decide) ?_
  refine ev_newa (N := 6) (kc := 21) (ks := 99413) rfl rfl rfl ac_int ⟨rfl, rfl⟩ (by decide) (by decide) (by decide) rfl (fun j => ev_Z.at (((((hz.up (m := 73) rfl).set rfl).set rfl).set rfl).set rfl) 73 j rfl) ?_
  refine ev_putR rfl rfl fl_X10_51 (Or.inr ⟨rfl, _, rfl, rfl⟩) rfl rfl rfl rfl ?_
  refine EvQ.geo (gm_10 L) rfl ?_
  refine ev_aload_n rfl rfl rfl ?_
  refine ev_sipush (v := 144) rfl rfl (by decide) ?_
  refine ev_newa (N := 144) (kc := 20) (ks := 99269) rfl rfl rfl ac_int ⟨rfl, rfl⟩ (by decide) (by decide) (by decide) rfl (fun j => ev_Z.at (((((hz.up (m := 74) rfl).set rfl).set rfl).set rfl).set rfl) 74 j rfl) ?_
  refine ev_putR rfl rfl fl_X10_54 (Or.inr ⟨rfl, _, rfl, rfl⟩) rfl rfl rfl rfl ?_
  refine EvQ.geo (gm_11 L) rfl ?_
  refine ev_aload_n rfl rfl rfl ?_
  refine ev_bipush (v := 64) rfl rfl (by decide) ?_
  refine ev_newa (N := 64) (kc := 19) (ks := 99205) rfl rfl rfl ac_int ⟨rfl, rfl⟩ (by decide) (by decide) (by decide) rfl (fun j => ev_Z.at (((((hz.up (m := 75) rfl).set rfl).set rfl).set rfl).set rfl) 75 j rfl) ?_
  refine ev_putR rfl rfl fl_X10_57 (Or.inr ⟨rfl, _, rfl, rfl⟩) rfl rfl rfl rfl ?_
  refine EvQ.geo (gm_12 L) rfl ?_
  refine ev_aload_n rfl rfl rfl ?_
  refine ev_iconst (v := 5) rfl rfl (by decide) ?_
  refine ev_newa (N := 5) (kc := 18) (ks := 99200) rfl rfl rfl ac_int ⟨rfl, rfl⟩ (by decide) (by decide) (by decide) rfl (fun j => ev_Z.at (((((hz.up (m := 76) rfl).set rfl).set rfl).set rfl).set rfl) 76 j rfl) ?_
  refine ev_putR rfl rfl fl_X10_60 (Or.inr ⟨rfl, _, rfl, rfl⟩) rfl rfl rfl rfl ?_
  refine EvQ.geo (gm_13 L) rfl ?_
  refine ev_aload_n rfl rfl rfl ?_
  refine ev_iconst (v := 5) rfl rfl (by decide) ?_
  refine ev_newa (N := 5) (kc := 17) (ks := 99195) rfl rfl rfl ac_int ⟨rfl, rfl⟩ (by decide) (by decide) (by decide) rfl (fun j => ev_Z.at (((((hz.up (m := 77) rfl).set rfl).set rfl).set rfl).set rfl) 77 j rfl) ?_
  refine ev_putR rfl rfl fl_X10_63 (Or.inr ⟨rfl, _, rfl, rfl⟩) rfl rfl rfl rfl ?_
  refine EvQ.geo (gm_14 L) rfl ?_
  refine ev_aload_n rfl rfl rfl ?_
  refine ev_ldc rfl rfl kc_X10_66 ?_
  refine ev_newa (N := 45225) (kc := 16) (ks := 53970) rfl rfl rfl ac_int ⟨rfl, rfl⟩ (by decide) (by decide) (by decide) rfl (fun j => ev_Z.at (((((hz.up (m := 78) rfl).set rfl).set rfl).set rfl).set rfl) 78 j rfl) ?_
  refine ev_putR rfl rfl fl_X10_67 (Or.inr ⟨rfl, _, rfl, rfl⟩) rfl rfl rfl rfl ?_
  refine EvQ.geo (gm_15 L) rfl ?_
  refine ev_aload_n rfl rfl rfl ?_
  refine ev_bipush (v := 24) rfl rfl (by decide) ?_
  refine ev_newa (N := 24) (kc := 15) (ks := 53946) rfl rfl rfl ac_int ⟨rfl, rfl⟩ (by decide) (by decide) (by decide) rfl (fun j => ev_Z.at (((((hz.up (m := 79) rfl).set rfl).set rfl).set rfl).set rfl) 79 j rfl) ?_
  refine ev_putR rfl rfl fl_X10_70 (Or.inr ⟨rfl, _, rfl, rfl⟩) rfl rfl rfl rfl ?_
  refine EvQ.geo (gm_16 L) rfl ?_
  refine ev_aload_n rfl rfl rfl ?_
  refine ev_bipush (v := 24) rfl rfl (by decide) ?_
  refine ev_newa (N := 24) (kc := 14) (ks := 53922) rfl rfl rfl ac_int ⟨rfl, rfl⟩ (by decide) (by decide) (by decide) rfl (fun j => ev_Z.at (((((hz.up (m := 80) rfl).set rfl).set rfl).set rfl).set rfl) 80 j rfl) ?_
  refine ev_putR rfl rfl fl_X10_73 (Or.inr ⟨rfl, _, rfl, rfl⟩) rfl rfl rfl rfl ?_
  refine EvQ.geo (gm_17 L) rfl ?_
  refine ev_aload_n rfl rfl rfl ?_
  refine ev_sipush (v := 201) rfl rfl (by decide) ?_
  refine ev_newa (N := 201) (kc := 13) (ks := 53721) rfl rfl rfl ac_int ⟨rfl, rfl⟩ (by decide) (by decide) (by decide) rfl (fun j => ev_Z.at (((((hz.up (m := 81) rfl).set rfl).set rfl).set rfl).set rfl) 81 j rfl) ?_
  refine ev_putR rfl rfl fl_X10_76 (Or.inr ⟨rfl, _, rfl, rfl⟩) rfl rfl rfl rfl ?_
  refine EvQ.geo (gm_18 L) rfl ?_
  refine ev_aload_n rfl rfl rfl ?_
  refine ev_sipush (v := 4096) rfl rfl (by decide) ?_
  refine ev_newa (N := 4096) (kc := 12) (ks := 49625) rfl rfl rfl ac_int ⟨rfl, rfl⟩ (by decide) (by decide) (by decide) rfl (fun j => ev_Z.at (((((hz.up (m := 82) rfl).set rfl).set rfl).set rfl).set rfl) 82 j rfl) ?_
  refine ev_putR rfl rfl fl_X10_79 (Or.inr ⟨rfl, _, rfl, rfl⟩) rfl rfl rfl rfl ?_
  refine EvQ.geo (gm_19 L) rfl ?_
  refine ev_aload_n rfl rfl rfl ?_
  refine ev_sipush (v := 4096) rfl rfl (by decide) ?_
  refine ev_newa (N := 4096) (kc := 11) (ks := 45529) rfl rfl rfl ac_int ⟨rfl, rfl⟩ (by decide) (by decide) (by decide) rfl (fun j => ev_Z.at (((((hz.up (m := 83) rfl).set rfl).set rfl).set rfl).set rfl) 83 j rfl) ?_
  refine ev_putR rfl rfl fl_X10_82 (Or.inr ⟨rfl, _, rfl, rfl⟩) rfl rfl rfl rfl ?_
  refine EvQ.geo (gm_20 L) rfl ?_
  refine ev_aload_n rfl rfl rfl ?_
  refine ev_ldc rfl rfl kc_X10_66 ?_
  refine ev_newa (N := 45225) (kc := 10) (ks := 304) rfl rfl rfl ac_boolean ⟨rfl, rfl⟩ (by decide) (by decide) (by decide) rfl (fun j => ev_Z.at (((((hz.up (m := 84) rfl).set rfl).set rfl).set rfl).set rfl) 84 j rfl) ?_
  refine ev_putR rfl rfl fl_X10_85 (Or.inr ⟨rfl, _, rfl, rfl⟩) rfl rfl rfl rfl ?_
  refine EvQ.geo (gm_21 L) rfl ?_
  refine ev_aload_n rfl rfl rfl ?_
  refine ev_bipush (v := 12) rfl rfl (by decide) ?_
  refine ev_newa (N := 12) (kc := 9) (ks := 292) rfl rfl rfl ac_int ⟨rfl, rfl⟩ (by decide) (by decide) (by decide) rfl (fun j => ev_Z.at (((((hz.up (m := 85) rfl).set rfl).set rfl).set rfl).set rfl) 85 j rfl) ?_
  refine ev_putR rfl rfl fl_X10_88 (Or.inr ⟨rfl, _, rfl, rfl⟩) rfl rfl rfl rfl ?_
  refine EvQ.geo (gm_22 L) rfl ?_
  refine ev_aload_n rfl rfl rfl ?_
  refine ev_bipush (v := 12) rfl rfl (by decide) ?_
  refine ev_newa (N := 12) (kc := 8) (ks := 280) rfl rfl rfl ac_boolean ⟨rfl, rfl⟩ (by decide) (by decide) (by decide) rfl (fun j => ev_Z.at (((((hz.up (m := 86) rfl).set rfl).set rfl).set rfl).set rfl) 86 j rfl) ?_
  refine ev_putR rfl rfl fl_X10_91 (Or.inr ⟨rfl, _, rfl, rfl⟩) rfl rfl rfl rfl ?_
  refine EvQ.geo (gm_23 L) rfl ?_
  refine ev_aload_n rfl rfl rfl ?_
  refine ev_bipush (v := 12) rfl rfl (by decide) ?_
  refine ev_newa (N := 12) (kc := 7) (ks := 268) rfl rfl rfl ac_int ⟨rfl, rfl⟩ (by decide) (by decide) (by decide) rfl (fun j => ev_Z.at (((((hz.up (m := 87) rfl).set rfl).set rfl).set rfl).set rfl) 87 j rfl) ?_
  refine ev_putR rfl rfl fl_X10_94 (Or.inr ⟨rfl, _, rfl, rfl⟩) rfl rfl rfl rfl ?_
  refine EvQ.geo (gm_24 L) rfl ?_
  refine ev_aload_n rfl rfl rfl ?_
  refine ev_iconst (v := 4) rfl rfl (by decide) ?_
  refine ev_newa (N := 4) (kc := 6) (ks := 264) rfl rfl rfl ac_int ⟨rfl, rfl⟩ (by decide) (by decide) (by decide) rfl (fun j => ev_Z.at (((((hz.up (m := 88) rfl).set rfl).set rfl).set rfl).set rfl) 88 j rfl) ?_
  refine ev_putR rfl rfl fl_X10_97 (Or.inr ⟨rfl, _, rfl, rfl⟩) rfl rfl rfl rfl ?_
  refine EvQ.geo (gm_25 L) rfl ?_
  refine ev_aload_n rfl rfl rfl ?_
  refine ev_iconst (v := 4) rfl rfl (by decide) ?_
  refine ev_newa (N := 4) (kc := 5) (ks := 260) rfl rfl rfl ac_int ⟨rfl, rfl⟩ (by decide) (by decide) (by decide) rfl (fun j => ev_Z.at (((((hz.up (m := 89) rfl).set rfl).set rfl).set rfl).set rfl) 89 j rfl) ?_
  refine ev_putR rfl rfl fl_X10_100 (Or.inr ⟨rfl, _, rfl, rfl⟩) rfl rfl rfl rfl ?_
  refine EvQ.geo (gm_26 L) rfl ?_
  refine ev_aload_n rfl rfl rfl ?_
  refine ev_bipush (v := 6) rfl rfl (by decide) ?_
  refine ev_newa (N := 6) (kc := 4) (ks := 254) rfl rfl rfl ac_int ⟨rfl, rfl⟩ (by decide) (by decide) (by decide) rfl (fun j => ev_Z.at (((((hz.up (m := 90) rfl).set rfl).set rfl).set rfl).set rfl) 90 j rfl) ?_
  refine ev_putR rfl rfl fl_X10_103 (Or.inr ⟨rfl, _, rfl, rfl⟩) rfl rfl rfl rfl ?_
  refine EvQ.geo (gm_27 L) rfl ?_
  refine ev_aload_n rfl rfl rfl ?_
  refine ev_bipush (v := 6) rfl rfl (by decide) ?_
  refine ev_newa (N := 6) (kc := 3) (ks := 248) rfl rfl rfl ac_int ⟨rfl, rfl⟩ (by decide) (by decide) (by decide) rfl (fun j => ev_Z.at (((((hz.up (m := 91) rfl).set rfl).set rfl).set rfl).set rfl) 91 j rfl) ?_
  refine ev_putR rfl rfl fl_X10_106 (Or.inr ⟨rfl, _, rfl, rfl⟩) rfl rfl rfl rfl ?_
  refine EvQ.geo (gm_28 L) rfl ?_
  refine ev_aload_n rfl rfl rfl ?_
  refine ev_bipush (v := 10) rfl rfl (by decide) ?_
  refine ev_putI rfl rfl fl_X10_109 rfl rfl rfl rfl rfl ?_
  refine ev_aload_n rfl rfl rfl ?_
  refine ev_iconst (v := 4) rfl rfl (by decide) ?_
  refine ev_newa (N := 4) (kc := 2) (ks := 244) rfl rfl rfl ac_int ⟨rfl, rfl⟩ (by decide) (by decide) (by decide) rfl (fun j => ev_Z.at ((((((hz.up (m := 92) rfl).set rfl).set rfl).set rfl).set rfl).set rfl) 92 j rfl) ?_
  refine ev_putR rfl rfl fl_X10_112 (Or.inr ⟨rfl, _, rfl, rfl⟩) rfl rfl rfl rfl ?_
  refine EvQ.geo (gm_29 L) rfl ?_
  refine ev_aload_n rfl rfl rfl ?_
  refine ev_iconst (v := 4) rfl rfl (by decide) ?_
  refine ev_newa (N := 4) (kc := 1) (ks := 240) rfl rfl rfl ac_int ⟨rfl, rfl⟩ (by decide) (by decide) (by decide) rfl (fun j => ev_Z.at ((((((hz.up (m := 93) rfl).set rfl).set rfl).set rfl).set rfl).set rfl) 93 j rfl) ?_
  refine ev_putR rfl rfl fl_X10_115 (Or.inr ⟨rfl, _, rfl, rfl⟩) rfl rfl rfl rfl ?_
  refine EvQ.geo (gm_30 L) rfl ?_
  refine ev_aload_n rfl rfl rfl ?_
  refine ev_sipush (v := 240) rfl rfl (by decide) ?_
  refine ev_newa (N := 240) (kc := 0) (ks := 0) rfl rfl rfl ac_int ⟨rfl, rfl⟩ (by decide) (by decide) (by decide) rfl (fun j => ev_Z.at ((((((hz.up (m := 94) rfl).set rfl).set rfl).set rfl).set rfl).set rfl) 94 j rfl) ?_
  refine ev_putR rfl rfl fl_X10_118 (Or.inr ⟨rfl, _, rfl, rfl⟩) rfl rfl rfl rfl ?_
  refine EvQ.geo (gm_31 L) rfl ?_
  refine ev_iconst (v := 0) rfl rfl (by decide) ?_
  refine ev_istore_n rfl rfl rfl rfl ?_
  dsimp only [List.set]
  refine ev_iload_n rfl rfl rfl ?_
  refine ev_iconst (v := 4) rfl rfl (by decide) ?_
  refine ev_icmp_ge rfl rfl (fun z_ => absurd z_ (by decide)) (fun c_288 => ?_)
  refine ev_aload_n rfl rfl rfl ?_
  refine ev_getR rfl rfl fl_X10_112 rfl rfl rfl rfl ?_
  refine ev_iload_n rfl rfl rfl ?_
  refine ev_bipush (v := (-4)) rfl rfl (by decide) ?_
  refine ev_iast (j := 0) rfl rfl rfl rfl (by unfold vp_in; decide) (by decide) ?_
  refine ev_iinc (y := 1) rfl rfl rfl (by decide) rfl rfl ?_
  dsimp only [List.set]
  refine ev_goto rfl rfl ?_
  refine ev_iload_n rfl rfl rfl ?_
  refine ev_iconst (v := 4) rfl rfl (by decide) ?_
  refine ev_icmp_ge rfl rfl (fun z_ => absurd z_ (by decide)) (fun c_288b => ?_)
  refine ev_aload_n rfl rfl rfl ?_
  refine ev_getR rfl rfl fl_X10_112 rfl rfl rfl rfl ?_
  refine ev_iload_n rfl rfl rfl ?_
  refine ev_bipush (v := (-4)) rfl rfl (by decide) ?_
  refine ev_iast (j := 1) rfl rfl rfl rfl (by unfold vp_in; decide) (by decide) ?_
  refine ev_iinc (y := 1) rfl rfl rfl (by decide) rfl rfl ?_
  dsimp only [List.set]
  refine ev_goto rfl rfl ?_
  refine ev_iload_n rfl rfl rfl ?_
  refine ev_iconst (v := 4) rfl rfl (by decide) ?_
  refine ev_icmp_ge rfl rfl (fun z_ => absurd z_ (by decide)) (fun c_288bb => ?_)
  refine ev_aload_n rfl rfl rfl ?_
  refine ev_getR rfl rfl fl_X10_112 rfl rfl rfl rfl ?_
  refine ev_iload_n rfl rfl rfl ?_
  refine ev_bipush (v := (-4)) rfl rfl (by decide) ?_
  refine ev_iast (j := 2) rfl rfl rfl rfl (by unfold vp_in; decide) (by decide) ?_
  refine ev_iinc (y := 1) rfl rfl rfl (by decide) rfl rfl ?_
  dsimp only [List.set]
  refine ev_goto rfl rfl ?_
  refine ev_iload_n rfl rfl rfl ?_
  refine ev_iconst (v := 4) rfl rfl (by decide) ?_
  refine ev_icmp_ge rfl rfl (fun z_ => absurd z_ (by decide)) (fun c_288bbb => ?_)
  refine ev_aload_n rfl rfl rfl ?_
  refine ev_getR rfl rfl fl_X10_112 rfl rfl rfl rfl ?_
  refine ev_iload_n rfl rfl rfl ?_
  refine ev_bipush (v := (-4)) rfl rfl (by decide) ?_
  refine ev_iast (j := 3) rfl rfl rfl rfl (by unfold vp_in; decide) (by decide) ?_
  refine ev_iinc (y := 1) rfl rfl rfl (by decide) rfl rfl ?_
  dsimp only [List.set]
  refine ev_goto rfl rfl ?_
  refine ev_iload_n rfl rfl rfl ?_
  refine ev_iconst (v := 4) rfl rfl (by decide) ?_
  refine ev_icmp_ge rfl rfl (fun c_288bbbb => ?_) (fun z_ => absurd (by decide) z_)
  exact ev_vret rfl rfl trivial (⟨rfl, rfl, rfl⟩)
end
section
theorem hz_boil {n : Nat} {h : Hp} {a : Nat} (hz : ev_Z n h) (ha : Nat.blt a n = true) : ev_Z n (h_boil h a) := (((hz.set ha).set ha).set ha).set ha
def h_X (h : Hp) : Hp := h_Sheets (h_River (h_Suspects (h_Setting (h_Tunes (h_Reader (h_Acts (h_Whistles (h_boil (h_boil h 2) 3))))))))
def gb_1 (L : Nat) : Geo := (.inr (.int, L), []) :: [(.inl 9, [none, none, none, none, none, none, none, none, none, none])]
theorem hz_Whistles {h : Hp} (hz : ev_Z 11 h) : ev_Z 11 (h_Whistles h) := hz
theorem hz_Acts {h : Hp} (hz : ev_Z 23 h) : ev_Z 23 (h_Acts h) := hz
theorem hz_Reader {h : Hp} (hz : ev_Z 28 h) : ev_Z 28 (h_Reader h) := ((hz).set rfl)
theorem hz_Tunes {h : Hp} (hz : ev_Z 37 h) : ev_Z 37 (h_Tunes h) := hz
theorem hz_Setting {h : Hp} (hz : ev_Z 45 h) : ev_Z 45 (h_Setting h) := hz
theorem hz_Suspects {h : Hp} (hz : ev_Z 50 h) : ev_Z 50 (h_Suspects h) := ((hz).set rfl)
theorem hz_River {h : Hp} (hz : ev_Z 55 h) : ev_Z 55 (h_River h) := ((((((hz).set rfl)).set rfl)).set rfl)
theorem hz_Sheets {h : Hp} (hz : ev_Z 63 h) : ev_Z 63 (h_Sheets h) := ((((((((hz).set rfl)).set rfl)).set rfl)).set rfl)
def gs_1 (L : Nat) : Geo := (.inr (.int, L), []) :: [(.inl 9, [some 2, none, none, none, none, none, none, none, none, none]), (.inl 1, [none, none, none, none, none])]
def gs_2 (L : Nat) : Geo := (.inr (.int, L), []) :: [(.inl 9, [some 2, some 3, none, none, none, none, none, none, none, none]), (.inl 1, [none, none, none, none, none]), (.inl 1, [none, none, none, none, none])]
def gs_3 (L : Nat) : Geo := (.inr (.int, L), []) :: [(.inl 9, [some 2, some 3, some 4, none, none, none, none, none, none, none]), (.inl 1, [none, none, none, none, none]), (.inl 1, [none, none, none, none, none]), (.inl 8, [some 5, some 6, some 7, some 8, some 9, some 10, none, none]), (.inr (.int, 12), []), (.inr (.int, 12), []), (.inr (.int, 12), []), (.inr (.boolean, 12), []), (.inr (.int, 12), []), (.inr (.int, 12), [])]
def gs_4 (L : Nat) : Geo := (.inr (.int, L), []) :: [(.inl 9, [some 2, some 3, some 4, some 11, none, none, none, none, none, none]), (.inl 1, [none, none, none, none, none]), (.inl 1, [none, none, none, none, none]), (.inl 8, [some 5, some 6, some 7, some 8, some 9, some 10, none, none]), (.inr (.int, 12), []), (.inr (.int, 12), []), (.inr (.int, 12), []), (.inr (.boolean, 12), []), (.inr (.int, 12), []), (.inr (.int, 12), []), (.inl 0, [some 12, none, none, none]), (.inr (.array .int, 10), [some 13, some 14, some 15, some 16, some 17, some 18, some 19, some 20, some 21, some 22]), (.inr (.int, 30), []), (.inr (.int, 30), []), (.inr (.int, 30), []), (.inr (.int, 30), []), (.inr (.int, 30), []), (.inr (.int, 30), []), (.inr (.int, 30), []), (.inr (.int, 30), []), (.inr (.int, 30), []), (.inr (.int, 30), [])]
def gs_5 (L : Nat) : Geo := (.inr (.int, L), []) :: [(.inl 9, [some 2, some 3, some 4, some 11, some 23, none, none, none, none, none]), (.inl 1, [none, none, none, none, none]), (.inl 1, [none, none, none, none, none]), (.inl 8, [some 5, some 6, some 7, some 8, some 9, some 10, none, none]), (.inr (.int, 12), []), (.inr (.int, 12), []), (.inr (.int, 12), []), (.inr (.boolean, 12), []), (.inr (.int, 12), []), (.inr (.int, 12), []), (.inl 0, [some 12, none, none, none]), (.inr (.array .int, 10), [some 13, some 14, some 15, some 16, some 17, some 18, some 19, some 20, some 21, some 22]), (.inr (.int, 30), []), (.inr (.int, 30), []), (.inr (.int, 30), []), (.inr (.int, 30), []), (.inr (.int, 30), []), (.inr (.int, 30), []), (.inr (.int, 30), []), (.inr (.int, 30), []), (.inr (.int, 30), []), (.inr (.int, 30), []), (.inl 2, [some 24, none, none, none, none, none, none, none, none, some 25, none, some 26, some 27, none]), (.inr (.byte, 160), []), (.inr (.int, 24), []), (.inr (.int, 4), []), (.inr (.int, 4), [])]
def gs_6 (L : Nat) : Geo := (.inr (.int, L), []) :: [(.inl 9, [some 2, some 3, some 4, some 11, some 23, some 28, none, none, none, none]), (.inl 1, [none, none, none, none, none]), (.inl 1, [none, none, none, none, none]), (.inl 8, [some 5, some 6, some 7, some 8, some 9, some 10, none, none]), (.inr (.int, 12), []), (.inr (.int, 12), []), (.inr (.int, 12), []), (.inr (.boolean, 12), []), (.inr (.int, 12), []), (.inr (.int, 12), []), (.inl 0, [some 12, none, none, none]), (.inr (.array .int, 10), [some 13, some 14, some 15, some 16, some 17, some 18, some 19, some 20, some 21, some 22]), (.inr (.int, 30), []), (.inr (.int, 30), []), (.inr (.int, 30), []), (.inr (.int, 30), []), (.inr (.int, 30), []), (.inr (.int, 30), []), (.inr (.int, 30), []), (.inr (.int, 30), []), (.inr (.int, 30), []), (.inr (.int, 30), []), (.inl 2, [some 24, none, none, none, none, none, none, none, none, some 25, none, some 26, some 27, none]), (.inr (.byte, 160), []), (.inr (.int, 24), []), (.inr (.int, 4), []), (.inr (.int, 4), []), (.inl 7, [some 29, some 36, none]), (.inr (.array .int, 6), [some 30, some 31, some 32, some 33, some 34, some 35]), (.inr (.int, 24), []), (.inr (.int, 24), []), (.inr (.int, 24), []), (.inr (.int, 24), []), (.inr (.int, 24), []), (.inr (.int, 24), []), (.inr (.int, 6), [])]
def gs_7 (L : Nat) : Geo := (.inr (.int, L), []) :: [(.inl 9, [some 2, some 3, some 4, some 11, some 23, some 28, some 37, none, none, none]), (.inl 1, [none, none, none, none, none]), (.inl 1, [none, none, none, none, none]), (.inl 8, [some 5, some 6, some 7, some 8, some 9, some 10, none, none]), (.inr (.int, 12), []), (.inr (.int, 12), []), (.inr (.int, 12), []), (.inr (.boolean, 12), []), (.inr (.int, 12), []), (.inr (.int, 12), []), (.inl 0, [some 12, none, none, none]), (.inr (.array .int, 10), [some 13, some 14, some 15, some 16, some 17, some 18, some 19, some 20, some 21, some 22]), (.inr (.int, 30), []), (.inr (.int, 30), []), (.inr (.int, 30), []), (.inr (.int, 30), []), (.inr (.int, 30), []), (.inr (.int, 30), []), (.inr (.int, 30), []), (.inr (.int, 30), []), (.inr (.int, 30), []), (.inr (.int, 30), []), (.inl 2, [some 24, none, none, none, none, none, none, none, none, some 25, none, some 26, some 27, none]), (.inr (.byte, 160), []), (.inr (.int, 24), []), (.inr (.int, 4), []), (.inr (.int, 4), []), (.inl 7, [some 29, some 36, none]), (.inr (.array .int, 6), [some 30, some 31, some 32, some 33, some 34, some 35]), (.inr (.int, 24), []), (.inr (.int, 24), []), (.inr (.int, 24), []), (.inr (.int, 24), []), (.inr (.int, 24), []), (.inr (.int, 24), []), (.inr (.int, 6), []), (.inl 4, [none, some 38, some 39, none, none, some 40, some 41, none, none, some 42, some 43, none, none, none, some 44, none]), (.inr (.int, 201), []), (.inr (.int, 24), []), (.inr (.int, 32), []), (.inr (.int, 32), []), (.inr (.int, 24), []), (.inr (.int, 24), []), (.inr (.int, 5), [])]
def gs_8 (L : Nat) : Geo := (.inr (.int, L), []) :: [(.inl 9, [some 2, some 3, some 4, some 11, some 23, some 28, some 37, some 45, none, none]), (.inl 1, [none, none, none, none, none]), (.inl 1, [none, none, none, none, none]), (.inl 8, [some 5, some 6, some 7, some 8, some 9, some 10, none, none]), (.inr (.int, 12), []), (.inr (.int, 12), []), (.inr (.int, 12), []), (.inr (.boolean, 12), []), (.inr (.int, 12), []), (.inr (.int, 12), []), (.inl 0, [some 12, none, none, none]), (.inr (.array .int, 10), [some 13, some 14, some 15, some 16, some 17, some 18, some 19, some 20, some 21, some 22]), (.inr (.int, 30), []), (.inr (.int, 30), []), (.inr (.int, 30), []), (.inr (.int, 30), []), (.inr (.int, 30), []), (.inr (.int, 30), []), (.inr (.int, 30), []), (.inr (.int, 30), []), (.inr (.int, 30), []), (.inr (.int, 30), []), (.inl 2, [some 24, none, none, none, none, none, none, none, none, some 25, none, some 26, some 27, none]), (.inr (.byte, 160), []), (.inr (.int, 24), []), (.inr (.int, 4), []), (.inr (.int, 4), []), (.inl 7, [some 29, some 36, none]), (.inr (.array .int, 6), [some 30, some 31, some 32, some 33, some 34, some 35]), (.inr (.int, 24), []), (.inr (.int, 24), []), (.inr (.int, 24), []), (.inr (.int, 24), []), (.inr (.int, 24), []), (.inr (.int, 24), []), (.inr (.int, 6), []), (.inl 4, [none, some 38, some 39, none, none, some 40, some 41, none, none, some 42, some 43, none, none, none, some 44, none]), (.inr (.int, 201), []), (.inr (.int, 24), []), (.inr (.int, 32), []), (.inr (.int, 32), []), (.inr (.int, 24), []), (.inr (.int, 24), []), (.inr (.int, 5), []), (.inl 6, [some 46, some 47, none, some 48, none, some 49, none, none]), (.inr (.int, 24), []), (.inr (.int, 24), []), (.inr (.int, 12), []), (.inr (.int, 12), [])]
def gs_9 (L : Nat) : Geo := (.inr (.int, L), []) :: [(.inl 9, [some 2, some 3, some 4, some 11, some 23, some 28, some 37, some 45, some 50, none]), (.inl 1, [none, none, none, none, none]), (.inl 1, [none, none, none, none, none]), (.inl 8, [some 5, some 6, some 7, some 8, some 9, some 10, none, none]), (.inr (.int, 12), []), (.inr (.int, 12), []), (.inr (.int, 12), []), (.inr (.boolean, 12), []), (.inr (.int, 12), []), (.inr (.int, 12), []), (.inl 0, [some 12, none, none, none]), (.inr (.array .int, 10), [some 13, some 14, some 15, some 16, some 17, some 18, some 19, some 20, some 21, some 22]), (.inr (.int, 30), []), (.inr (.int, 30), []), (.inr (.int, 30), []), (.inr (.int, 30), []), (.inr (.int, 30), []), (.inr (.int, 30), []), (.inr (.int, 30), []), (.inr (.int, 30), []), (.inr (.int, 30), []), (.inr (.int, 30), []), (.inl 2, [some 24, none, none, none, none, none, none, none, none, some 25, none, some 26, some 27, none]), (.inr (.byte, 160), []), (.inr (.int, 24), []), (.inr (.int, 4), []), (.inr (.int, 4), []), (.inl 7, [some 29, some 36, none]), (.inr (.array .int, 6), [some 30, some 31, some 32, some 33, some 34, some 35]), (.inr (.int, 24), []), (.inr (.int, 24), []), (.inr (.int, 24), []), (.inr (.int, 24), []), (.inr (.int, 24), []), (.inr (.int, 24), []), (.inr (.int, 6), []), (.inl 4, [none, some 38, some 39, none, none, some 40, some 41, none, none, some 42, some 43, none, none, none, some 44, none]), (.inr (.int, 201), []), (.inr (.int, 24), []), (.inr (.int, 32), []), (.inr (.int, 32), []), (.inr (.int, 24), []), (.inr (.int, 24), []), (.inr (.int, 5), []), (.inl 6, [some 46, some 47, none, some 48, none, some 49, none, none]), (.inr (.int, 24), []), (.inr (.int, 24), []), (.inr (.int, 12), []), (.inr (.int, 12), []), (.inl 3, [some 51, some 52, none, some 53, some 54, none, none, none, none, none, none]), (.inr (.int, 4), []), (.inr (.int, 4), []), (.inr (.int, 6), []), (.inr (.int, 6), [])]
def gs_10 (L : Nat) : Geo := (.inr (.int, L), []) :: [(.inl 9, [some 2, some 3, some 4, some 11, some 23, some 28, some 37, some 45, some 50, some 55]), (.inl 1, [none, none, none, none, none]), (.inl 1, [none, none, none, none, none]), (.inl 8, [some 5, some 6, some 7, some 8, some 9, some 10, none, none]), (.inr (.int, 12), []), (.inr (.int, 12), []), (.inr (.int, 12), []), (.inr (.boolean, 12), []), (.inr (.int, 12), []), (.inr (.int, 12), []), (.inl 0, [some 12, none, none, none]), (.inr (.array .int, 10), [some 13, some 14, some 15, some 16, some 17, some 18, some 19, some 20, some 21, some 22]), (.inr (.int, 30), []), (.inr (.int, 30), []), (.inr (.int, 30), []), (.inr (.int, 30), []), (.inr (.int, 30), []), (.inr (.int, 30), []), (.inr (.int, 30), []), (.inr (.int, 30), []), (.inr (.int, 30), []), (.inr (.int, 30), []), (.inl 2, [some 24, none, none, none, none, none, none, none, none, some 25, none, some 26, some 27, none]), (.inr (.byte, 160), []), (.inr (.int, 24), []), (.inr (.int, 4), []), (.inr (.int, 4), []), (.inl 7, [some 29, some 36, none]), (.inr (.array .int, 6), [some 30, some 31, some 32, some 33, some 34, some 35]), (.inr (.int, 24), []), (.inr (.int, 24), []), (.inr (.int, 24), []), (.inr (.int, 24), []), (.inr (.int, 24), []), (.inr (.int, 24), []), (.inr (.int, 6), []), (.inl 4, [none, some 38, some 39, none, none, some 40, some 41, none, none, some 42, some 43, none, none, none, some 44, none]), (.inr (.int, 201), []), (.inr (.int, 24), []), (.inr (.int, 32), []), (.inr (.int, 32), []), (.inr (.int, 24), []), (.inr (.int, 24), []), (.inr (.int, 5), []), (.inl 6, [some 46, some 47, none, some 48, none, some 49, none, none]), (.inr (.int, 24), []), (.inr (.int, 24), []), (.inr (.int, 12), []), (.inr (.int, 12), []), (.inl 3, [some 51, some 52, none, some 53, some 54, none, none, none, none, none, none]), (.inr (.int, 4), []), (.inr (.int, 4), []), (.inr (.int, 6), []), (.inr (.int, 6), []), (.inl 5, [some 56, some 61, some 62]), (.inr (.array .int, 4), [some 57, some 58, some 59, some 60]), (.inr (.int, 60), []), (.inr (.int, 60), []), (.inr (.int, 60), []), (.inr (.int, 60), []), (.inr (.int, 4), []), (.inr (.int, 4), [])]
set_option maxRecDepth 100000 in
set_option maxHeartbeats 4000000 in
theorem c_X_init (L : Nat) (h : Hp) (hz : ev_Z 1 h) : EvM mi_X9_init [.ref 1] (gb_1 L) h 61 1493 (fun v G' h' => v = none ∧ G' = gs_10 L ∧ h' = h_X h) := by
  refine EvM.of2 (lo := [some (.ref 1)]) pf_X9_init ok_X9_init rfl rfl ?_
  refine ev_aload_n rfl rfl rfl ?_
  refine ev_obj rfl rfl oi_X9_1 oi_i oi_c rfl rfl ?_
  refine ev_aload_n rfl rfl rfl ?_
  refine ev_new (kc := 60) (ks := 1488) rfl rfl cl_X9_7 rfl rfl (fun j => ev_Z.at (hz.up (m := 2) rfl) 2 j rfl) ?_
  refine ev_dup rfl rfl rfl ?_
  refine ev_IN0 (kc := 60) (ks := 1488) rfl rfl lk_X9_9 in_X1_init rfl rfl (c_Boiler_init _ _ 2 rfl rfl (ev_Z.at (hz.up (m := 2) rfl) 2 4 rfl)) ?_
  rintro G' h' ⟨-, rfl, rfl⟩
  refine ev_putR rfl rfl fl_X9_10 (Or.inr ⟨rfl, _, rfl, rfl⟩) rfl rfl rfl rfl ?_
  refine EvQ.geo (gs_1 L) rfl ?_
  refine ev_aload_n rfl rfl rfl ?_
  refine ev_new (kc := 59) (ks := 1483) rfl rfl cl_X9_7 rfl rfl (fun j => ev_Z.at (hz_boil (hz.up (m := 3) rfl) rfl) 3 j rfl) ?_
  refine ev_dup rfl rfl rfl ?_
  refine ev_IN0 (kc := 59) (ks := 1483) rfl rfl lk_X9_9 in_X1_init rfl rfl (c_Boiler_init _ _ 3 rfl rfl (ev_Z.at (hz_boil (hz.up (m := 3) rfl) rfl) 3 4 rfl)) ?_
  rintro G' h' ⟨-, rfl, rfl⟩
  refine ev_putR rfl rfl fl_X9_16 (Or.inr ⟨rfl, _, rfl, rfl⟩) rfl rfl rfl rfl ?_
  refine EvQ.geo (gs_2 L) rfl ?_
  refine ev_aload_n rfl rfl rfl ?_
  refine ev_new (kc := 58) (ks := 1475) rfl rfl cl_X9_19 rfl rfl (fun j => ev_Z.at (hz_boil (hz_boil (hz.up (m := 4) rfl) rfl) rfl) 4 j rfl) ?_
  refine EvQ.geo (gb_4 L) rfl ?_
  refine ev_dup rfl rfl rfl ?_
  refine ev_IN0 (kc := 52) (ks := 1403) rfl rfl lk_X9_21 in_X8_init rfl rfl (c_Whistles_init L _ (hz_boil (hz_boil (hz.up (m := 4) rfl) rfl) rfl)) ?_
  rintro G' h' ⟨-, rfl, rfl⟩
  refine ev_putR rfl rfl fl_X9_22 (Or.inr ⟨rfl, _, rfl, rfl⟩) rfl rfl rfl rfl ?_
  refine EvQ.geo (gs_3 L) rfl ?_
  refine ev_aload_n rfl rfl rfl ?_
  refine ev_new (kc := 51) (ks := 1399) rfl rfl cl_X9_26 rfl rfl (fun j => ev_Z.at (hz_Whistles (ev_Z.up (m := 11) (hz_boil (hz_boil (hz.up (m := 4) rfl) rfl) rfl) rfl)) 11 j rfl) ?_
  refine EvQ.geo (gb_11 L) rfl ?_
  refine ev_dup rfl rfl rfl ?_
  refine ev_IN0 (kc := 40) (ks := 1089) rfl rfl lk_X9_28 in_X0_init rfl rfl (c_Acts_init L _ (hz_Whistles (ev_Z.up (m := 11) (hz_boil (hz_boil (hz.up (m := 4) rfl) rfl) rfl) rfl))) ?_
  rintro G' h' ⟨-, rfl, rfl⟩
  refine ev_putR rfl rfl fl_X9_29 (Or.inr ⟨rfl, _, rfl, rfl⟩) rfl rfl rfl rfl ?_
  refine EvQ.geo (gs_4 L) rfl ?_
  refine ev_aload_n rfl rfl rfl ?_
  refine ev_new (kc := 39) (ks := 1075) rfl rfl cl_X9_33 rfl rfl (fun j => ev_Z.at (hz_Acts (ev_Z.up (m := 23) (hz_Whistles (ev_Z.up (m := 11) (hz_boil (hz_boil (hz.up (m := 4) rfl) rfl) rfl) rfl)) rfl)) 23 j rfl) ?_
  refine EvQ.geo (gb_23 L) rfl ?_
  refine ev_dup rfl rfl rfl ?_
  refine ev_IN0 (kc := 35) (ks := 883) rfl rfl lk_X9_35 in_X2_init rfl rfl (c_Reader_init L _ (hz_Acts (ev_Z.up (m := 23) (hz_Whistles (ev_Z.up (m := 11) (hz_boil (hz_boil (hz.up (m := 4) rfl) rfl) rfl) rfl)) rfl))) ?_
  rintro G' h' ⟨-, rfl, rfl⟩
  refine ev_putR rfl rfl fl_X9_36 (Or.inr ⟨rfl, _, rfl, rfl⟩) rfl rfl rfl rfl ?_
  refine EvQ.geo (gs_5 L) rfl ?_
  refine ev_aload_n rfl rfl rfl ?_
  refine ev_new (kc := 34) (ks := 880) rfl rfl cl_X9_40 rfl rfl (fun j => ev_Z.at (hz_Reader (ev_Z.up (m := 28) (hz_Acts (ev_Z.up (m := 23) (hz_Whistles (ev_Z.up (m := 11) (hz_boil (hz_boil (hz.up (m := 4) rfl) rfl) rfl) rfl)) rfl)) rfl)) 28 j rfl) ?_
  refine EvQ.geo (gb_28 L) rfl ?_
  refine ev_dup rfl rfl rfl ?_
  refine ev_IN0 (kc := 26) (ks := 724) rfl rfl lk_X9_42 in_X7_init rfl rfl (c_Tunes_init L _ (hz_Reader (ev_Z.up (m := 28) (hz_Acts (ev_Z.up (m := 23) (hz_Whistles (ev_Z.up (m := 11) (hz_boil (hz_boil (hz.up (m := 4) rfl) rfl) rfl) rfl)) rfl)) rfl))) ?_
  rintro G' h' ⟨-, rfl, rfl⟩
  refine ev_putR rfl rfl fl_X9_43 (Or.inr ⟨rfl, _, rfl, rfl⟩) rfl rfl rfl rfl ?_
  refine EvQ.geo (gs_6 L) rfl ?_
  refine ev_aload_n rfl rfl rfl ?_
  refine ev_new (kc := 25) (ks := 708) rfl rfl cl_X9_47 rfl rfl (fun j => ev_Z.at (hz_Tunes (ev_Z.up (m := 37) (hz_Reader (ev_Z.up (m := 28) (hz_Acts (ev_Z.up (m := 23) (hz_Whistles (ev_Z.up (m := 11) (hz_boil (hz_boil (hz.up (m := 4) rfl) rfl) rfl) rfl)) rfl)) rfl)) rfl)) 37 j rfl) ?_
  refine EvQ.geo (gb_37 L) rfl ?_
  refine ev_dup rfl rfl rfl ?_
  refine ev_IN0 (kc := 18) (ks := 366) rfl rfl lk_X9_49 in_X4_init rfl rfl (c_Setting_init L _ (hz_Tunes (ev_Z.up (m := 37) (hz_Reader (ev_Z.up (m := 28) (hz_Acts (ev_Z.up (m := 23) (hz_Whistles (ev_Z.up (m := 11) (hz_boil (hz_boil (hz.up (m := 4) rfl) rfl) rfl) rfl)) rfl)) rfl)) rfl))) ?_
  rintro G' h' ⟨-, rfl, rfl⟩
  refine ev_putR rfl rfl fl_X9_50 (Or.inr ⟨rfl, _, rfl, rfl⟩) rfl rfl rfl rfl ?_
  refine EvQ.geo (gs_7 L) rfl ?_
  refine ev_aload_n rfl rfl rfl ?_
  refine ev_new (kc := 17) (ks := 358) rfl rfl cl_X9_54 rfl rfl (fun j => ev_Z.at (hz_Setting (ev_Z.up (m := 45) (hz_Tunes (ev_Z.up (m := 37) (hz_Reader (ev_Z.up (m := 28) (hz_Acts (ev_Z.up (m := 23) (hz_Whistles (ev_Z.up (m := 11) (hz_boil (hz_boil (hz.up (m := 4) rfl) rfl) rfl) rfl)) rfl)) rfl)) rfl)) rfl)) 45 j rfl) ?_
  refine EvQ.geo (gb_45 L) rfl ?_
  refine ev_dup rfl rfl rfl ?_
  refine ev_IN0 (kc := 13) (ks := 286) rfl rfl lk_X9_56 in_X6_init rfl rfl (c_Suspects_init L _ (hz_Setting (ev_Z.up (m := 45) (hz_Tunes (ev_Z.up (m := 37) (hz_Reader (ev_Z.up (m := 28) (hz_Acts (ev_Z.up (m := 23) (hz_Whistles (ev_Z.up (m := 11) (hz_boil (hz_boil (hz.up (m := 4) rfl) rfl) rfl) rfl)) rfl)) rfl)) rfl)) rfl))) ?_
  rintro G' h' ⟨-, rfl, rfl⟩
  refine ev_putR rfl rfl fl_X9_57 (Or.inr ⟨rfl, _, rfl, rfl⟩) rfl rfl rfl rfl ?_
  refine EvQ.geo (gs_8 L) rfl ?_
  refine ev_aload_n rfl rfl rfl ?_
  refine ev_new (kc := 12) (ks := 275) rfl rfl cl_X9_61 rfl rfl (fun j => ev_Z.at (hz_Suspects (ev_Z.up (m := 50) (hz_Setting (ev_Z.up (m := 45) (hz_Tunes (ev_Z.up (m := 37) (hz_Reader (ev_Z.up (m := 28) (hz_Acts (ev_Z.up (m := 23) (hz_Whistles (ev_Z.up (m := 11) (hz_boil (hz_boil (hz.up (m := 4) rfl) rfl) rfl) rfl)) rfl)) rfl)) rfl)) rfl)) rfl)) 50 j rfl) ?_
  refine EvQ.geo (gb_50 L) rfl ?_
  refine ev_dup rfl rfl rfl ?_
  refine ev_IN0 (kc := 8) (ks := 255) rfl rfl lk_X9_63 in_X3_init rfl rfl (c_River_init L _ (hz_Suspects (ev_Z.up (m := 50) (hz_Setting (ev_Z.up (m := 45) (hz_Tunes (ev_Z.up (m := 37) (hz_Reader (ev_Z.up (m := 28) (hz_Acts (ev_Z.up (m := 23) (hz_Whistles (ev_Z.up (m := 11) (hz_boil (hz_boil (hz.up (m := 4) rfl) rfl) rfl) rfl)) rfl)) rfl)) rfl)) rfl)) rfl))) ?_
  rintro G' h' ⟨-, rfl, rfl⟩
  refine ev_putR rfl rfl fl_X9_64 (Or.inr ⟨rfl, _, rfl, rfl⟩) rfl rfl rfl rfl ?_
  refine EvQ.geo (gs_9 L) rfl ?_
  refine ev_aload_n rfl rfl rfl ?_
  refine ev_new (kc := 7) (ks := 252) rfl rfl cl_X9_68 rfl rfl (fun j => ev_Z.at (hz_River (ev_Z.up (m := 55) (hz_Suspects (ev_Z.up (m := 50) (hz_Setting (ev_Z.up (m := 45) (hz_Tunes (ev_Z.up (m := 37) (hz_Reader (ev_Z.up (m := 28) (hz_Acts (ev_Z.up (m := 23) (hz_Whistles (ev_Z.up (m := 11) (hz_boil (hz_boil (hz.up (m := 4) rfl) rfl) rfl) rfl)) rfl)) rfl)) rfl)) rfl)) rfl)) rfl)) 55 j rfl) ?_
  refine EvQ.geo (gb_55 L) rfl ?_
  refine ev_dup rfl rfl rfl ?_
  refine ev_IN0 (kc := 0) (ks := 0) rfl rfl lk_X9_70 in_X5_init rfl rfl (c_Sheets_init L _ (hz_River (ev_Z.up (m := 55) (hz_Suspects (ev_Z.up (m := 50) (hz_Setting (ev_Z.up (m := 45) (hz_Tunes (ev_Z.up (m := 37) (hz_Reader (ev_Z.up (m := 28) (hz_Acts (ev_Z.up (m := 23) (hz_Whistles (ev_Z.up (m := 11) (hz_boil (hz_boil (hz.up (m := 4) rfl) rfl) rfl) rfl)) rfl)) rfl)) rfl)) rfl)) rfl)) rfl))) ?_
  rintro G' h' ⟨-, rfl, rfl⟩
  refine ev_putR rfl rfl fl_X9_71 (Or.inr ⟨rfl, _, rfl, rfl⟩) rfl rfl rfl rfl ?_
  refine EvQ.geo (gs_10 L) rfl ?_
  exact ev_vret rfl rfl trivial (⟨rfl, rfl, rfl⟩)
end
section
theorem ev_rd1 (h : Hp) (a k : Nat) (x : Int32) : ev_set h a k x a k = x := if_pos ⟨rfl, rfl⟩
theorem ev_rd2 {h : Hp} {a k i j : Nat} {x : Int32} (hne : i ≠ a) : ev_set h a k x i j = h i j := if_neg (fun q => hne q.1)
theorem ev_rd3 {h : Hp} {a k i j : Nat} {x : Int32} (hne : j ≠ k) : ev_set h a k x i j = h i j := if_neg (fun q => hne q.2)
theorem ev_rc1 {h : Hp} {x y s d n i j : Nat} (hne : i ≠ y) : ev_cpy h x y s d n i j = h i j := if_neg hne
theorem ev_sw (x : Int32) (lw hi : Int) : (x.toInt < lw ∨ hi < x.toInt) ∨ (¬ x.toInt < lw ∧ ¬ hi < x.toInt) := by omega
theorem g_pos (a n : Nat) (h : Nat.blt 0 a = true) : Nat.blt 0 (a + n) = true := Nat.ble_eq_true_of_le (Nat.le_trans (Nat.le_of_ble_eq_true h) (Nat.le_add_right a n))
theorem z_has_in {w : Int32} {n m : Nat} (h : ¬ (if w < 0 then (0 : Int32) else if nI n ≤ w then 0 else 1) = 0) (hn : n ≤ m) (hm : m < 2 ^ 31) : ∃ k, k < n ∧ w = nI k ∧ vp_in w m := by
  by_cases h1 : w < 0
  · rw [if_pos h1] at h; exact absurd rfl h
  · rw [if_neg h1] at h
    by_cases h2 : nI n ≤ w
    · rw [if_pos h2] at h; exact absurd rfl h
    · rcases pk_ix w (n := n) (by omega) with q | q | ⟨k, hk, rfl⟩
      · exact absurd q h1
      · exact absurd q h2
      · exact ⟨k, hk, rfl, vp_in_nI (by omega) hm⟩
def z_has (w n : Int32) : Int32 := if w < 0 then 0 else if n ≤ w then 0 else 1
theorem z_has0 (w : Int32) : z_has w 0 = 0 := by
  unfold z_has
  by_cases h : w < 0
  · rw [if_pos h]
  · rw [if_neg h, if_pos (Int32.not_lt.mp h)]
theorem z_has_b (w n : Int32) : narrow .boolean (.int (z_has w n)) = .int (z_has w n) := by
  unfold z_has
  split
  · rfl
  · split <;> rfl
theorem EvQ.drop {mi : MI} {pc : Nat} {lo : List (Option Value)} {st : List Value} {G : Geo} {h : Hp} {kc ks : Nat} {Q : Pst} (n : Nat) (k : EvQ mi pc (lo.set n none) st G h kc ks Q) : EvQ mi pc lo st G h kc ks Q := by
  intro p l e R s m args below meth c b base ls H locs cells slots Qf C hL hS hB hcc hss hret
  refine k p l e R s m args below meth c b base ls H locs cells slots Qf C ?_ hS hB hcc hss hret
  obtain ⟨l0, h1, h2⟩ := hL
  refine ⟨l0, h1, fun i v hi => h2 i v ?_⟩
  by_cases e : i = n
  · subst e
    have hl : i < lo.length := by
      have := (List.getElem?_eq_some_iff.mp hi).1
      simpa using this
    rw [List.getElem?_set_self hl] at hi
    cases hi
  · rw [List.getElem?_set_ne (Ne.symm e)] at hi
    exact hi

theorem g_act (L : Nat) (b : Bool) {n : Nat} (hn : n < 10) : ev_gr (G0 L b) 12 n = some (13 + n) ∧ ev_sh (G0 L b) (13 + n) = some (.inr (.int, 30)) := by
  rcases (show n = 0 ∨ n = 1 ∨ n = 2 ∨ n = 3 ∨ n = 4 ∨ n = 5 ∨ n = 6 ∨ n = 7 ∨ n = 8 ∨ n = 9 by omega) with rfl | rfl | rfl | rfl | rfl | rfl | rfl | rfl | rfl | rfl <;> exact ⟨rfl, rfl⟩
theorem g_tun (L : Nat) (b : Bool) {n : Nat} (hn : n < 6) : ev_gr (G0 L b) 29 n = some (30 + n) ∧ ev_sh (G0 L b) (30 + n) = some (.inr (.int, 24)) := by
  rcases (show n = 0 ∨ n = 1 ∨ n = 2 ∨ n = 3 ∨ n = 4 ∨ n = 5 by omega) with rfl | rfl | rfl | rfl | rfl | rfl <;> exact ⟨rfl, rfl⟩
theorem g_sht (L : Nat) (b : Bool) {n : Nat} (hn : n < 4) : ev_gr (G0 L b) 56 n = some (57 + n) ∧ ev_sh (G0 L b) (57 + n) = some (.inr (.int, 60)) := by
  rcases (show n = 0 ∨ n = 1 ∨ n = 2 ∨ n = 3 by omega) with rfl | rfl | rfl | rfl <;> exact ⟨rfl, rfl⟩

set_option maxRecDepth 100000 in
set_option maxHeartbeats 4000000 in
theorem c_X8_has (L : Nat) (b : Bool) (h : Hp) (w : Int32) : EvD mi_X8_has [.ref 4, .int w] (G0 L b) h (z_has w (h 4 7)) (h) := by
  refine EvD.of (lo := [some (.ref 4), some (.int w)]) pf_X8_has ok_X8_has rfl rfl ?_
  refine ev_iconst (v := 0) rfl rfl (by decide) ?_
  refine ev_iload_n rfl rfl rfl ?_
  refine ev_icmp_gt rfl rfl (fun c_2 => ?_) (fun c_2 => ?_)
  · refine ev_iconst (v := 0) rfl rfl (by decide) ?_
    exact ev_iret rfl rfl rfl (⟨congrArg (fun z => some (Value.int z)) (by simp only [z_has, if_pos c_2]), rfl, rfl⟩)
  · refine ev_iload_n rfl rfl rfl ?_
    refine ev_aload_n rfl rfl rfl ?_
    refine ev_getI rfl rfl fl_X8_35 rfl rfl rfl ?_
    refine ev_icmp_ge rfl rfl (fun c_10 => ?_) (fun c_10 => ?_)
    · refine ev_iconst (v := 0) rfl rfl (by decide) ?_
      exact ev_iret rfl rfl rfl (⟨congrArg (fun z => some (Value.int z)) (by simp only [z_has, if_neg c_2, if_pos c_10]), rfl, rfl⟩)
    · refine ev_iconst (v := 1) rfl rfl (by decide) ?_
      refine ev_goto rfl rfl ?_
      exact ev_iret rfl rfl rfl (⟨congrArg (fun z => some (Value.int z)) (by simp only [z_has, if_neg c_2, if_neg c_10]), rfl, rfl⟩)

set_option maxRecDepth 100000 in
set_option maxHeartbeats 4000000 in
theorem c_X7_has (L : Nat) (b : Bool) (h : Hp) (w : Int32) : EvD mi_X7_has [.ref 28, .int w] (G0 L b) h (z_has w (h 28 2)) (h) := by
  refine EvD.of (lo := [some (.ref 28), some (.int w)]) pf_X7_has ok_X7_has rfl rfl ?_
  refine ev_iconst (v := 0) rfl rfl (by decide) ?_
  refine ev_iload_n rfl rfl rfl ?_
  refine ev_icmp_gt rfl rfl (fun c_2 => ?_) (fun c_2 => ?_)
  · refine ev_iconst (v := 0) rfl rfl (by decide) ?_
    exact ev_iret rfl rfl rfl (⟨congrArg (fun z => some (Value.int z)) (by simp only [z_has, if_pos c_2]), rfl, rfl⟩)
  · refine ev_iload_n rfl rfl rfl ?_
    refine ev_aload_n rfl rfl rfl ?_
    refine ev_getI rfl rfl fl_X7_20 rfl rfl rfl ?_
    refine ev_icmp_ge rfl rfl (fun c_10 => ?_) (fun c_10 => ?_)
    · refine ev_iconst (v := 0) rfl rfl (by decide) ?_
      exact ev_iret rfl rfl rfl (⟨congrArg (fun z => some (Value.int z)) (by simp only [z_has, if_neg c_2, if_pos c_10]), rfl, rfl⟩)
    · refine ev_iconst (v := 1) rfl rfl (by decide) ?_
      refine ev_goto rfl rfl ?_
      exact ev_iret rfl rfl rfl (⟨congrArg (fun z => some (Value.int z)) (by simp only [z_has, if_neg c_2, if_neg c_10]), rfl, rfl⟩)

set_option maxRecDepth 100000 in
set_option maxHeartbeats 4000000 in
theorem c_X3_hasBoat (L : Nat) (b : Bool) (h : Hp) (w : Int32) : EvD mi_X3_hasBoat [.ref 50, .int w] (G0 L b) h (z_has w (h 50 2)) (h) := by
  refine EvD.of (lo := [some (.ref 50), some (.int w)]) pf_X3_hasBoat ok_X3_hasBoat rfl rfl ?_
  refine ev_iconst (v := 0) rfl rfl (by decide) ?_
  refine ev_iload_n rfl rfl rfl ?_
  refine ev_icmp_gt rfl rfl (fun c_2 => ?_) (fun c_2 => ?_)
  · refine ev_iconst (v := 0) rfl rfl (by decide) ?_
    exact ev_iret rfl rfl rfl (⟨congrArg (fun z => some (Value.int z)) (by simp only [z_has, if_pos c_2]), rfl, rfl⟩)
  · refine ev_iload_n rfl rfl rfl ?_
    refine ev_aload_n rfl rfl rfl ?_
    refine ev_getI rfl rfl fl_X3_18 rfl rfl rfl ?_
    refine ev_icmp_ge rfl rfl (fun c_10 => ?_) (fun c_10 => ?_)
    · refine ev_iconst (v := 0) rfl rfl (by decide) ?_
      exact ev_iret rfl rfl rfl (⟨congrArg (fun z => some (Value.int z)) (by simp only [z_has, if_neg c_2, if_pos c_10]), rfl, rfl⟩)
    · refine ev_iconst (v := 1) rfl rfl (by decide) ?_
      refine ev_goto rfl rfl ?_
      exact ev_iret rfl rfl rfl (⟨congrArg (fun z => some (Value.int z)) (by simp only [z_has, if_neg c_2, if_neg c_10]), rfl, rfl⟩)

set_option maxRecDepth 100000 in
set_option maxHeartbeats 4000000 in
theorem c_isKey (G : Geo) (h : Hp) (v : Int32) : EvD mi_X9_isKey [.int v] G h (z_wi v (-11) 11) (h) := by
  refine EvD.of (lo := [some (.int v)]) pf_X9_isKey ok_X9_isKey rfl rfl ?_
  refine ev_iload_n rfl rfl rfl ?_
  refine ev_bipush (v := (-11)) rfl rfl (by decide) ?_
  refine ev_bipush (v := 11) rfl rfl (by decide) ?_
  refine ev_S3D rfl rfl lk_X9_75 st_X9_isWithin rfl rfl (c_isWithin _ _ _ _ _) ?_
  exact ev_iret rfl rfl (z_wi_b _ _ _) (⟨rfl, rfl, rfl⟩)

set_option maxRecDepth 100000 in
set_option maxHeartbeats 4000000 in
theorem c_isPlace (G : Geo) (h : Hp) (v : Int32) : EvD mi_X9_isPlace [.int v] G h (z_wi v 0 999) (h) := by
  refine EvD.of (lo := [some (.int v)]) pf_X9_isPlace ok_X9_isPlace rfl rfl ?_
  refine ev_iload_n rfl rfl rfl ?_
  refine ev_iconst (v := 0) rfl rfl (by decide) ?_
  refine ev_sipush (v := 999) rfl rfl (by decide) ?_
  refine ev_S3D rfl rfl lk_X9_75 st_X9_isWithin rfl rfl (c_isWithin _ _ _ _ _) ?_
  exact ev_iret rfl rfl (z_wi_b _ _ _) (⟨rfl, rfl, rfl⟩)

/-- what keep() leaves: the row n of the ring, the ring's numbers -/
def k_keep (h : Hp) (n : Nat) : Hp := fun i j =>
  if i = 13 + n then (if j < 6 then (if j = 5 then h 4 6 else h 2 j) else if j < 18 then h 9 (j - 6) else if j < 30 then h 10 (j - 18) else h i j)
  else if i = 11 then (if j = 1 then (nI n + 1) - (nI n + 1) / 10 * 10 else if j = 2 then z_min 10 (h 11 2 + 1) else if j = 3 then h 11 3 + 1 else h 11 j)
  else h i j
theorem k_keep_ne {h : Hp} {n i j : Nat} (h1 : i ≠ 13 + n) (h2 : i ≠ 11) : k_keep h n i j = h i j := by
  unfold k_keep
  rw [if_neg h1, if_neg h2]

set_option maxRecDepth 100000 in
set_option maxHeartbeats 4000000 in
theorem c_keep (L : Nat) (b : Bool) (h : Hp) (n : Nat) (hn : n < 10) (hx : h 11 1 = nI n) : EvU mi_X0_keep [.ref 11, .ref 2, .ref 4] (G0 L b) h (k_keep h n) := by
  refine EvU.of (lo := [some (.ref 11), some (.ref 2), some (.ref 4), none]) pf_X0_keep ok_X0_keep rfl rfl ?_
  refine ev_aload_n rfl rfl rfl ?_
  refine ev_getR rfl rfl fl_X0_13 rfl rfl rfl rfl ?_
  refine ev_aload_n rfl rfl rfl ?_
  refine ev_getI rfl rfl fl_X0_16 rfl rfl rfl ?_
  refine ev_aald (y := 13 + n) (j := n) rfl rfl rfl rfl (by rw [hx]; exact vp_in_nI hn (by decide)) (by rw [hx]; exact nI_clamp (by omega)) (g_act L b hn).1 ?_
  refine ev_astore_n rfl rfl rfl rfl ?_
  dsimp only [List.set]
  refine ev_aload_n rfl rfl rfl ?_
  refine ev_iconst (v := 0) rfl rfl (by decide) ?_
  refine ev_aload_n rfl rfl rfl ?_
  refine ev_getI rfl rfl fl_X0_26 rfl rfl rfl ?_
  refine ev_iast (j := 0) rfl rfl (g_pos 13 n rfl) (g_act L b hn).2 (by unfold vp_in; decide) (by decide) ?_
  refine ev_aload_n rfl rfl rfl ?_
  refine ev_iconst (v := 1) rfl rfl (by decide) ?_
  refine ev_aload_n rfl rfl rfl ?_
  refine ev_getI rfl rfl fl_X0_31 rfl rfl rfl ?_
  try simp (disch := omega) only [ev_rd1, ev_rd2, ev_rd3, ev_rc1, k_keep_ne]
  refine ev_iast (j := 1) rfl rfl (g_pos 13 n rfl) (g_act L b hn).2 (by unfold vp_in; decide) (by decide) ?_
  refine ev_aload_n rfl rfl rfl ?_
  refine ev_iconst (v := 2) rfl rfl (by decide) ?_
  refine ev_aload_n rfl rfl rfl ?_
  refine ev_getI rfl rfl fl_X0_34 rfl rfl rfl ?_
  try simp (disch := omega) only [ev_rd1, ev_rd2, ev_rd3, ev_rc1, k_keep_ne]
  refine ev_iast (j := 2) rfl rfl (g_pos 13 n rfl) (g_act L b hn).2 (by unfold vp_in; decide) (by decide) ?_
  refine ev_aload_n rfl rfl rfl ?_
  refine ev_iconst (v := 3) rfl rfl (by decide) ?_
  refine ev_aload_n rfl rfl rfl ?_
  refine ev_getI rfl rfl fl_X0_37 rfl rfl rfl ?_
  try simp (disch := omega) only [ev_rd1, ev_rd2, ev_rd3, ev_rc1, k_keep_ne]
  refine ev_iast (j := 3) rfl rfl (g_pos 13 n rfl) (g_act L b hn).2 (by unfold vp_in; decide) (by decide) ?_
  refine ev_aload_n rfl rfl rfl ?_
  refine ev_iconst (v := 4) rfl rfl (by decide) ?_
  refine ev_aload_n rfl rfl rfl ?_
  refine ev_getI rfl rfl fl_X0_40 rfl rfl rfl ?_
  try simp (disch := omega) only [ev_rd1, ev_rd2, ev_rd3, ev_rc1, k_keep_ne]
  refine ev_iast (j := 4) rfl rfl (g_pos 13 n rfl) (g_act L b hn).2 (by unfold vp_in; decide) (by decide) ?_
  refine ev_aload_n rfl rfl rfl ?_
  refine ev_iconst (v := 5) rfl rfl (by decide) ?_
  refine ev_aload_n rfl rfl rfl ?_
  refine ev_getI rfl rfl fl_X0_43 rfl rfl rfl ?_
  try simp (disch := omega) only [ev_rd1, ev_rd2, ev_rd3, ev_rc1, k_keep_ne]
  refine ev_iast (j := 5) rfl rfl (g_pos 13 n rfl) (g_act L b hn).2 (by unfold vp_in; decide) (by decide) ?_
  refine ev_aload_n rfl rfl rfl ?_
  refine ev_getR rfl rfl fl_X0_48 rfl rfl rfl rfl ?_
  refine ev_iconst (v := 0) rfl rfl (by decide) ?_
  refine ev_aload_n rfl rfl rfl ?_
  refine ev_bipush (v := 6) rfl rfl (by decide) ?_
  refine ev_bipush (v := 12) rfl rfl (by decide) ?_
  refine ev_copy (sN := 0) (dN := 6) (nN := 12) rfl rfl cp_X0_52 cp_n cp_s cp_i rfl (g_pos 13 n rfl) rfl (g_act L b hn).2 (by decide) (by decide) (by decide) (by decide) (by decide) (by decide) (by decide) (by decide) rfl rfl (by decide) ?_
  refine ev_aload_n rfl rfl rfl ?_
  refine ev_getR rfl rfl fl_X0_58 rfl rfl rfl rfl ?_
  refine ev_iconst (v := 0) rfl rfl (by decide) ?_
  refine ev_aload_n rfl rfl rfl ?_
  refine ev_bipush (v := 18) rfl rfl (by decide) ?_
  refine ev_bipush (v := 12) rfl rfl (by decide) ?_
  refine ev_copy (sN := 0) (dN := 18) (nN := 12) rfl rfl cp_X0_52 cp_n cp_s cp_i rfl (g_pos 13 n rfl) rfl (g_act L b hn).2 (by decide) (by decide) (by decide) (by decide) (by decide) (by decide) (by decide) (by decide) rfl rfl (by decide) ?_
  refine ev_aload_n rfl rfl rfl ?_
  refine ev_aload_n rfl rfl rfl ?_
  refine ev_getI rfl rfl fl_X0_16 rfl rfl rfl ?_
  try simp (disch := omega) only [ev_rd1, ev_rd2, ev_rd3, ev_rc1, k_keep_ne]
  refine ev_iconst (v := 1) rfl rfl (by decide) ?_
  refine ev_iadd rfl rfl ?_
  refine ev_bipush (v := 10) rfl rfl (by decide) ?_
  refine ev_irem rfl rfl (by decide) ?_
  refine ev_putI rfl rfl fl_X0_16 rfl rfl rfl rfl rfl ?_
  refine ev_aload_n rfl rfl rfl ?_
  refine ev_bipush (v := 10) rfl rfl (by decide) ?_
  refine ev_aload_n rfl rfl rfl ?_
  refine ev_getI rfl rfl fl_X0_20 rfl rfl rfl ?_
  try simp (disch := omega) only [ev_rd1, ev_rd2, ev_rd3, ev_rc1, k_keep_ne]
  refine ev_iconst (v := 1) rfl rfl (by decide) ?_
  refine ev_iadd rfl rfl ?_
  refine ev_S2D rfl rfl lk_X0_61 st_J9_min_7cf53 rfl rfl (c_min _ _ _ _) ?_
  refine ev_putI rfl rfl fl_X0_20 rfl rfl rfl rfl rfl ?_
  refine ev_aload_n rfl rfl rfl ?_
  refine ev_dup rfl rfl rfl ?_
  refine ev_getI rfl rfl fl_X0_23 rfl rfl rfl ?_
  try simp (disch := omega) only [ev_rd1, ev_rd2, ev_rd3, ev_rc1, k_keep_ne]
  refine ev_iconst (v := 1) rfl rfl (by decide) ?_
  refine ev_iadd rfl rfl ?_
  refine ev_putI rfl rfl fl_X0_23 rfl rfl rfl rfl rfl ?_
  exact ev_vret rfl rfl trivial (⟨rfl, rfl, by
      funext i j
      by_cases h1 : i = 13 + n
      · subst h1
        have q1 : ¬ (13 + n = 11) := by omega
        have q2 : ¬ (13 + n = 9) := by omega
        have q3 : ¬ (13 + n = 10) := by omega
        simp only [ev_set, ev_cpy, va_cpy, k_keep, q1, q2, q3, false_and, true_and, if_true, if_false, if_pos]
        repeat' split
        all_goals first | rfl | (exfalso; omega) | (subst_vars; rfl) | (congr 1; omega)
      · by_cases h2 : i = 11
        · subst h2
          simp only [ev_set, ev_cpy, va_cpy, k_keep, h1, false_and, true_and, if_true, if_false]
          repeat' split
          all_goals first | rfl | (exfalso; omega) | (subst_vars; simp [hx])
        · simp only [ev_set, ev_cpy, k_keep, h1, h2, false_and, if_false]⟩)
end
section
def z_cp (h : Hp) (a c : Nat) : Hp := fun i j => if i = a ∧ j < 5 then h c j else h i j
def zq_w (h : Hp) (a : Nat) (d : Int32) : Int32 := h a 1 - d
def zq_p (h : Hp) (a : Nat) (d : Int32) : Int32 := z_max 0 (h a 0 + (if h a 1 - d ≤ 0 then 0 else 2 * h a 2) - d)
def z_pass (h : Hp) (a : Nat) (d : Int32) : Hp := fun i j =>
  if i = a then (if zq_p h a d ≤ h a 3 then (if j = 0 then zq_p h a d else if j = 1 then zq_w h a d else h a j)
    else (if j = 0 then h a 3 else if j = 1 then z_max 0 (zq_w h a d - (zq_p h a d - h a 3)) else if j = 4 then h a 4 + 1 else h a j))
  else h i j

set_option maxRecDepth 100000 in
set_option maxHeartbeats 4000000 in
theorem c_copyFrom (G : Geo) (h : Hp) (a : Nat) (ha : Nat.blt 0 a = true) (hz : ev_sh G a = some (.inl 1)) (c : Nat) (hc : Nat.blt 0 c = true) (hzc : ev_sh G c = some (.inl 1)) (hne : c ≠ a) : EvU mi_X1_copyFrom [.ref a, .ref c] G h (z_cp h a c) := by
  refine EvU.of (lo := [some (.ref a), some (.ref c)]) pf_X1_copyFrom ok_X1_copyFrom rfl rfl ?_
  refine ev_aload_n rfl rfl rfl ?_
  refine ev_aload_n rfl rfl rfl ?_
  refine ev_getI rfl rfl fl_X1_7 hc hzc rfl ?_
  refine ev_putI rfl rfl fl_X1_7 rfl rfl ha hz rfl ?_
  refine ev_aload_n rfl rfl rfl ?_
  refine ev_aload_n rfl rfl rfl ?_
  refine ev_getI rfl rfl fl_X1_13 hc hzc rfl ?_
  try simp (disch := omega) only [ev_rd1, ev_rd2, ev_rd3, ev_rc1, k_keep_ne]
  refine ev_putI rfl rfl fl_X1_13 rfl rfl ha hz rfl ?_
  refine ev_aload_n rfl rfl rfl ?_
  refine ev_aload_n rfl rfl rfl ?_
  refine ev_getI rfl rfl fl_X1_16 hc hzc rfl ?_
  try simp (disch := omega) only [ev_rd1, ev_rd2, ev_rd3, ev_rc1, k_keep_ne]
  refine ev_putI rfl rfl fl_X1_16 rfl rfl ha hz rfl ?_
  refine ev_aload_n rfl rfl rfl ?_
  refine ev_aload_n rfl rfl rfl ?_
  refine ev_getI rfl rfl fl_X1_19 hc hzc rfl ?_
  try simp (disch := omega) only [ev_rd1, ev_rd2, ev_rd3, ev_rc1, k_keep_ne]
  refine ev_putI rfl rfl fl_X1_19 rfl rfl ha hz rfl ?_
  refine ev_aload_n rfl rfl rfl ?_
  refine ev_aload_n rfl rfl rfl ?_
  refine ev_getI rfl rfl fl_X1_22 hc hzc rfl ?_
  try simp (disch := omega) only [ev_rd1, ev_rd2, ev_rd3, ev_rc1, k_keep_ne]
  refine ev_putI rfl rfl fl_X1_22 rfl rfl ha hz rfl ?_
  exact ev_vret rfl rfl trivial (⟨rfl, rfl, by
      funext i j
      by_cases h1 : i = a
      · subst h1
        simp only [z_cp, ev_set, true_and, if_true]
        repeat' split
        all_goals first | rfl | (exfalso; omega) | (subst_vars; rfl) | (subst_vars; contradiction)
      · simp only [z_cp, ev_set, h1, false_and, if_false]⟩)

set_option maxRecDepth 100000 in
set_option maxHeartbeats 4000000 in
theorem c_pass (G : Geo) (h : Hp) (a : Nat) (ha : Nat.blt 0 a = true) (hz : ev_sh G a = some (.inl 1)) (d : Int32) : EvU mi_X1_pass [.ref a, .int d] G h (z_pass h a d) := by
  refine EvU.of (lo := [some (.ref a), some (.int d), none]) pf_X1_pass ok_X1_pass rfl rfl ?_
  refine ev_aload_n rfl rfl rfl ?_
  refine ev_dup rfl rfl rfl ?_
  refine ev_getI rfl rfl fl_X1_13 ha hz rfl ?_
  refine ev_iload_n rfl rfl rfl ?_
  refine ev_isub rfl rfl ?_
  refine ev_putI rfl rfl fl_X1_13 rfl rfl ha hz rfl ?_
  refine ev_aload_n rfl rfl rfl ?_
  refine ev_getI rfl rfl fl_X1_13 ha hz rfl ?_
  try simp (disch := omega) only [ev_rd1, ev_rd2, ev_rd3, ev_rc1, k_keep_ne]
  refine ev_if_le rfl rfl (fun c_14 => ?_) (fun c_14 => ?_)
  · refine ev_iconst (v := 0) rfl rfl (by decide) ?_
    refine ev_istore_n rfl rfl rfl rfl ?_
    dsimp only [List.set]
    refine ev_aload_n rfl rfl rfl ?_
    refine ev_iconst (v := 0) rfl rfl (by decide) ?_
    refine ev_aload_n rfl rfl rfl ?_
    refine ev_getI rfl rfl fl_X1_7 ha hz rfl ?_
    try simp (disch := omega) only [ev_rd1, ev_rd2, ev_rd3, ev_rc1, k_keep_ne]
    refine ev_iload_n rfl rfl rfl ?_
    refine ev_iadd rfl rfl ?_
    refine ev_iload_n rfl rfl rfl ?_
    refine ev_isub rfl rfl ?_
    refine ev_S2D rfl rfl lk_X1_25 st_J9_max_7cf53 rfl rfl (c_max _ _ _ _) ?_
    refine ev_putI rfl rfl fl_X1_7 rfl rfl ha hz rfl ?_
    refine ev_aload_n rfl rfl rfl ?_
    refine ev_getI rfl rfl fl_X1_7 ha hz rfl ?_
    try simp (disch := omega) only [ev_rd1, ev_rd2, ev_rd3, ev_rc1, k_keep_ne]
    refine ev_aload_n rfl rfl rfl ?_
    refine ev_getI rfl rfl fl_X1_19 ha hz rfl ?_
    try simp (disch := omega) only [ev_rd1, ev_rd2, ev_rd3, ev_rc1, k_keep_ne]
    refine ev_icmp_le rfl rfl (fun c_52 => ?_) (fun c_52 => ?_)
    · exact ev_vret rfl rfl trivial (⟨rfl, rfl, by
          funext i j
          by_cases h1 : i = a
          · subst h1
            simp only [z_pass, zq_p, zq_w, if_pos c_14, if_pos c_52, ev_set, true_and, if_true]
            repeat' split
            all_goals first | rfl | (exfalso; omega) | (subst_vars; rfl) | (subst_vars; contradiction)
          · simp only [z_pass, ev_set, h1, false_and, if_false]⟩)
    · refine ev_aload_n rfl rfl rfl ?_
      refine ev_iconst (v := 0) rfl rfl (by decide) ?_
      refine ev_aload_n rfl rfl rfl ?_
      refine ev_getI rfl rfl fl_X1_13 ha hz rfl ?_
      try simp (disch := omega) only [ev_rd1, ev_rd2, ev_rd3, ev_rc1, k_keep_ne]
      refine ev_aload_n rfl rfl rfl ?_
      refine ev_getI rfl rfl fl_X1_7 ha hz rfl ?_
      try simp (disch := omega) only [ev_rd1, ev_rd2, ev_rd3, ev_rc1, k_keep_ne]
      refine ev_aload_n rfl rfl rfl ?_
      refine ev_getI rfl rfl fl_X1_19 ha hz rfl ?_
      try simp (disch := omega) only [ev_rd1, ev_rd2, ev_rd3, ev_rc1, k_keep_ne]
      refine ev_isub rfl rfl ?_
      refine ev_isub rfl rfl ?_
      refine ev_S2D rfl rfl lk_X1_25 st_J9_max_7cf53 rfl rfl (c_max _ _ _ _) ?_
      refine ev_putI rfl rfl fl_X1_13 rfl rfl ha hz rfl ?_
      refine ev_aload_n rfl rfl rfl ?_
      refine ev_aload_n rfl rfl rfl ?_
      refine ev_getI rfl rfl fl_X1_19 ha hz rfl ?_
      try simp (disch := omega) only [ev_rd1, ev_rd2, ev_rd3, ev_rc1, k_keep_ne]
      refine ev_putI rfl rfl fl_X1_7 rfl rfl ha hz rfl ?_
      refine ev_aload_n rfl rfl rfl ?_
      refine ev_dup rfl rfl rfl ?_
      refine ev_getI rfl rfl fl_X1_22 ha hz rfl ?_
      try simp (disch := omega) only [ev_rd1, ev_rd2, ev_rd3, ev_rc1, k_keep_ne]
      refine ev_iconst (v := 1) rfl rfl (by decide) ?_
      refine ev_iadd rfl rfl ?_
      refine ev_putI rfl rfl fl_X1_22 rfl rfl ha hz rfl ?_
      exact ev_vret rfl rfl trivial (⟨rfl, rfl, by
          funext i j
          by_cases h1 : i = a
          · subst h1
            simp only [z_pass, zq_p, zq_w, if_pos c_14, if_neg c_52, ev_set, true_and, if_true]
            repeat' split
            all_goals first | rfl | (exfalso; omega) | (subst_vars; rfl) | (subst_vars; contradiction)
          · simp only [z_pass, ev_set, h1, false_and, if_false]⟩)
  · refine ev_iconst (v := 2) rfl rfl (by decide) ?_
    refine ev_aload_n rfl rfl rfl ?_
    refine ev_getI rfl rfl fl_X1_16 ha hz rfl ?_
    try simp (disch := omega) only [ev_rd1, ev_rd2, ev_rd3, ev_rc1, k_keep_ne]
    refine ev_imul rfl rfl ?_
    refine ev_goto rfl rfl ?_
    refine ev_istore_n rfl rfl rfl rfl ?_
    dsimp only [List.set]
    refine ev_aload_n rfl rfl rfl ?_
    refine ev_iconst (v := 0) rfl rfl (by decide) ?_
    refine ev_aload_n rfl rfl rfl ?_
    refine ev_getI rfl rfl fl_X1_7 ha hz rfl ?_
    try simp (disch := omega) only [ev_rd1, ev_rd2, ev_rd3, ev_rc1, k_keep_ne]
    refine ev_iload_n rfl rfl rfl ?_
    refine ev_iadd rfl rfl ?_
    refine ev_iload_n rfl rfl rfl ?_
    refine ev_isub rfl rfl ?_
    refine ev_S2D rfl rfl lk_X1_25 st_J9_max_7cf53 rfl rfl (c_max _ _ _ _) ?_
    refine ev_putI rfl rfl fl_X1_7 rfl rfl ha hz rfl ?_
    refine ev_aload_n rfl rfl rfl ?_
    refine ev_getI rfl rfl fl_X1_7 ha hz rfl ?_
    try simp (disch := omega) only [ev_rd1, ev_rd2, ev_rd3, ev_rc1, k_keep_ne]
    refine ev_aload_n rfl rfl rfl ?_
    refine ev_getI rfl rfl fl_X1_19 ha hz rfl ?_
    try simp (disch := omega) only [ev_rd1, ev_rd2, ev_rd3, ev_rc1, k_keep_ne]
    refine ev_icmp_le rfl rfl (fun c_52 => ?_) (fun c_52 => ?_)
    · exact ev_vret rfl rfl trivial (⟨rfl, rfl, by
          funext i j
          by_cases h1 : i = a
          · subst h1
            simp only [z_pass, zq_p, zq_w, if_neg c_14, if_pos c_52, ev_set, true_and, if_true]
            repeat' split
            all_goals first | rfl | (exfalso; omega) | (subst_vars; rfl) | (subst_vars; contradiction)
          · simp only [z_pass, ev_set, h1, false_and, if_false]⟩)
    · refine ev_aload_n rfl rfl rfl ?_
      refine ev_iconst (v := 0) rfl rfl (by decide) ?_
      refine ev_aload_n rfl rfl rfl ?_
      refine ev_getI rfl rfl fl_X1_13 ha hz rfl ?_
      try simp (disch := omega) only [ev_rd1, ev_rd2, ev_rd3, ev_rc1, k_keep_ne]
      refine ev_aload_n rfl rfl rfl ?_
      refine ev_getI rfl rfl fl_X1_7 ha hz rfl ?_
      try simp (disch := omega) only [ev_rd1, ev_rd2, ev_rd3, ev_rc1, k_keep_ne]
      refine ev_aload_n rfl rfl rfl ?_
      refine ev_getI rfl rfl fl_X1_19 ha hz rfl ?_
      try simp (disch := omega) only [ev_rd1, ev_rd2, ev_rd3, ev_rc1, k_keep_ne]
      refine ev_isub rfl rfl ?_
      refine ev_isub rfl rfl ?_
      refine ev_S2D rfl rfl lk_X1_25 st_J9_max_7cf53 rfl rfl (c_max _ _ _ _) ?_
      refine ev_putI rfl rfl fl_X1_13 rfl rfl ha hz rfl ?_
      refine ev_aload_n rfl rfl rfl ?_
      refine ev_aload_n rfl rfl rfl ?_
      refine ev_getI rfl rfl fl_X1_19 ha hz rfl ?_
      try simp (disch := omega) only [ev_rd1, ev_rd2, ev_rd3, ev_rc1, k_keep_ne]
      refine ev_putI rfl rfl fl_X1_7 rfl rfl ha hz rfl ?_
      refine ev_aload_n rfl rfl rfl ?_
      refine ev_dup rfl rfl rfl ?_
      refine ev_getI rfl rfl fl_X1_22 ha hz rfl ?_
      try simp (disch := omega) only [ev_rd1, ev_rd2, ev_rd3, ev_rc1, k_keep_ne]
      refine ev_iconst (v := 1) rfl rfl (by decide) ?_
      refine ev_iadd rfl rfl ?_
      refine ev_putI rfl rfl fl_X1_22 rfl rfl ha hz rfl ?_
      exact ev_vret rfl rfl trivial (⟨rfl, rfl, by
          funext i j
          by_cases h1 : i = a
          · subst h1
            simp only [z_pass, zq_p, zq_w, if_neg c_14, if_neg c_52, ev_set, true_and, if_true]
            repeat' split
            all_goals first | rfl | (exfalso; omega) | (subst_vars; rfl) | (subst_vars; contradiction)
          · simp only [z_pass, ev_set, h1, false_and, if_false]⟩)

set_option maxRecDepth 100000 in
set_option maxHeartbeats 4000000 in
theorem c_after (G : Geo) (h : Hp) (a : Nat) (ha : Nat.blt 0 a = true) (hz : ev_sh G a = some (.inl 1)) (p d : Int32) : EvD mi_X1_after [.ref a, .int p, .int d] G h (z_min (h a 3) (z_max 0 (p + 2 * h a 2 - d))) (h) := by
  refine EvD.of (lo := [some (.ref a), some (.int p), some (.int d)]) pf_X1_after ok_X1_after rfl rfl ?_
  refine ev_aload_n rfl rfl rfl ?_
  refine ev_getI rfl rfl fl_X1_19 ha hz rfl ?_
  refine ev_iconst (v := 0) rfl rfl (by decide) ?_
  refine ev_iload_n rfl rfl rfl ?_
  refine ev_iconst (v := 2) rfl rfl (by decide) ?_
  refine ev_aload_n rfl rfl rfl ?_
  refine ev_getI rfl rfl fl_X1_16 ha hz rfl ?_
  refine ev_imul rfl rfl ?_
  refine ev_iadd rfl rfl ?_
  refine ev_iload_n rfl rfl rfl ?_
  refine ev_isub rfl rfl ?_
  refine ev_S2D rfl rfl lk_X1_25 st_J9_max_7cf53 rfl rfl (c_max _ _ _ _) ?_
  refine ev_S2D rfl rfl lk_X1_31 st_J9_min_7cf53 rfl rfl (c_min _ _ _ _) ?_
  exact ev_iret rfl rfl rfl (⟨rfl, rfl, rfl⟩)

def z_all (n : Int32) : Int32 := 1 <<< (n &&& 31) - 1
def z_hasAll (c n : Int32) : Int32 := if c &&& (z_all n ^^^ (-1)) = 0 then 1 else 0
def o_bent (h : Hp) (w : Nat) (p : Int32) : Int32 := z_fd (h 7 w * (p - 100)) 10
def o_off (h : Hp) (w : Nat) (p : Int32) : Int32 := h 9 w + h 10 w + o_bent h w p
def z_near (x b : Int32) : Int32 := if b < z_abs x then 0 else 1
def s_drawn (h : Hp) (c l : Int32) : Nat → Int32
  | 0 => 0
  | k + 1 => if c >>> (nI k &&& 31) &&& 1 = 0 then (if l >>> (nI k &&& 31) &&& 1 = 0 then s_drawn h c l k else s_drawn h c l k + h 6 k / 2) else s_drawn h c l k + h 6 k
def s_stray (h : Hp) (c p : Int32) : Nat → Int32
  | 0 => 0
  | k + 1 => if c >>> (nI k &&& 31) &&& 1 = 0 then s_stray h c p k else z_max (s_stray h c p k) (z_abs (o_off h k p))
def s_exact (h : Hp) (p : Int32) : Nat → Int32
  | 0 => 0
  | k + 1 => s_exact h p k + (if o_off h k p = 0 then 1 else 0)
def s_crk (h : Hp) : Nat → Int32
  | 0 => 0
  | k + 1 => s_crk h k + (if h 10 k = 0 then 0 else 1)

set_option maxRecDepth 100000 in
set_option maxHeartbeats 4000000 in
theorem c_all (L : Nat) (b : Bool) (h : Hp)  : EvD mi_X8_all [.ref 4] (G0 L b) h (z_all (h 4 7)) (h) := by
  refine EvD.of (lo := [some (.ref 4)]) pf_X8_all ok_X8_all rfl rfl ?_
  refine ev_iconst (v := 1) rfl rfl (by decide) ?_
  refine ev_aload_n rfl rfl rfl ?_
  refine ev_getI rfl rfl fl_X8_35 rfl rfl rfl ?_
  refine ev_ishl rfl rfl ?_
  refine ev_iconst (v := 1) rfl rfl (by decide) ?_
  refine ev_isub rfl rfl ?_
  exact ev_iret rfl rfl rfl (⟨rfl, rfl, rfl⟩)

set_option maxRecDepth 100000 in
set_option maxHeartbeats 4000000 in
theorem c_hasAll (L : Nat) (b : Bool) (h : Hp) (c : Int32) : EvD mi_X8_hasAll [.ref 4, .int c] (G0 L b) h (z_hasAll c (h 4 7)) (h) := by
  refine EvD.of (lo := [some (.ref 4), some (.int c)]) pf_X8_hasAll ok_X8_hasAll rfl rfl ?_
  refine ev_iload_n rfl rfl rfl ?_
  refine ev_aload_n rfl rfl rfl ?_
  refine ev_V0D rfl rfl lk_X8_42 vt_X8_all rfl rfl rfl rfl rfl (c_all _ _ _) ?_
  refine ev_iconst (v := (-1)) rfl rfl (by decide) ?_
  refine ev_ixor rfl rfl ?_
  refine ev_iand rfl rfl ?_
  refine ev_if_ne rfl rfl (fun c_8 => ?_) (fun c_8 => ?_)
  · refine ev_iconst (v := 0) rfl rfl (by decide) ?_
    exact ev_iret rfl rfl rfl (⟨congrArg (fun z => some (Value.int z)) (by simp only [z_hasAll, if_neg c_8]), rfl, rfl⟩)
  · refine ev_iconst (v := 1) rfl rfl (by decide) ?_
    refine ev_goto rfl rfl ?_
    exact ev_iret rfl rfl rfl (⟨congrArg (fun z => some (Value.int z)) (by simp only [z_hasAll, if_pos c_8]), rfl, rfl⟩)

set_option maxRecDepth 100000 in
set_option maxHeartbeats 4000000 in
theorem c_bentAt (L : Nat) (b : Bool) (h : Hp) (w : Nat) (hw : w < 12) (p : Int32)  : EvD mi_X8_bentAt [.ref 4, .int (nI w), .int p] (G0 L b) h (o_bent h w p) (h) := by
  refine EvD.of (lo := [some (.ref 4), some (.int (nI w)), some (.int p)]) pf_X8_bentAt ok_X8_bentAt rfl rfl ?_
  refine ev_aload_n rfl rfl rfl ?_
  refine ev_getR rfl rfl fl_X8_18 rfl rfl rfl rfl ?_
  refine ev_iload_n rfl rfl rfl ?_
  refine ev_iald rfl rfl rfl (vp_in_nI (by omega) (by decide)) (nI_clamp (by omega)) ?_
  refine ev_iload_n rfl rfl rfl ?_
  refine ev_bipush (v := 100) rfl rfl (by decide) ?_
  refine ev_isub rfl rfl ?_
  refine ev_imul rfl rfl ?_
  refine ev_bipush (v := 10) rfl rfl (by decide) ?_
  refine ev_S2D rfl rfl lk_X8_46 st_J9_floorDiv_7cf53 rfl rfl (c_floorDiv _ _ _ _ (by decide)) ?_
  exact ev_iret rfl rfl rfl (⟨rfl, rfl, rfl⟩)

set_option maxRecDepth 100000 in
set_option maxHeartbeats 4000000 in
theorem c_offAt (L : Nat) (b : Bool) (h : Hp) (w : Nat) (hw : w < 12) (p : Int32)  : EvD mi_X8_offAt [.ref 4, .int (nI w), .int p] (G0 L b) h (o_off h w p) (h) := by
  refine EvD.of (lo := [some (.ref 4), some (.int (nI w)), some (.int p)]) pf_X8_offAt ok_X8_offAt rfl rfl ?_
  refine ev_aload_n rfl rfl rfl ?_
  refine ev_getR rfl rfl fl_X8_25 rfl rfl rfl rfl ?_
  refine ev_iload_n rfl rfl rfl ?_
  refine ev_iald rfl rfl rfl (vp_in_nI (by omega) (by decide)) (nI_clamp (by omega)) ?_
  refine ev_aload_n rfl rfl rfl ?_
  refine ev_getR rfl rfl fl_X8_28 rfl rfl rfl rfl ?_
  refine ev_iload_n rfl rfl rfl ?_
  refine ev_iald rfl rfl rfl (vp_in_nI (by omega) (by decide)) (nI_clamp (by omega)) ?_
  refine ev_iadd rfl rfl ?_
  refine ev_aload_n rfl rfl rfl ?_
  refine ev_iload_n rfl rfl rfl ?_
  refine ev_iload_n rfl rfl rfl ?_
  refine ev_V2D rfl rfl lk_X8_52 vt_X8_bentAt rfl rfl rfl rfl rfl (c_bentAt _ _ _ _ (by omega) _) ?_
  refine ev_iadd rfl rfl ?_
  exact ev_iret rfl rfl rfl (⟨rfl, rfl, rfl⟩)

set_option maxRecDepth 100000 in
set_option maxHeartbeats 4000000 in
theorem c_isNear (L : Nat) (b : Bool) (h : Hp) (w : Nat) (hw : w < 12) (p : Int32) (d : Int32) : EvD mi_X8_isNear [.ref 4, .int (nI w), .int p, .int d] (G0 L b) h (z_near (o_off h w p) d) (h) := by
  refine EvD.of (lo := [some (.ref 4), some (.int (nI w)), some (.int p), some (.int d)]) pf_X8_isNear ok_X8_isNear rfl rfl ?_
  refine ev_aload_n rfl rfl rfl ?_
  refine ev_iload_n rfl rfl rfl ?_
  refine ev_iload_n rfl rfl rfl ?_
  refine ev_V2D rfl rfl lk_X8_55 vt_X8_offAt rfl rfl rfl rfl rfl (c_offAt _ _ _ _ (by omega) _) ?_
  refine ev_S1D rfl rfl lk_X8_58 st_J9_abs_0f7a4 rfl rfl (c_abs _ _ _) ?_
  refine ev_iload_n rfl rfl rfl ?_
  refine ev_icmp_gt rfl rfl (fun c_10 => ?_) (fun c_10 => ?_)
  · refine ev_iconst (v := 0) rfl rfl (by decide) ?_
    exact ev_iret rfl rfl rfl (⟨congrArg (fun z => some (Value.int z)) (by simp only [z_near, if_pos c_10]), rfl, rfl⟩)
  · refine ev_iconst (v := 1) rfl rfl (by decide) ?_
    refine ev_goto rfl rfl ?_
    exact ev_iret rfl rfl rfl (⟨congrArg (fun z => some (Value.int z)) (by simp only [z_near, if_neg c_10]), rfl, rfl⟩)

set_option maxRecDepth 100000 in
set_option maxHeartbeats 4000000 in
theorem l_drawnBy (L : Nat) (b : Bool) (h : Hp) (m : Nat) (hm0 : m ≤ 12) (hm : h 4 7 = nI m) (c l : Int32) : ∀ t i : Nat, i + t = m → EvQ mi_X8_drawnBy 5 [some (.ref 4), some (.int c), some (.int l), some (.int (s_drawn h c l i)), some (.int (nI i))] [] (G0 L b) h 0 0 (fun v G' h' => v = some (.int (s_drawn h c l m)) ∧ G' = G0 L b ∧ h' = h) := by
  intro t
  induction t with
  | zero =>
    intro i hi
    have hi2 : i = m := by omega
    subst hi2
    refine ev_iload rfl rfl rfl ?_
    refine ev_aload_n rfl rfl rfl ?_
    refine ev_getI rfl rfl fl_X8_35 rfl rfl rfl ?_
    refine ev_icmp_ge rfl rfl (fun c_11 => ?_) (fun z_ => absurd (by rw [hm]; exact Int32.le_refl _) z_)
    refine ev_iload_n rfl rfl rfl ?_
    exact ev_iret rfl rfl rfl (⟨rfl, rfl, rfl⟩)
  | succ t ih =>
    intro i hi
    refine ev_iload rfl rfl rfl ?_
    refine ev_aload_n rfl rfl rfl ?_
    refine ev_getI rfl rfl fl_X8_35 rfl rfl rfl ?_
    refine ev_icmp_ge rfl rfl (fun z_ => absurd z_ (by rw [hm]; exact nI_ge (by omega) (by omega))) (fun c_11 => ?_)
    refine ev_iload_n rfl rfl rfl ?_
    refine ev_iload rfl rfl rfl ?_
    refine ev_ishr rfl rfl ?_
    refine ev_iconst (v := 1) rfl rfl (by decide) ?_
    refine ev_iand rfl rfl ?_
    refine ev_if_eq rfl rfl (fun c_20 => ?_) (fun c_20 => ?_)
    · refine ev_iload_n rfl rfl rfl ?_
      refine ev_iload rfl rfl rfl ?_
      refine ev_ishr rfl rfl ?_
      refine ev_iconst (v := 1) rfl rfl (by decide) ?_
      refine ev_iand rfl rfl ?_
      refine ev_if_eq rfl rfl (fun c_42 => ?_) (fun c_42 => ?_)
      · refine ev_iinc (y := 1) rfl rfl rfl (by decide) rfl rfl ?_
        dsimp only [List.set]
        refine ev_goto rfl rfl ?_
        have z_ := ih (i + 1) (by omega)
        simp only [s_drawn, if_neg c_11, if_pos c_20, if_pos c_42] at z_
        rw [nI_1 i]
        exact z_
      · refine ev_iload_n rfl rfl rfl ?_
        refine ev_aload_n rfl rfl rfl ?_
        refine ev_getR rfl rfl fl_X8_15 rfl rfl rfl rfl ?_
        refine ev_iload rfl rfl rfl ?_
        refine ev_iald rfl rfl rfl (vp_in_nI (by omega) (by decide)) (nI_clamp (by omega)) ?_
        refine ev_iconst (v := 2) rfl rfl (by decide) ?_
        refine ev_idiv rfl rfl (by decide) ?_
        refine ev_iadd rfl rfl ?_
        refine ev_istore_n rfl rfl rfl rfl ?_
        dsimp only [List.set]
        refine ev_iinc (y := 1) rfl rfl rfl (by decide) rfl rfl ?_
        dsimp only [List.set]
        refine ev_goto rfl rfl ?_
        have z_ := ih (i + 1) (by omega)
        simp only [s_drawn, if_neg c_11, if_pos c_20, if_neg c_42] at z_
        rw [nI_1 i]
        exact z_
    · refine ev_iload_n rfl rfl rfl ?_
      refine ev_aload_n rfl rfl rfl ?_
      refine ev_getR rfl rfl fl_X8_15 rfl rfl rfl rfl ?_
      refine ev_iload rfl rfl rfl ?_
      refine ev_iald rfl rfl rfl (vp_in_nI (by omega) (by decide)) (nI_clamp (by omega)) ?_
      refine ev_iadd rfl rfl ?_
      refine ev_istore_n rfl rfl rfl rfl ?_
      dsimp only [List.set]
      refine ev_goto rfl rfl ?_
      refine ev_iinc (y := 1) rfl rfl rfl (by decide) rfl rfl ?_
      dsimp only [List.set]
      refine ev_goto rfl rfl ?_
      have z_ := ih (i + 1) (by omega)
      simp only [s_drawn, if_neg c_11, if_neg c_20] at z_
      rw [nI_1 i]
      exact z_

set_option maxRecDepth 100000 in
set_option maxHeartbeats 4000000 in
theorem c_drawnBy (L : Nat) (b : Bool) (h : Hp) (m : Nat) (hm0 : m ≤ 12) (hm : h 4 7 = nI m) (c l : Int32) : EvD mi_X8_drawnBy [.ref 4, .int c, .int l] (G0 L b) h (s_drawn h c l m) (h) := by
  refine EvD.of (lo := [some (.ref 4), some (.int c), some (.int l), none, none]) pf_X8_drawnBy ok_X8_drawnBy rfl rfl ?_
  refine ev_iconst (v := 0) rfl rfl (by decide) ?_
  refine ev_istore_n rfl rfl rfl rfl ?_
  dsimp only [List.set]
  refine ev_iconst (v := 0) rfl rfl (by decide) ?_
  refine ev_istore rfl rfl rfl rfl ?_
  dsimp only [List.set]
  exact l_drawnBy L b h m hm0 hm c l m 0 (by omega)

set_option maxRecDepth 100000 in
set_option maxHeartbeats 4000000 in
theorem l_strayOf (L : Nat) (b : Bool) (h : Hp) (m : Nat) (hm0 : m ≤ 12) (hm : h 4 7 = nI m) (c p : Int32) : ∀ t i : Nat, i + t = m → EvQ mi_X8_strayOf 5 [some (.ref 4), some (.int c), some (.int p), some (.int (s_stray h c p i)), some (.int (nI i))] [] (G0 L b) h 0 0 (fun v G' h' => v = some (.int (s_stray h c p m)) ∧ G' = G0 L b ∧ h' = h) := by
  intro t
  induction t with
  | zero =>
    intro i hi
    have hi2 : i = m := by omega
    subst hi2
    refine ev_iload rfl rfl rfl ?_
    refine ev_aload_n rfl rfl rfl ?_
    refine ev_getI rfl rfl fl_X8_35 rfl rfl rfl ?_
    refine ev_icmp_ge rfl rfl (fun c_11 => ?_) (fun z_ => absurd (by rw [hm]; exact Int32.le_refl _) z_)
    refine ev_iload_n rfl rfl rfl ?_
    exact ev_iret rfl rfl rfl (⟨rfl, rfl, rfl⟩)
  | succ t ih =>
    intro i hi
    refine ev_iload rfl rfl rfl ?_
    refine ev_aload_n rfl rfl rfl ?_
    refine ev_getI rfl rfl fl_X8_35 rfl rfl rfl ?_
    refine ev_icmp_ge rfl rfl (fun z_ => absurd z_ (by rw [hm]; exact nI_ge (by omega) (by omega))) (fun c_11 => ?_)
    refine ev_iload_n rfl rfl rfl ?_
    refine ev_iload rfl rfl rfl ?_
    refine ev_ishr rfl rfl ?_
    refine ev_iconst (v := 1) rfl rfl (by decide) ?_
    refine ev_iand rfl rfl ?_
    refine ev_if_eq rfl rfl (fun c_20 => ?_) (fun c_20 => ?_)
    · refine ev_iinc (y := 1) rfl rfl rfl (by decide) rfl rfl ?_
      dsimp only [List.set]
      refine ev_goto rfl rfl ?_
      have z_ := ih (i + 1) (by omega)
      simp only [s_stray, if_neg c_11, if_pos c_20] at z_
      rw [nI_1 i]
      exact z_
    · refine ev_iload_n rfl rfl rfl ?_
      refine ev_aload_n rfl rfl rfl ?_
      refine ev_iload rfl rfl rfl ?_
      refine ev_iload_n rfl rfl rfl ?_
      refine ev_V2D rfl rfl lk_X8_55 vt_X8_offAt rfl rfl rfl rfl rfl (c_offAt _ _ _ _ (by omega) _) ?_
      refine ev_S1D rfl rfl lk_X8_58 st_J9_abs_0f7a4 rfl rfl (c_abs _ _ _) ?_
      refine ev_S2D rfl rfl lk_X8_62 st_J9_max_7cf53 rfl rfl (c_max _ _ _ _) ?_
      refine ev_istore_n rfl rfl rfl rfl ?_
      dsimp only [List.set]
      refine ev_iinc (y := 1) rfl rfl rfl (by decide) rfl rfl ?_
      dsimp only [List.set]
      refine ev_goto rfl rfl ?_
      have z_ := ih (i + 1) (by omega)
      simp only [s_stray, if_neg c_11, if_neg c_20] at z_
      rw [nI_1 i]
      exact z_

set_option maxRecDepth 100000 in
set_option maxHeartbeats 4000000 in
theorem c_strayOf (L : Nat) (b : Bool) (h : Hp) (m : Nat) (hm0 : m ≤ 12) (hm : h 4 7 = nI m) (c p : Int32) : EvD mi_X8_strayOf [.ref 4, .int c, .int p] (G0 L b) h (s_stray h c p m) (h) := by
  refine EvD.of (lo := [some (.ref 4), some (.int c), some (.int p), none, none]) pf_X8_strayOf ok_X8_strayOf rfl rfl ?_
  refine ev_iconst (v := 0) rfl rfl (by decide) ?_
  refine ev_istore_n rfl rfl rfl rfl ?_
  dsimp only [List.set]
  refine ev_iconst (v := 0) rfl rfl (by decide) ?_
  refine ev_istore rfl rfl rfl rfl ?_
  dsimp only [List.set]
  exact l_strayOf L b h m hm0 hm c p m 0 (by omega)

set_option maxRecDepth 100000 in
set_option maxHeartbeats 4000000 in
theorem l_exactAt (L : Nat) (b : Bool) (h : Hp) (m : Nat) (hm0 : m ≤ 12) (hm : h 4 7 = nI m) (p : Int32) : ∀ t i : Nat, i + t = m → EvQ mi_X8_exactAt 4 [some (.ref 4), some (.int p), some (.int (s_exact h p i)), some (.int (nI i))] [] (G0 L b) h 0 0 (fun v G' h' => v = some (.int (s_exact h p m)) ∧ G' = G0 L b ∧ h' = h) := by
  intro t
  induction t with
  | zero =>
    intro i hi
    have hi2 : i = m := by omega
    subst hi2
    refine ev_iload_n rfl rfl rfl ?_
    refine ev_aload_n rfl rfl rfl ?_
    refine ev_getI rfl rfl fl_X8_35 rfl rfl rfl ?_
    refine ev_icmp_ge rfl rfl (fun c_9 => ?_) (fun z_ => absurd (by rw [hm]; exact Int32.le_refl _) z_)
    refine ev_iload_n rfl rfl rfl ?_
    exact ev_iret rfl rfl rfl (⟨rfl, rfl, rfl⟩)
  | succ t ih =>
    intro i hi
    refine ev_iload_n rfl rfl rfl ?_
    refine ev_aload_n rfl rfl rfl ?_
    refine ev_getI rfl rfl fl_X8_35 rfl rfl rfl ?_
    refine ev_icmp_ge rfl rfl (fun z_ => absurd z_ (by rw [hm]; exact nI_ge (by omega) (by omega))) (fun c_9 => ?_)
    refine ev_iload_n rfl rfl rfl ?_
    refine ev_aload_n rfl rfl rfl ?_
    refine ev_iload_n rfl rfl rfl ?_
    refine ev_iload_n rfl rfl rfl ?_
    refine ev_V2D rfl rfl lk_X8_55 vt_X8_offAt rfl rfl rfl rfl rfl (c_offAt _ _ _ _ (by omega) _) ?_
    refine ev_if_ne rfl rfl (fun c_19 => ?_) (fun c_19 => ?_)
    · refine ev_iconst (v := 0) rfl rfl (by decide) ?_
      refine ev_iadd rfl rfl ?_
      refine ev_istore_n rfl rfl rfl rfl ?_
      dsimp only [List.set]
      refine ev_iinc (y := 1) rfl rfl rfl (by decide) rfl rfl ?_
      dsimp only [List.set]
      refine ev_goto rfl rfl ?_
      have z_ := ih (i + 1) (by omega)
      simp only [s_exact, if_neg c_9, if_neg c_19] at z_
      rw [nI_1 i]
      exact z_
    · refine ev_iconst (v := 1) rfl rfl (by decide) ?_
      refine ev_goto rfl rfl ?_
      refine ev_iadd rfl rfl ?_
      refine ev_istore_n rfl rfl rfl rfl ?_
      dsimp only [List.set]
      refine ev_iinc (y := 1) rfl rfl rfl (by decide) rfl rfl ?_
      dsimp only [List.set]
      refine ev_goto rfl rfl ?_
      have z_ := ih (i + 1) (by omega)
      simp only [s_exact, if_neg c_9, if_pos c_19] at z_
      rw [nI_1 i]
      exact z_

set_option maxRecDepth 100000 in
set_option maxHeartbeats 4000000 in
theorem c_exactAt (L : Nat) (b : Bool) (h : Hp) (m : Nat) (hm0 : m ≤ 12) (hm : h 4 7 = nI m) (p : Int32) : EvD mi_X8_exactAt [.ref 4, .int p] (G0 L b) h (s_exact h p m) (h) := by
  refine EvD.of (lo := [some (.ref 4), some (.int p), none, none]) pf_X8_exactAt ok_X8_exactAt rfl rfl ?_
  refine ev_iconst (v := 0) rfl rfl (by decide) ?_
  refine ev_istore_n rfl rfl rfl rfl ?_
  dsimp only [List.set]
  refine ev_iconst (v := 0) rfl rfl (by decide) ?_
  refine ev_istore_n rfl rfl rfl rfl ?_
  dsimp only [List.set]
  exact l_exactAt L b h m hm0 hm p m 0 (by omega)

set_option maxRecDepth 100000 in
set_option maxHeartbeats 4000000 in
theorem l_cracked (L : Nat) (b : Bool) (h : Hp) (m : Nat) (hm0 : m ≤ 12) (hm : h 4 7 = nI m)  : ∀ t i : Nat, i + t = m → EvQ mi_X8_cracked 4 [some (.ref 4), some (.int (s_crk h i)), some (.int (nI i))] [] (G0 L b) h 0 0 (fun v G' h' => v = some (.int (s_crk h m)) ∧ G' = G0 L b ∧ h' = h) := by
  intro t
  induction t with
  | zero =>
    intro i hi
    have hi2 : i = m := by omega
    subst hi2
    refine ev_iload_n rfl rfl rfl ?_
    refine ev_aload_n rfl rfl rfl ?_
    refine ev_getI rfl rfl fl_X8_35 rfl rfl rfl ?_
    refine ev_icmp_ge rfl rfl (fun c_9 => ?_) (fun z_ => absurd (by rw [hm]; exact Int32.le_refl _) z_)
    refine ev_iload_n rfl rfl rfl ?_
    exact ev_iret rfl rfl rfl (⟨rfl, rfl, rfl⟩)
  | succ t ih =>
    intro i hi
    refine ev_iload_n rfl rfl rfl ?_
    refine ev_aload_n rfl rfl rfl ?_
    refine ev_getI rfl rfl fl_X8_35 rfl rfl rfl ?_
    refine ev_icmp_ge rfl rfl (fun z_ => absurd z_ (by rw [hm]; exact nI_ge (by omega) (by omega))) (fun c_9 => ?_)
    refine ev_iload_n rfl rfl rfl ?_
    refine ev_aload_n rfl rfl rfl ?_
    refine ev_getR rfl rfl fl_X8_28 rfl rfl rfl rfl ?_
    refine ev_iload_n rfl rfl rfl ?_
    refine ev_iald rfl rfl rfl (vp_in_nI (by omega) (by decide)) (nI_clamp (by omega)) ?_
    refine ev_if_eq rfl rfl (fun c_19 => ?_) (fun c_19 => ?_)
    · refine ev_iconst (v := 0) rfl rfl (by decide) ?_
      refine ev_iadd rfl rfl ?_
      refine ev_istore_n rfl rfl rfl rfl ?_
      dsimp only [List.set]
      refine ev_iinc (y := 1) rfl rfl rfl (by decide) rfl rfl ?_
      dsimp only [List.set]
      refine ev_goto rfl rfl ?_
      have z_ := ih (i + 1) (by omega)
      simp only [s_crk, if_neg c_9, if_pos c_19] at z_
      rw [nI_1 i]
      exact z_
    · refine ev_iconst (v := 1) rfl rfl (by decide) ?_
      refine ev_goto rfl rfl ?_
      refine ev_iadd rfl rfl ?_
      refine ev_istore_n rfl rfl rfl rfl ?_
      dsimp only [List.set]
      refine ev_iinc (y := 1) rfl rfl rfl (by decide) rfl rfl ?_
      dsimp only [List.set]
      refine ev_goto rfl rfl ?_
      have z_ := ih (i + 1) (by omega)
      simp only [s_crk, if_neg c_9, if_neg c_19] at z_
      rw [nI_1 i]
      exact z_

set_option maxRecDepth 100000 in
set_option maxHeartbeats 4000000 in
theorem c_cracked (L : Nat) (b : Bool) (h : Hp) (m : Nat) (hm0 : m ≤ 12) (hm : h 4 7 = nI m)  : EvD mi_X8_cracked [.ref 4] (G0 L b) h (s_crk h m) (h) := by
  refine EvD.of (lo := [some (.ref 4), none, none]) pf_X8_cracked ok_X8_cracked rfl rfl ?_
  refine ev_iconst (v := 0) rfl rfl (by decide) ?_
  refine ev_istore_n rfl rfl rfl rfl ?_
  dsimp only [List.set]
  refine ev_iconst (v := 0) rfl rfl (by decide) ?_
  refine ev_istore_n rfl rfl rfl rfl ?_
  dsimp only [List.set]
  exact l_cracked L b h m hm0 hm  m 0 (by omega)

def k_near1 (h : Hp) (p : Int32) (i : Nat) : Int32 := if h 8 i = 0 then z_max (-100) (z_min 100 (-(h 10 i + o_bent h i p))) else h 9 i
def k_near (h : Hp) (p : Int32) (m : Nat) : Hp := fun i j => if i = 9 ∧ j < m then k_near1 h p j else h i j
theorem k_near_0 (h : Hp) (p : Int32) : k_near h p 0 = h := by
  funext i j
  exact if_neg (fun q => Nat.not_lt_zero _ q.2)
theorem k_near_ne {h : Hp} {p : Int32} {m i j : Nat} (hi : i ≠ 9) : k_near h p m i j = h i j := if_neg (fun q => hi q.1)
theorem k_near_ge {h : Hp} {p : Int32} {m j : Nat} (hj : m ≤ j) : k_near h p m 9 j = h 9 j := if_neg (fun q => Nat.not_lt.mpr hj q.2)
theorem k_near_s (h : Hp) (p : Int32) (m : Nat) : k_near h p (m + 1) = ev_set (k_near h p m) 9 m (k_near1 h p m) := by
  funext i j
  simp only [k_near, ev_set]
  by_cases h1 : i = 9
  · subst h1
    by_cases h2 : j = m
    · subst h2; simp
    · by_cases h3 : j < m
      · simp [h2, h3, Nat.lt_succ_of_lt h3]
      · simp [h2, h3, show ¬ j < m + 1 by omega]
  · simp [h1]
theorem k_near_bent (h : Hp) (p : Int32) (m i : Nat) (q : Int32) : o_bent (k_near h p m) i q = o_bent h i q := by
  unfold o_bent
  rw [k_near_ne (by decide)]

set_option maxRecDepth 100000 in
set_option maxHeartbeats 4000000 in
theorem l_bringNear (L : Nat) (b : Bool) (h : Hp) (m : Nat) (hm0 : m ≤ 12) (hm : h 4 7 = nI m) (p : Int32) : ∀ t i : Nat, i + t = m → EvQ mi_X8_bringNear 2 [some (.ref 4), some (.int p), some (.int (nI i)), none] [] (G0 L b) (k_near h p i) 0 0 (fun v G' h' => v = none ∧ G' = G0 L b ∧ h' = k_near h p m) := by
  intro t
  induction t with
  | zero =>
    intro i hi
    have hi2 : i = m := by omega
    subst hi2
    refine ev_iload_n rfl rfl rfl ?_
    refine ev_aload_n rfl rfl rfl ?_
    refine ev_getI rfl rfl fl_X8_35 rfl rfl rfl ?_
    try simp (disch := omega) only [k_near_ne]
    refine ev_icmp_ge rfl rfl (fun c_7 => ?_) (fun z_ => absurd (by rw [hm]; exact Int32.le_refl _) z_)
    exact ev_vret rfl rfl trivial (⟨rfl, rfl, rfl⟩)
  | succ t ih =>
    intro i hi
    refine ev_iload_n rfl rfl rfl ?_
    refine ev_aload_n rfl rfl rfl ?_
    refine ev_getI rfl rfl fl_X8_35 rfl rfl rfl ?_
    try simp (disch := omega) only [k_near_ne]
    refine ev_icmp_ge rfl rfl (fun z_ => absurd z_ (by rw [hm]; exact nI_ge (by omega) (by omega))) (fun c_7 => ?_)
    refine ev_aload_n rfl rfl rfl ?_
    refine ev_getR rfl rfl fl_X8_21 rfl rfl rfl rfl ?_
    refine ev_iload_n rfl rfl rfl ?_
    refine ev_zald rfl rfl rfl (vp_in_nI (by omega) (by decide)) (nI_clamp (by omega)) ?_
    try simp (disch := omega) only [k_near_ne]
    try simp (disch := omega) only [k_near_ne]
    refine ev_if_ne rfl rfl (fun c_16 => ?_) (fun c_16 => ?_)
    · refine ev_iinc (y := 1) rfl rfl rfl (by decide) rfl rfl ?_
      dsimp only [List.set]
      refine ev_goto rfl rfl ?_
      have z_ := ih (i + 1) (by omega)
      rw [k_near_s, k_near1, if_neg c_16, ev_set_same (k_near_ge (Nat.le_refl i))] at z_
      rw [nI_1 i]
      exact z_
    · refine ev_aload_n rfl rfl rfl ?_
      refine ev_getR rfl rfl fl_X8_28 rfl rfl rfl rfl ?_
      refine ev_iload_n rfl rfl rfl ?_
      refine ev_iald rfl rfl rfl (vp_in_nI (by omega) (by decide)) (nI_clamp (by omega)) ?_
      try simp (disch := omega) only [k_near_ne]
      refine ev_aload_n rfl rfl rfl ?_
      refine ev_iload_n rfl rfl rfl ?_
      refine ev_iload_n rfl rfl rfl ?_
      refine ev_V2D rfl rfl lk_X8_52 vt_X8_bentAt rfl rfl rfl rfl rfl (c_bentAt _ _ _ _ (by omega) _) ?_
      rw [k_near_bent]
      refine ev_iadd rfl rfl ?_
      refine ev_ineg rfl rfl ?_
      refine ev_istore_n rfl rfl rfl rfl ?_
      dsimp only [List.set]
      refine ev_aload_n rfl rfl rfl ?_
      refine ev_getR rfl rfl fl_X8_25 rfl rfl rfl rfl ?_
      refine ev_iload_n rfl rfl rfl ?_
      refine ev_bipush (v := (-100)) rfl rfl (by decide) ?_
      refine ev_bipush (v := 100) rfl rfl (by decide) ?_
      refine ev_iload_n rfl rfl rfl ?_
      refine ev_S2D rfl rfl lk_X8_65 st_J9_min_7cf53 rfl rfl (c_min _ _ _ _) ?_
      refine ev_S2D rfl rfl lk_X8_62 st_J9_max_7cf53 rfl rfl (c_max _ _ _ _) ?_
      refine ev_iast rfl rfl rfl rfl (vp_in_nI (by omega) (by decide)) (nI_clamp (by omega)) ?_
      refine ev_iinc (y := 1) rfl rfl rfl (by decide) rfl rfl ?_
      dsimp only [List.set]
      refine ev_goto rfl rfl ?_
      have z_ := ih (i + 1) (by omega)
      rw [k_near_s, k_near1, if_pos c_16] at z_
      rw [nI_1 i]
      exact EvQ.drop 3 z_

set_option maxRecDepth 100000 in
set_option maxHeartbeats 4000000 in
theorem c_bringNear (L : Nat) (b : Bool) (h : Hp) (m : Nat) (hm0 : m ≤ 12) (hm : h 4 7 = nI m) (p : Int32) : EvU mi_X8_bringNear [.ref 4, .int p] (G0 L b) h (k_near h p m) := by
  refine EvU.of (lo := [some (.ref 4), some (.int p), none, none]) pf_X8_bringNear ok_X8_bringNear rfl rfl ?_
  refine ev_iconst (v := 0) rfl rfl (by decide) ?_
  refine ev_istore_n rfl rfl rfl rfl ?_
  dsimp only [List.set]
  refine EvQ.hp (k_near h p 0) (k_near_0 h p).symm ?_
  exact l_bringNear L b h m hm0 hm p m 0 (by omega)

def h_fl (h : Hp) (a : Nat) (x : Int32) (n : Nat) : Hp := fun i j => if i = a ∧ j < n then x else h i j
theorem h_fl_0 (h : Hp) (a : Nat) (x : Int32) : h_fl h a x 0 = h := by
  funext i j
  exact if_neg (fun q => Nat.not_lt_zero _ q.2)
theorem h_fl_ne {h : Hp} {a n i j : Nat} {x : Int32} (hi : i ≠ a) : h_fl h a x n i j = h i j := if_neg (fun q => hi q.1)
theorem h_fl_s (h : Hp) (a : Nat) (x : Int32) (m : Nat) : h_fl h a x (m + 1) = ev_set (h_fl h a x m) a m x := by
  funext i j
  simp only [h_fl, ev_set]
  by_cases h1 : i = a
  · subst h1
    by_cases h2 : j = m
    · subst h2; simp
    · by_cases h3 : j < m
      · simp [h2, h3, Nat.lt_succ_of_lt h3]
      · simp [h2, h3, show ¬ j < m + 1 by omega]
  · simp [h1]

set_option maxRecDepth 100000 in
set_option maxHeartbeats 4000000 in
theorem l_fill (G : Geo) (h : Hp) (a : Nat) (x : Int32) (m : Nat) (hm0 : m < 2 ^ 30) (ha : Nat.blt 0 a = true) (hz : ev_sh G a = some (.inr (.int, m))) : ∀ t i : Nat, i + t = m → EvQ mi_J7_fill_53178 5 [some (.ref a), some (.int x), some (.int (nI i)), some (.int (nI m))] [] G (h_fl h a x i) 0 0 (fun v G' h' => v = none ∧ G' = G ∧ h' = h_fl h a x m) := by
  intro t
  induction t with
  | zero =>
    intro i hi
    have hi2 : i = m := by omega
    subst hi2
    refine ev_iload_n rfl rfl rfl ?_
    refine ev_iload_n rfl rfl rfl ?_
    refine ev_icmp_ge rfl rfl (fun c_7 => ?_) (fun z_ => absurd (Int32.le_refl _) z_)
    exact ev_vret rfl rfl trivial (⟨rfl, rfl, rfl⟩)
  | succ t ih =>
    intro i hi
    refine ev_iload_n rfl rfl rfl ?_
    refine ev_iload_n rfl rfl rfl ?_
    refine ev_icmp_ge rfl rfl (fun z_ => absurd z_ (nI_ge (by omega) (by omega))) (fun c_7 => ?_)
    refine ev_aload_n rfl rfl rfl ?_
    refine ev_iload_n rfl rfl rfl ?_
    refine ev_iload_n rfl rfl rfl ?_
    refine ev_iast rfl rfl ha hz (vp_in_nI (by omega) (by omega)) (nI_clamp (by omega)) ?_
    refine ev_iinc (y := 1) rfl rfl rfl (by decide) rfl rfl ?_
    dsimp only [List.set]
    refine ev_goto rfl rfl ?_
    have z_ := ih (i + 1) (by omega)
    rw [h_fl_s] at z_
    rw [nI_1 i]
    exact z_

set_option maxRecDepth 100000 in
set_option maxHeartbeats 4000000 in
theorem c_fill (G : Geo) (h : Hp) (a : Nat) (x : Int32) (m : Nat) (hm0 : m < 2 ^ 30) (ha : Nat.blt 0 a = true) (hz : ev_sh G a = some (.inr (.int, m))) : EvU mi_J7_fill_53178 [.ref a, .int x] G h (h_fl h a x m) := by
  refine EvU.of (lo := [some (.ref a), some (.int x), none, none]) pf_J7_fill_53178 ok_J7_fill_53178 rfl rfl ?_
  refine ev_iconst (v := 0) rfl rfl (by decide) ?_
  refine ev_istore_n rfl rfl rfl rfl ?_
  dsimp only [List.set]
  refine ev_aload_n rfl rfl rfl ?_
  refine ev_alen rfl rfl hz ?_
  refine ev_istore_n rfl rfl rfl rfl ?_
  dsimp only [List.set]
  refine EvQ.hp (h_fl h a x 0) (h_fl_0 h a x).symm ?_
  exact l_fill G h a x m hm0 ha hz m 0 (by omega)
end
section
theorem z_vin {x y : Int32} {m M : Nat} (hx : x = nI m) (hm : m ≤ M) (hM : M < 2 ^ 31) (hy : y = nI M) (hlt : x < y) : vp_in x M := by
  subst hx
  subst hy
  exact vp_in_nI ((nI_ltI (by omega) hM).mp hlt) hM
theorem z_vlt {x y : Int32} {m M : Nat} (hx : x = nI m) (hm : m ≤ M) (hM : M < 2 ^ 31) (hy : y = nI M) (hlt : x < y) : m < M := by
  subst hx
  subst hy
  exact (nI_ltI (by omega) hM).mp hlt
theorem z_cl {x : Int32} {m M : Nat} (hx : x = nI m) (hm : m ≤ M) (hM : M < 2 ^ 31) : x.toNatClampNeg = m := by
  subst hx
  exact nI_clamp (by omega)
def z_noth (x : Int32) : Int32 := if x = -1 then 1 else 0
def z_fas (s l lane : Int32) : Int32 := if z_noth s = 0 then (if l = lane then 0 else 3) else 1
def z_cut (l v : Int32) : Int32 := if l = 0 then v.toInt8.toInt32 else if l = 1 then v.toInt16.toInt32 else v

set_option maxRecDepth 100000 in
set_option maxHeartbeats 4000000 in
theorem c_X5_has (L : Nat) (b : Bool) (h : Hp) (k : Int32) : EvD mi_X5_has [.ref 55, .int k] (G0 L b) h (z_has k 4) (h) := by
  refine EvD.of (lo := [some (.ref 55), some (.int k)]) pf_X5_has ok_X5_has rfl rfl ?_
  refine ev_iconst (v := 0) rfl rfl (by decide) ?_
  refine ev_iload_n rfl rfl rfl ?_
  refine ev_icmp_gt rfl rfl (fun c_2 => ?_) (fun c_2 => ?_)
  · refine ev_iconst (v := 0) rfl rfl (by decide) ?_
    exact ev_iret rfl rfl rfl (⟨congrArg (fun z => some (Value.int z)) (by simp only [z_has, if_pos c_2]), rfl, rfl⟩)
  · refine ev_iload_n rfl rfl rfl ?_
    refine ev_iconst (v := 4) rfl rfl (by decide) ?_
    refine ev_icmp_ge rfl rfl (fun c_7 => ?_) (fun c_7 => ?_)
    · refine ev_iconst (v := 0) rfl rfl (by decide) ?_
      exact ev_iret rfl rfl rfl (⟨congrArg (fun z => some (Value.int z)) (by simp only [z_has, if_neg c_2, if_pos c_7]), rfl, rfl⟩)
    · refine ev_iconst (v := 1) rfl rfl (by decide) ?_
      refine ev_goto rfl rfl ?_
      exact ev_iret rfl rfl rfl (⟨congrArg (fun z => some (Value.int z)) (by simp only [z_has, if_neg c_2, if_neg c_7]), rfl, rfl⟩)

set_option maxRecDepth 100000 in
set_option maxHeartbeats 4000000 in
theorem c_isLane (L : Nat) (b : Bool) (h : Hp) (k : Int32) : EvD mi_X5_isLane [.ref 55, .int k] (G0 L b) h (z_wi k 0 2) (h) := by
  refine EvD.of (lo := [some (.ref 55), some (.int k)]) pf_X5_isLane ok_X5_isLane rfl rfl ?_
  refine ev_iconst (v := 0) rfl rfl (by decide) ?_
  refine ev_iload_n rfl rfl rfl ?_
  refine ev_icmp_gt rfl rfl (fun c_2 => ?_) (fun c_2 => ?_)
  · refine ev_iconst (v := 0) rfl rfl (by decide) ?_
    exact ev_iret rfl rfl rfl (⟨congrArg (fun z => some (Value.int z)) (by simp only [z_wi, if_pos c_2]), rfl, rfl⟩)
  · refine ev_iload_n rfl rfl rfl ?_
    refine ev_iconst (v := 2) rfl rfl (by decide) ?_
    refine ev_icmp_gt rfl rfl (fun c_7 => ?_) (fun c_7 => ?_)
    · refine ev_iconst (v := 0) rfl rfl (by decide) ?_
      exact ev_iret rfl rfl rfl (⟨congrArg (fun z => some (Value.int z)) (by simp only [z_wi, if_neg c_2, if_pos c_7]), rfl, rfl⟩)
    · refine ev_iconst (v := 1) rfl rfl (by decide) ?_
      refine ev_goto rfl rfl ?_
      exact ev_iret rfl rfl rfl (⟨congrArg (fun z => some (Value.int z)) (by simp only [z_wi, if_neg c_2, if_neg c_7]), rfl, rfl⟩)

set_option maxRecDepth 100000 in
set_option maxHeartbeats 4000000 in
theorem c_isNothing (L : Nat) (b : Bool) (h : Hp) (n : Nat) (hn : n < 4)  : EvD mi_X5_isNothing [.ref 55, .int (nI n)] (G0 L b) h (z_noth (h 62 n)) (h) := by
  refine EvD.of (lo := [some (.ref 55), some (.int (nI n))]) pf_X5_isNothing ok_X5_isNothing rfl rfl ?_
  refine ev_aload_n rfl rfl rfl ?_
  refine ev_getR rfl rfl fl_X5_18 rfl rfl rfl rfl ?_
  refine ev_iload_n rfl rfl rfl ?_
  refine ev_iald rfl rfl rfl (vp_in_nI (by omega) (by decide)) (nI_clamp (by omega)) ?_
  refine ev_iconst (v := (-1)) rfl rfl (by decide) ?_
  refine ev_icmp_ne rfl rfl (fun c_7 => ?_) (fun c_7 => ?_)
  · refine ev_iconst (v := 0) rfl rfl (by decide) ?_
    exact ev_iret rfl rfl rfl (⟨congrArg (fun z => some (Value.int z)) (by simp only [z_noth, if_neg c_7]), rfl, rfl⟩)
  · refine ev_iconst (v := 1) rfl rfl (by decide) ?_
    refine ev_goto rfl rfl ?_
    exact ev_iret rfl rfl rfl (⟨congrArg (fun z => some (Value.int z)) (by simp only [z_noth, if_pos c_7]), rfl, rfl⟩)

set_option maxRecDepth 100000 in
set_option maxHeartbeats 4000000 in
theorem c_hasCell (L : Nat) (b : Bool) (h : Hp) (n : Nat) (hn : n < 4) (i : Int32) : EvD mi_X5_hasCell [.ref 55, .int (nI n), .int i] (G0 L b) h (z_has i (h 62 n)) (h) := by
  refine EvD.of (lo := [some (.ref 55), some (.int (nI n)), some (.int i)]) pf_X5_hasCell ok_X5_hasCell rfl rfl ?_
  refine ev_iconst (v := 0) rfl rfl (by decide) ?_
  refine ev_iload_n rfl rfl rfl ?_
  refine ev_icmp_gt rfl rfl (fun c_2 => ?_) (fun c_2 => ?_)
  · refine ev_iconst (v := 0) rfl rfl (by decide) ?_
    exact ev_iret rfl rfl rfl (⟨congrArg (fun z => some (Value.int z)) (by simp only [z_has, if_pos c_2]), rfl, rfl⟩)
  · refine ev_iload_n rfl rfl rfl ?_
    refine ev_aload_n rfl rfl rfl ?_
    refine ev_getR rfl rfl fl_X5_18 rfl rfl rfl rfl ?_
    refine ev_iload_n rfl rfl rfl ?_
    refine ev_iald rfl rfl rfl (vp_in_nI (by omega) (by decide)) (nI_clamp (by omega)) ?_
    refine ev_icmp_ge rfl rfl (fun c_12 => ?_) (fun c_12 => ?_)
    · refine ev_iconst (v := 0) rfl rfl (by decide) ?_
      exact ev_iret rfl rfl rfl (⟨congrArg (fun z => some (Value.int z)) (by simp only [z_has, if_neg c_2, if_pos c_12]), rfl, rfl⟩)
    · refine ev_iconst (v := 1) rfl rfl (by decide) ?_
      refine ev_goto rfl rfl ?_
      exact ev_iret rfl rfl rfl (⟨congrArg (fun z => some (Value.int z)) (by simp only [z_has, if_neg c_2, if_neg c_12]), rfl, rfl⟩)

set_option maxRecDepth 100000 in
set_option maxHeartbeats 4000000 in
theorem c_faultAs (L : Nat) (b : Bool) (h : Hp) (n : Nat) (hn : n < 4) (l : Int32) : EvD mi_X5_faultAs [.ref 55, .int (nI n), .int l] (G0 L b) h (z_fas (h 62 n) (h 61 n) l) (h) := by
  refine EvD.of (lo := [some (.ref 55), some (.int (nI n)), some (.int l)]) pf_X5_faultAs ok_X5_faultAs rfl rfl ?_
  refine ev_aload_n rfl rfl rfl ?_
  refine ev_iload_n rfl rfl rfl ?_
  refine ev_V1D rfl rfl lk_X5_21 vt_X5_isNothing rfl rfl rfl rfl rfl (c_isNothing _ _ _ _ (by omega)) ?_
  refine ev_if_eq rfl rfl (fun c_5 => ?_) (fun c_5 => ?_)
  · refine ev_aload_n rfl rfl rfl ?_
    refine ev_getR rfl rfl fl_X5_14 rfl rfl rfl rfl ?_
    refine ev_iload_n rfl rfl rfl ?_
    refine ev_iald rfl rfl rfl (vp_in_nI (by omega) (by decide)) (nI_clamp (by omega)) ?_
    refine ev_iload_n rfl rfl rfl ?_
    refine ev_icmp_ne rfl rfl (fun c_17 => ?_) (fun c_17 => ?_)
    · refine ev_iconst (v := 3) rfl rfl (by decide) ?_
      exact ev_iret rfl rfl rfl (⟨congrArg (fun z => some (Value.int z)) (by simp only [z_fas, if_pos c_5, if_neg c_17]), rfl, rfl⟩)
    · refine ev_iconst (v := 0) rfl rfl (by decide) ?_
      refine ev_goto rfl rfl ?_
      exact ev_iret rfl rfl rfl (⟨congrArg (fun z => some (Value.int z)) (by simp only [z_fas, if_pos c_5, if_pos c_17]), rfl, rfl⟩)
  · refine ev_iconst (v := 1) rfl rfl (by decide) ?_
    exact ev_iret rfl rfl rfl (⟨congrArg (fun z => some (Value.int z)) (by simp only [z_fas, if_neg c_5]), rfl, rfl⟩)

def k_renew (h : Hp) (n : Nat) (l z : Int32) : Hp := ev_set (ev_set (h_fl h (57 + n) 0 60) 61 n l) 62 n z
set_option maxRecDepth 100000 in
set_option maxHeartbeats 4000000 in
theorem c_renew (L : Nat) (b : Bool) (h : Hp) (n : Nat) (hn : n < 4) (l z : Int32) : EvU mi_X5_renew [.ref 55, .int (nI n), .int l, .int z] (G0 L b) h (k_renew h n l z) := by
  refine EvU.of (lo := [some (.ref 55), some (.int (nI n)), some (.int l), some (.int z)]) pf_X5_renew ok_X5_renew rfl rfl ?_
  refine ev_aload_n rfl rfl rfl ?_
  refine ev_getR rfl rfl fl_X5_11 rfl rfl rfl rfl ?_
  refine ev_iload_n rfl rfl rfl ?_
  refine ev_aald (y := 57 + n) (j := n) rfl rfl rfl rfl (vp_in_nI (by omega) (by decide)) (nI_clamp (by omega)) (g_sht L b hn).1 ?_
  refine ev_iconst (v := 0) rfl rfl (by decide) ?_
  refine ev_S2U rfl rfl lk_X5_25 st_J7_fill_53178 rfl rfl (c_fill _ _ _ _ 60 (by decide) (g_pos 57 n rfl) (g_sht L b hn).2) ?_
  refine ev_aload_n rfl rfl rfl ?_
  refine ev_getR rfl rfl fl_X5_14 rfl rfl rfl rfl ?_
  refine ev_iload_n rfl rfl rfl ?_
  refine ev_iload_n rfl rfl rfl ?_
  refine ev_iast rfl rfl rfl rfl (vp_in_nI (by omega) (by decide)) (nI_clamp (by omega)) ?_
  refine ev_aload_n rfl rfl rfl ?_
  refine ev_getR rfl rfl fl_X5_18 rfl rfl rfl rfl ?_
  refine ev_iload_n rfl rfl rfl ?_
  refine ev_iload_n rfl rfl rfl ?_
  refine ev_iast rfl rfl rfl rfl (vp_in_nI (by omega) (by decide)) (nI_clamp (by omega)) ?_
  exact ev_vret rfl rfl trivial (⟨rfl, rfl, rfl⟩)

set_option maxRecDepth 100000 in
set_option maxHeartbeats 4000000 in
theorem c_put (L : Nat) (b : Bool) (h : Hp) (n : Nat) (hn : n < 4) (i v : Int32) (hi : vp_in i 60) : EvU mi_X5_put [.ref 55, .int (nI n), .int i, .int v] (G0 L b) h (ev_set h (57 + n) i.toNatClampNeg (z_cut (h 61 n) v)) := by
  refine EvU.of (lo := [some (.ref 55), some (.int (nI n)), some (.int i), some (.int v)]) pf_X5_put ok_X5_put rfl rfl ?_
  refine ev_aload_n rfl rfl rfl ?_
  refine ev_getR rfl rfl fl_X5_14 rfl rfl rfl rfl ?_
  refine ev_iload_n rfl rfl rfl ?_
  refine ev_iald rfl rfl rfl (vp_in_nI (by omega) (by decide)) (nI_clamp (by omega)) ?_
  refine ev_if_ne rfl rfl (fun c_6 => ?_) (fun c_6 => ?_)
  · refine ev_aload_n rfl rfl rfl ?_
    refine ev_getR rfl rfl fl_X5_11 rfl rfl rfl rfl ?_
    refine ev_iload_n rfl rfl rfl ?_
    refine ev_aald (y := 57 + n) (j := n) rfl rfl rfl rfl (vp_in_nI (by omega) (by decide)) (nI_clamp (by omega)) (g_sht L b hn).1 ?_
    refine ev_iload_n rfl rfl rfl ?_
    refine ev_aload_n rfl rfl rfl ?_
    refine ev_getR rfl rfl fl_X5_14 rfl rfl rfl rfl ?_
    refine ev_iload_n rfl rfl rfl ?_
    refine ev_iald rfl rfl rfl (vp_in_nI (by omega) (by decide)) (nI_clamp (by omega)) ?_
    refine ev_iconst (v := 1) rfl rfl (by decide) ?_
    refine ev_icmp_ne rfl rfl (fun c_36 => ?_) (fun c_36 => ?_)
    · refine ev_iload_n rfl rfl rfl ?_
      refine ev_iast rfl rfl (g_pos 57 n rfl) (g_sht L b hn).2 hi rfl ?_
      exact ev_vret rfl rfl trivial (⟨rfl, rfl, by simp only [z_cut, if_neg c_6, if_neg c_36]⟩)
    · refine ev_iload_n rfl rfl rfl ?_
      refine ev_i2s rfl rfl ?_
      refine ev_goto rfl rfl ?_
      refine ev_iast rfl rfl (g_pos 57 n rfl) (g_sht L b hn).2 hi rfl ?_
      exact ev_vret rfl rfl trivial (⟨rfl, rfl, by simp only [z_cut, if_neg c_6, if_pos c_36]⟩)
  · refine ev_aload_n rfl rfl rfl ?_
    refine ev_getR rfl rfl fl_X5_11 rfl rfl rfl rfl ?_
    refine ev_iload_n rfl rfl rfl ?_
    refine ev_aald (y := 57 + n) (j := n) rfl rfl rfl rfl (vp_in_nI (by omega) (by decide)) (nI_clamp (by omega)) (g_sht L b hn).1 ?_
    refine ev_iload_n rfl rfl rfl ?_
    refine ev_iload_n rfl rfl rfl ?_
    refine ev_i2b rfl rfl ?_
    refine ev_iast rfl rfl (g_pos 57 n rfl) (g_sht L b hn).2 hi rfl ?_
    refine ev_goto rfl rfl ?_
    exact ev_vret rfl rfl trivial (⟨rfl, rfl, by simp only [z_cut, if_pos c_6]⟩)

def z_addB (n : Int32) (M : Int32) : Int32 := if n < M then n + 1 - 1 else -3
def k_boat (h : Hp) (m : Nat) (p l : Int32) : Hp := if h 50 2 < 4 then ev_set (ev_set (ev_set h 51 m p) 52 m l) 50 2 (h 50 2 + 1) else h
def z_addN (n : Int32) : Int32 := if n < 6 then n + 1 else -3
def k_bend (h : Hp) (m : Nat) (p l : Int32) : Hp := if h 50 5 < 6 then ev_set (ev_set (ev_set h 53 m p) 54 m l) 50 5 (h 50 5 + 1) else h
def s_bd (h : Hp) (p : Int32) : Nat → Nat → Int32
  | _, 0 => 0
  | i, t + 1 => if h 53 i = p then 1 else s_bd h p (i + 1) t
def s_way (h : Hp) (lo hi : Int32) : Nat → Int32
  | 0 => hi - lo
  | k + 1 => if h 53 k ≤ lo then s_way h lo hi k else if hi < h 53 k then s_way h lo hi k else s_way h lo hi k + h 54 k
def o_way (h : Hp) (m : Nat) (x y : Int32) : Int32 := s_way h (z_min x y) (z_max x y) m
def o_first (h : Hp) (m n : Nat) (p : Int32) : Int32 := h 52 n + o_way h m (h 51 n) p / z_max 1 (h 50 6)
theorem z_max1_ne (x : Int32) : ¬ z_max 1 x = 0 := by
  unfold z_max
  by_cases h : 1 < x
  · rw [if_pos h]
    intro e
    rw [e] at h
    exact absurd h (by decide)
  · rw [if_neg h]
    decide
theorem s_bd_b (h : Hp) (p : Int32) : ∀ t i, s_bd h p i t = 0 ∨ s_bd h p i t = 1
  | 0, _ => Or.inl rfl
  | t + 1, i => by
    unfold s_bd
    split
    · exact Or.inr rfl
    · exact s_bd_b h p t (i + 1)

set_option maxRecDepth 100000 in
set_option maxHeartbeats 4000000 in
theorem c_addBoat (L : Nat) (b : Bool) (h : Hp) (m : Nat) (hm0 : m ≤ 4) (hm : h 50 2 = nI m) (p l : Int32) : EvD mi_X3_addBoat [.ref 50, .int p, .int l] (G0 L b) h (z_addB (h 50 2) 4) (k_boat h m p l) := by
  refine EvD.of (lo := [some (.ref 50), some (.int p), some (.int l)]) pf_X3_addBoat ok_X3_addBoat rfl rfl ?_
  refine ev_aload_n rfl rfl rfl ?_
  refine ev_getI rfl rfl fl_X3_18 rfl rfl rfl ?_
  refine ev_iconst (v := 4) rfl rfl (by decide) ?_
  refine ev_icmp_lt rfl rfl (fun c_5 => ?_) (fun c_5 => ?_)
  · refine ev_aload_n rfl rfl rfl ?_
    refine ev_getR rfl rfl fl_X3_11 rfl rfl rfl rfl ?_
    refine ev_aload_n rfl rfl rfl ?_
    refine ev_getI rfl rfl fl_X3_18 rfl rfl rfl ?_
    refine ev_iload_n rfl rfl rfl ?_
    refine ev_iast rfl rfl rfl rfl (z_vin hm hm0 (by decide) rfl c_5) (z_cl hm hm0 (M := 4) (by decide)) ?_
    refine ev_aload_n rfl rfl rfl ?_
    refine ev_getR rfl rfl fl_X3_15 rfl rfl rfl rfl ?_
    refine ev_aload_n rfl rfl rfl ?_
    refine ev_getI rfl rfl fl_X3_18 rfl rfl rfl ?_
    try simp (disch := omega) only [ev_rd1, ev_rd2, ev_rd3, ev_rc1, k_keep_ne]
    refine ev_iload_n rfl rfl rfl ?_
    refine ev_iast rfl rfl rfl rfl (z_vin hm hm0 (by decide) rfl c_5) (z_cl hm hm0 (M := 4) (by decide)) ?_
    refine ev_aload_n rfl rfl rfl ?_
    refine ev_dup rfl rfl rfl ?_
    refine ev_getI rfl rfl fl_X3_18 rfl rfl rfl ?_
    try simp (disch := omega) only [ev_rd1, ev_rd2, ev_rd3, ev_rc1, k_keep_ne]
    refine ev_iconst (v := 1) rfl rfl (by decide) ?_
    refine ev_iadd rfl rfl ?_
    refine ev_putI rfl rfl fl_X3_18 rfl rfl rfl rfl rfl ?_
    refine ev_aload_n rfl rfl rfl ?_
    refine ev_getI rfl rfl fl_X3_18 rfl rfl rfl ?_
    try simp (disch := omega) only [ev_rd1, ev_rd2, ev_rd3, ev_rc1, k_keep_ne]
    refine ev_iconst (v := 1) rfl rfl (by decide) ?_
    refine ev_isub rfl rfl ?_
    exact ev_iret rfl rfl rfl (⟨congrArg (fun z => some (Value.int z)) (by simp only [z_addB, if_pos c_5]), rfl, by simp only [k_boat, if_pos c_5]⟩)
  · refine ev_bipush (v := (-3)) rfl rfl (by decide) ?_
    exact ev_iret rfl rfl rfl (⟨congrArg (fun z => some (Value.int z)) (by simp only [z_addB, if_neg c_5]), rfl, by simp only [k_boat, if_neg c_5]⟩)

set_option maxRecDepth 100000 in
set_option maxHeartbeats 4000000 in
theorem c_addBend (L : Nat) (b : Bool) (h : Hp) (m : Nat) (hm0 : m ≤ 6) (hm : h 50 5 = nI m) (p l : Int32) : EvD mi_X3_addBend [.ref 50, .int p, .int l] (G0 L b) h (z_addN (h 50 5)) (k_bend h m p l) := by
  refine EvD.of (lo := [some (.ref 50), some (.int p), some (.int l)]) pf_X3_addBend ok_X3_addBend rfl rfl ?_
  refine ev_aload_n rfl rfl rfl ?_
  refine ev_getI rfl rfl fl_X3_28 rfl rfl rfl ?_
  refine ev_bipush (v := 6) rfl rfl (by decide) ?_
  refine ev_icmp_lt rfl rfl (fun c_6 => ?_) (fun c_6 => ?_)
  · refine ev_aload_n rfl rfl rfl ?_
    refine ev_getR rfl rfl fl_X3_22 rfl rfl rfl rfl ?_
    refine ev_aload_n rfl rfl rfl ?_
    refine ev_getI rfl rfl fl_X3_28 rfl rfl rfl ?_
    refine ev_iload_n rfl rfl rfl ?_
    refine ev_iast rfl rfl rfl rfl (z_vin hm hm0 (by decide) rfl c_6) (z_cl hm hm0 (M := 6) (by decide)) ?_
    refine ev_aload_n rfl rfl rfl ?_
    refine ev_getR rfl rfl fl_X3_25 rfl rfl rfl rfl ?_
    refine ev_aload_n rfl rfl rfl ?_
    refine ev_getI rfl rfl fl_X3_28 rfl rfl rfl ?_
    try simp (disch := omega) only [ev_rd1, ev_rd2, ev_rd3, ev_rc1, k_keep_ne]
    refine ev_iload_n rfl rfl rfl ?_
    refine ev_iast rfl rfl rfl rfl (z_vin hm hm0 (by decide) rfl c_6) (z_cl hm hm0 (M := 6) (by decide)) ?_
    refine ev_aload_n rfl rfl rfl ?_
    refine ev_dup rfl rfl rfl ?_
    refine ev_getI rfl rfl fl_X3_28 rfl rfl rfl ?_
    try simp (disch := omega) only [ev_rd1, ev_rd2, ev_rd3, ev_rc1, k_keep_ne]
    refine ev_iconst (v := 1) rfl rfl (by decide) ?_
    refine ev_iadd rfl rfl ?_
    refine ev_putI rfl rfl fl_X3_28 rfl rfl rfl rfl rfl ?_
    refine ev_aload_n rfl rfl rfl ?_
    refine ev_getI rfl rfl fl_X3_28 rfl rfl rfl ?_
    try simp (disch := omega) only [ev_rd1, ev_rd2, ev_rd3, ev_rc1, k_keep_ne]
    exact ev_iret rfl rfl rfl (⟨congrArg (fun z => some (Value.int z)) (by simp only [z_addN, if_pos c_6]), rfl, by simp only [k_bend, if_pos c_6]⟩)
  · refine ev_bipush (v := (-3)) rfl rfl (by decide) ?_
    exact ev_iret rfl rfl rfl (⟨congrArg (fun z => some (Value.int z)) (by simp only [z_addN, if_neg c_6]), rfl, by simp only [k_bend, if_neg c_6]⟩)

set_option maxRecDepth 100000 in
set_option maxHeartbeats 4000000 in
theorem l_bendsAt (L : Nat) (b : Bool) (h : Hp) (m : Nat) (hm0 : m ≤ 6) (hm : h 50 5 = nI m) (p : Int32) : ∀ t i : Nat, i + t = m → EvQ mi_X3_bendsAt 2 [some (.ref 50), some (.int p), some (.int (nI i))] [] (G0 L b) h 0 0 (fun v G' h' => v = some (.int (s_bd h p i t)) ∧ G' = G0 L b ∧ h' = h) := by
  intro t
  induction t with
  | zero =>
    intro i hi
    have hi2 : i = m := by omega
    subst hi2
    refine ev_iload_n rfl rfl rfl ?_
    refine ev_aload_n rfl rfl rfl ?_
    refine ev_getI rfl rfl fl_X3_28 rfl rfl rfl ?_
    refine ev_icmp_ge rfl rfl (fun c_7 => ?_) (fun z_ => absurd (by rw [hm]; exact Int32.le_refl _) z_)
    refine ev_iconst (v := 0) rfl rfl (by decide) ?_
    exact ev_iret rfl rfl rfl (⟨rfl, rfl, rfl⟩)
  | succ t ih =>
    intro i hi
    refine ev_iload_n rfl rfl rfl ?_
    refine ev_aload_n rfl rfl rfl ?_
    refine ev_getI rfl rfl fl_X3_28 rfl rfl rfl ?_
    refine ev_icmp_ge rfl rfl (fun z_ => absurd z_ (by rw [hm]; exact nI_ge (by omega) (by omega))) (fun c_7 => ?_)
    refine ev_aload_n rfl rfl rfl ?_
    refine ev_getR rfl rfl fl_X3_22 rfl rfl rfl rfl ?_
    refine ev_iload_n rfl rfl rfl ?_
    refine ev_iald rfl rfl rfl (vp_in_nI (by omega) (by decide)) (nI_clamp (by omega)) ?_
    refine ev_iload_n rfl rfl rfl ?_
    refine ev_icmp_ne rfl rfl (fun c_17 => ?_) (fun c_17 => ?_)
    · refine ev_iinc (y := 1) rfl rfl rfl (by decide) rfl rfl ?_
      dsimp only [List.set]
      refine ev_goto rfl rfl ?_
      have z_ := ih (i + 1) (by omega)
      rw [nI_1 i, s_bd, if_neg c_17]
      exact z_
    · refine ev_iconst (v := 1) rfl rfl (by decide) ?_
      exact ev_iret rfl rfl rfl (⟨congrArg (fun z => some (Value.int z)) (by simp only [s_bd, if_neg c_7, if_pos c_17]), rfl, rfl⟩)

set_option maxRecDepth 100000 in
set_option maxHeartbeats 4000000 in
theorem c_bendsAt (L : Nat) (b : Bool) (h : Hp) (m : Nat) (hm0 : m ≤ 6) (hm : h 50 5 = nI m) (p : Int32) : EvD mi_X3_bendsAt [.ref 50, .int p] (G0 L b) h (s_bd h p 0 m) (h) := by
  refine EvD.of (lo := [some (.ref 50), some (.int p), none]) pf_X3_bendsAt ok_X3_bendsAt rfl rfl ?_
  refine ev_iconst (v := 0) rfl rfl (by decide) ?_
  refine ev_istore_n rfl rfl rfl rfl ?_
  dsimp only [List.set]
  exact l_bendsAt L b h m hm0 hm p m 0 (by omega)

set_option maxRecDepth 100000 in
set_option maxHeartbeats 4000000 in
theorem l_way (L : Nat) (b : Bool) (h : Hp) (m : Nat) (hm0 : m ≤ 6) (hm : h 50 5 = nI m) (x y lo hi : Int32) : ∀ t i : Nat, i + t = m → EvQ mi_X3_way 22 [some (.ref 50), some (.int x), some (.int y), some (.int lo), some (.int hi), some (.int (s_way h lo hi i)), some (.int (nI i))] [] (G0 L b) h 0 0 (fun v G' h' => v = some (.int (s_way h lo hi m)) ∧ G' = G0 L b ∧ h' = h) := by
  intro t
  induction t with
  | zero =>
    intro i hi
    have hi2 : i = m := by omega
    subst hi2
    refine ev_iload rfl rfl rfl ?_
    refine ev_aload_n rfl rfl rfl ?_
    refine ev_getI rfl rfl fl_X3_28 rfl rfl rfl ?_
    refine ev_icmp_ge rfl rfl (fun c_28 => ?_) (fun z_ => absurd (by rw [hm]; exact Int32.le_refl _) z_)
    refine ev_iload rfl rfl rfl ?_
    exact ev_iret rfl rfl rfl (⟨rfl, rfl, rfl⟩)
  | succ t ih =>
    intro i hi
    refine ev_iload rfl rfl rfl ?_
    refine ev_aload_n rfl rfl rfl ?_
    refine ev_getI rfl rfl fl_X3_28 rfl rfl rfl ?_
    refine ev_icmp_ge rfl rfl (fun z_ => absurd z_ (by rw [hm]; exact nI_ge (by omega) (by omega))) (fun c_28 => ?_)
    refine ev_iload_n rfl rfl rfl ?_
    refine ev_aload_n rfl rfl rfl ?_
    refine ev_getR rfl rfl fl_X3_22 rfl rfl rfl rfl ?_
    refine ev_iload rfl rfl rfl ?_
    refine ev_iald rfl rfl rfl (vp_in_nI (by omega) (by decide)) (nI_clamp (by omega)) ?_
    refine ev_icmp_ge rfl rfl (fun c_39 => ?_) (fun c_39 => ?_)
    · refine ev_iinc (y := 1) rfl rfl rfl (by decide) rfl rfl ?_
      dsimp only [List.set]
      refine ev_goto rfl rfl ?_
      have z_ := ih (i + 1) (by omega)
      simp only [s_way, if_neg c_28, if_pos c_39] at z_
      rw [nI_1 i]
      exact z_
    · refine ev_aload_n rfl rfl rfl ?_
      refine ev_getR rfl rfl fl_X3_22 rfl rfl rfl rfl ?_
      refine ev_iload rfl rfl rfl ?_
      refine ev_iald rfl rfl rfl (vp_in_nI (by omega) (by decide)) (nI_clamp (by omega)) ?_
      refine ev_iload rfl rfl rfl ?_
      refine ev_icmp_gt rfl rfl (fun c_51 => ?_) (fun c_51 => ?_)
      · refine ev_iinc (y := 1) rfl rfl rfl (by decide) rfl rfl ?_
        dsimp only [List.set]
        refine ev_goto rfl rfl ?_
        have z_ := ih (i + 1) (by omega)
        simp only [s_way, if_neg c_28, if_neg c_39, if_pos c_51] at z_
        rw [nI_1 i]
        exact z_
      · refine ev_iload rfl rfl rfl ?_
        refine ev_aload_n rfl rfl rfl ?_
        refine ev_getR rfl rfl fl_X3_25 rfl rfl rfl rfl ?_
        refine ev_iload rfl rfl rfl ?_
        refine ev_iald rfl rfl rfl (vp_in_nI (by omega) (by decide)) (nI_clamp (by omega)) ?_
        refine ev_iadd rfl rfl ?_
        refine ev_istore rfl rfl rfl rfl ?_
        dsimp only [List.set]
        refine ev_iinc (y := 1) rfl rfl rfl (by decide) rfl rfl ?_
        dsimp only [List.set]
        refine ev_goto rfl rfl ?_
        have z_ := ih (i + 1) (by omega)
        simp only [s_way, if_neg c_28, if_neg c_39, if_neg c_51] at z_
        rw [nI_1 i]
        exact z_

set_option maxRecDepth 100000 in
set_option maxHeartbeats 4000000 in
theorem c_way (L : Nat) (b : Bool) (h : Hp) (m : Nat) (hm0 : m ≤ 6) (hm : h 50 5 = nI m) (x y : Int32) : EvD mi_X3_way [.ref 50, .int x, .int y] (G0 L b) h (o_way h m x y) (h) := by
  refine EvD.of (lo := [some (.ref 50), some (.int x), some (.int y), none, none, none, none]) pf_X3_way ok_X3_way rfl rfl ?_
  refine ev_iload_n rfl rfl rfl ?_
  refine ev_iload_n rfl rfl rfl ?_
  refine ev_S2D rfl rfl lk_X3_46 st_J9_min_7cf53 rfl rfl (c_min _ _ _ _) ?_
  refine ev_istore_n rfl rfl rfl rfl ?_
  dsimp only [List.set]
  refine ev_iload_n rfl rfl rfl ?_
  refine ev_iload_n rfl rfl rfl ?_
  refine ev_S2D rfl rfl lk_X3_52 st_J9_max_7cf53 rfl rfl (c_max _ _ _ _) ?_
  refine ev_istore rfl rfl rfl rfl ?_
  dsimp only [List.set]
  refine ev_iload rfl rfl rfl ?_
  refine ev_iload_n rfl rfl rfl ?_
  refine ev_isub rfl rfl ?_
  refine ev_istore rfl rfl rfl rfl ?_
  dsimp only [List.set]
  refine ev_iconst (v := 0) rfl rfl (by decide) ?_
  refine ev_istore rfl rfl rfl rfl ?_
  dsimp only [List.set]
  exact l_way L b h m hm0 hm x y _ _ m 0 (by omega)

set_option maxRecDepth 100000 in
set_option maxHeartbeats 4000000 in
theorem c_firstHeard (L : Nat) (b : Bool) (h : Hp) (m : Nat) (hm0 : m ≤ 6) (hm : h 50 5 = nI m) (n : Nat) (hn : n < 4) (p : Int32) : EvD mi_X3_firstHeard [.ref 50, .int (nI n), .int p] (G0 L b) h (o_first h m n p) (h) := by
  refine EvD.of (lo := [some (.ref 50), some (.int (nI n)), some (.int p)]) pf_X3_firstHeard ok_X3_firstHeard rfl rfl ?_
  refine ev_aload_n rfl rfl rfl ?_
  refine ev_getR rfl rfl fl_X3_15 rfl rfl rfl rfl ?_
  refine ev_iload_n rfl rfl rfl ?_
  refine ev_iald rfl rfl rfl (vp_in_nI (by omega) (by decide)) (nI_clamp (by omega)) ?_
  refine ev_aload_n rfl rfl rfl ?_
  refine ev_aload_n rfl rfl rfl ?_
  refine ev_getR rfl rfl fl_X3_11 rfl rfl rfl rfl ?_
  refine ev_iload_n rfl rfl rfl ?_
  refine ev_iald rfl rfl rfl (vp_in_nI (by omega) (by decide)) (nI_clamp (by omega)) ?_
  refine ev_iload_n rfl rfl rfl ?_
  refine ev_V2D rfl rfl lk_X3_55 vt_X3_way rfl rfl rfl rfl rfl (c_way _ _ _ m hm0 hm _ _) ?_
  refine ev_iconst (v := 1) rfl rfl (by decide) ?_
  refine ev_aload_n rfl rfl rfl ?_
  refine ev_getI rfl rfl fl_X3_31 rfl rfl rfl ?_
  refine ev_S2D rfl rfl lk_X3_52 st_J9_max_7cf53 rfl rfl (c_max _ _ _ _) ?_
  refine ev_idiv rfl rfl (z_max1_ne _) ?_
  refine ev_iadd rfl rfl ?_
  exact ev_iret rfl rfl rfl (⟨rfl, rfl, rfl⟩)

def z_add (h : Hp) (n d s : Int32) : Int32 := if z_wi n 0 3600 = 0 then -1 else if z_wi d 1 9 = 0 then -1 else if z_wi s 0 20 = 0 then -1 else if h 4 7 < 12 then h 4 7 + 1 - 1 else -3
def k_add (h : Hp) (m : Nat) (n d s q : Int32) : Hp := if z_wi n 0 3600 = 0 then h else if z_wi d 1 9 = 0 then h else if z_wi s 0 20 = 0 then h else if h 4 7 < 12 then ev_set (ev_set (ev_set (ev_set (ev_set h 5 m n) 6 m d) 7 m s) 8 m q) 4 7 (h 4 7 + 1) else h

set_option maxRecDepth 100000 in
set_option maxHeartbeats 4000000 in
theorem c_add (L : Nat) (b : Bool) (h : Hp) (m : Nat) (hm0 : m ≤ 12) (hm : h 4 7 = nI m) (n d s q : Int32) (hq : q = 0 ∨ q = 1) : EvD mi_X8_add [.ref 4, .int n, .int d, .int s, .int q] (G0 L b) h (z_add h n d s) (k_add h m n d s q) := by
  refine EvD.of (lo := [some (.ref 4), some (.int n), some (.int d), some (.int s), some (.int q)]) pf_X8_add ok_X8_add rfl rfl ?_
  refine ev_iload_n rfl rfl rfl ?_
  refine ev_iconst (v := 0) rfl rfl (by decide) ?_
  refine ev_sipush (v := 3600) rfl rfl (by decide) ?_
  refine ev_SN3D rfl rfl lk_X8_38 st_X9_isWithin rfl rfl (c_isWithin _ _ _ _ _) ?_
  refine ev_if_eq rfl rfl (fun c_8 => ?_) (fun c_8 => ?_)
  · refine ev_iconst (v := (-1)) rfl rfl (by decide) ?_
    exact ev_iret rfl rfl rfl (⟨congrArg (fun z => some (Value.int z)) (by simp only [z_add, if_pos c_8]), rfl, by simp only [k_add, if_pos c_8]⟩)
  · refine ev_iload_n rfl rfl rfl ?_
    refine ev_iconst (v := 1) rfl rfl (by decide) ?_
    refine ev_bipush (v := 9) rfl rfl (by decide) ?_
    refine ev_SN3D rfl rfl lk_X8_38 st_X9_isWithin rfl rfl (c_isWithin _ _ _ _ _) ?_
    refine ev_if_eq rfl rfl (fun c_18 => ?_) (fun c_18 => ?_)
    · refine ev_iconst (v := (-1)) rfl rfl (by decide) ?_
      exact ev_iret rfl rfl rfl (⟨congrArg (fun z => some (Value.int z)) (by simp only [z_add, if_neg c_8, if_pos c_18]), rfl, by simp only [k_add, if_neg c_8, if_pos c_18]⟩)
    · refine ev_iload_n rfl rfl rfl ?_
      refine ev_iconst (v := 0) rfl rfl (by decide) ?_
      refine ev_bipush (v := 20) rfl rfl (by decide) ?_
      refine ev_SN3D rfl rfl lk_X8_38 st_X9_isWithin rfl rfl (c_isWithin _ _ _ _ _) ?_
      refine ev_if_ne rfl rfl (fun c_28 => ?_) (fun c_28 => ?_)
      · refine ev_aload_n rfl rfl rfl ?_
        refine ev_getI rfl rfl fl_X8_35 rfl rfl rfl ?_
        try simp (disch := omega) only [ev_rd1, ev_rd2, ev_rd3, ev_rc1, k_keep_ne]
        refine ev_bipush (v := 12) rfl rfl (by decide) ?_
        refine ev_icmp_lt rfl rfl (fun c_39 => ?_) (fun c_39 => ?_)
        · refine ev_aload_n rfl rfl rfl ?_
          refine ev_getR rfl rfl fl_X8_9 rfl rfl rfl rfl ?_
          refine ev_aload_n rfl rfl rfl ?_
          refine ev_getI rfl rfl fl_X8_35 rfl rfl rfl ?_
          try simp (disch := omega) only [ev_rd1, ev_rd2, ev_rd3, ev_rc1, k_keep_ne]
          refine ev_iload_n rfl rfl rfl ?_
          refine ev_iast rfl rfl rfl rfl (z_vin hm hm0 (by decide) rfl c_39) (z_cl hm hm0 (M := 12) (by decide)) ?_
          refine ev_aload_n rfl rfl rfl ?_
          refine ev_getR rfl rfl fl_X8_15 rfl rfl rfl rfl ?_
          refine ev_aload_n rfl rfl rfl ?_
          refine ev_getI rfl rfl fl_X8_35 rfl rfl rfl ?_
          try simp (disch := omega) only [ev_rd1, ev_rd2, ev_rd3, ev_rc1, k_keep_ne]
          refine ev_iload_n rfl rfl rfl ?_
          refine ev_iast rfl rfl rfl rfl (z_vin hm hm0 (by decide) rfl c_39) (z_cl hm hm0 (M := 12) (by decide)) ?_
          refine ev_aload_n rfl rfl rfl ?_
          refine ev_getR rfl rfl fl_X8_18 rfl rfl rfl rfl ?_
          refine ev_aload_n rfl rfl rfl ?_
          refine ev_getI rfl rfl fl_X8_35 rfl rfl rfl ?_
          try simp (disch := omega) only [ev_rd1, ev_rd2, ev_rd3, ev_rc1, k_keep_ne]
          refine ev_iload_n rfl rfl rfl ?_
          refine ev_iast rfl rfl rfl rfl (z_vin hm hm0 (by decide) rfl c_39) (z_cl hm hm0 (M := 12) (by decide)) ?_
          refine ev_aload_n rfl rfl rfl ?_
          refine ev_getR rfl rfl fl_X8_21 rfl rfl rfl rfl ?_
          refine ev_aload_n rfl rfl rfl ?_
          refine ev_getI rfl rfl fl_X8_35 rfl rfl rfl ?_
          try simp (disch := omega) only [ev_rd1, ev_rd2, ev_rd3, ev_rc1, k_keep_ne]
          refine ev_iload rfl rfl rfl ?_
          refine ev_zast rfl rfl rfl rfl (z_vin hm hm0 (by decide) rfl c_39) (z_cl hm hm0 (M := 12) (by decide)) hq ?_
          refine ev_aload_n rfl rfl rfl ?_
          refine ev_dup rfl rfl rfl ?_
          refine ev_getI rfl rfl fl_X8_35 rfl rfl rfl ?_
          try simp (disch := omega) only [ev_rd1, ev_rd2, ev_rd3, ev_rc1, k_keep_ne]
          refine ev_iconst (v := 1) rfl rfl (by decide) ?_
          refine ev_iadd rfl rfl ?_
          refine ev_putI rfl rfl fl_X8_35 rfl rfl rfl rfl rfl ?_
          refine ev_aload_n rfl rfl rfl ?_
          refine ev_getI rfl rfl fl_X8_35 rfl rfl rfl ?_
          try simp (disch := omega) only [ev_rd1, ev_rd2, ev_rd3, ev_rc1, k_keep_ne]
          refine ev_iconst (v := 1) rfl rfl (by decide) ?_
          refine ev_isub rfl rfl ?_
          exact ev_iret rfl rfl rfl (⟨congrArg (fun z => some (Value.int z)) (by simp only [z_add, if_neg c_8, if_neg c_18, if_neg c_28, if_pos c_39]), rfl, by simp only [k_add, if_neg c_8, if_neg c_18, if_neg c_28, if_pos c_39]⟩)
        · refine ev_bipush (v := (-3)) rfl rfl (by decide) ?_
          exact ev_iret rfl rfl rfl (⟨congrArg (fun z => some (Value.int z)) (by simp only [z_add, if_neg c_8, if_neg c_18, if_neg c_28, if_neg c_39]), rfl, by simp only [k_add, if_neg c_8, if_neg c_18, if_neg c_28, if_neg c_39]⟩)
      · refine ev_iconst (v := (-1)) rfl rfl (by decide) ?_
        exact ev_iret rfl rfl rfl (⟨congrArg (fun z => some (Value.int z)) (by simp only [z_add, if_neg c_8, if_neg c_18, if_pos c_28]), rfl, by simp only [k_add, if_neg c_8, if_neg c_18, if_pos c_28]⟩)

def k_rest (h : Hp) (n : Nat) : Hp := fun i j =>
  if i = 2 then (if j < 5 then h (13 + n) j else h 2 j)
  else if i = 4 then (if j = 6 then h (13 + n) 5 else h 4 j)
  else if i = 9 then (if j < 12 then h (13 + n) (6 + j) else h 9 j)
  else if i = 10 then (if j < 12 then h (13 + n) (18 + j) else h 10 j)
  else if i = 11 then (if j = 1 then nI n else if j = 2 then h 11 2 - 1 else if j = 3 then h 11 3 + 1 else h 11 j)
  else h i j

set_option maxRecDepth 100000 in
set_option maxHeartbeats 4000000 in
theorem c_restore (L : Nat) (b : Bool) (h : Hp) (n : Nat) (hn : n < 10) (hx : (h 11 1 + 10 - 1) - (h 11 1 + 10 - 1) / 10 * 10 = nI n) (hh : ¬ h 11 2 = 0) : EvD mi_X0_restore [.ref 11, .ref 2, .ref 4] (G0 L b) h (1) (k_rest h n) := by
  refine EvD.of (lo := [some (.ref 11), some (.ref 2), some (.ref 4), none]) pf_X0_restore ok_X0_restore rfl rfl ?_
  refine ev_aload_n rfl rfl rfl ?_
  refine ev_getI rfl rfl fl_X0_20 rfl rfl rfl ?_
  refine ev_if_ne rfl rfl (fun c_4 => ?_) (fun z_ => absurd z_ hh)
  refine ev_aload_n rfl rfl rfl ?_
  refine ev_aload_n rfl rfl rfl ?_
  refine ev_getI rfl rfl fl_X0_16 rfl rfl rfl ?_
  refine ev_bipush (v := 10) rfl rfl (by decide) ?_
  refine ev_iadd rfl rfl ?_
  refine ev_iconst (v := 1) rfl rfl (by decide) ?_
  refine ev_isub rfl rfl ?_
  refine ev_bipush (v := 10) rfl rfl (by decide) ?_
  refine ev_irem rfl rfl (by decide) ?_
  refine ev_putI rfl rfl fl_X0_16 rfl rfl rfl rfl rfl ?_
  refine ev_aload_n rfl rfl rfl ?_
  refine ev_dup rfl rfl rfl ?_
  refine ev_getI rfl rfl fl_X0_20 rfl rfl rfl ?_
  try simp (disch := omega) only [ev_rd1, ev_rd2, ev_rd3, ev_rc1, k_keep_ne]
  refine ev_iconst (v := 1) rfl rfl (by decide) ?_
  refine ev_isub rfl rfl ?_
  refine ev_putI rfl rfl fl_X0_20 rfl rfl rfl rfl rfl ?_
  refine ev_aload_n rfl rfl rfl ?_
  refine ev_dup rfl rfl rfl ?_
  refine ev_getI rfl rfl fl_X0_23 rfl rfl rfl ?_
  try simp (disch := omega) only [ev_rd1, ev_rd2, ev_rd3, ev_rc1, k_keep_ne]
  refine ev_iconst (v := 1) rfl rfl (by decide) ?_
  refine ev_iadd rfl rfl ?_
  refine ev_putI rfl rfl fl_X0_23 rfl rfl rfl rfl rfl ?_
  refine ev_aload_n rfl rfl rfl ?_
  refine ev_getR rfl rfl fl_X0_13 rfl rfl rfl rfl ?_
  refine ev_aload_n rfl rfl rfl ?_
  refine ev_getI rfl rfl fl_X0_16 rfl rfl rfl ?_
  try simp (disch := omega) only [ev_rd1, ev_rd2, ev_rd3, ev_rc1, k_keep_ne]
  refine ev_aald (y := 13 + n) (j := n) rfl rfl rfl rfl (by rw [hx]; exact vp_in_nI hn (by decide)) (by rw [hx]; exact nI_clamp (by omega)) (g_act L b hn).1 ?_
  refine ev_astore_n rfl rfl rfl rfl ?_
  dsimp only [List.set]
  refine ev_aload_n rfl rfl rfl ?_
  refine ev_aload_n rfl rfl rfl ?_
  refine ev_iconst (v := 0) rfl rfl (by decide) ?_
  refine ev_iald (j := 0) rfl rfl (g_act L b hn).2 (by unfold vp_in; decide) (by decide) ?_
  try simp (disch := omega) only [ev_rd1, ev_rd2, ev_rd3, ev_rc1, k_keep_ne]
  refine ev_putI rfl rfl fl_X0_26 rfl rfl rfl rfl rfl ?_
  refine ev_aload_n rfl rfl rfl ?_
  refine ev_aload_n rfl rfl rfl ?_
  refine ev_iconst (v := 1) rfl rfl (by decide) ?_
  refine ev_iald (j := 1) rfl rfl (g_act L b hn).2 (by unfold vp_in; decide) (by decide) ?_
  try simp (disch := omega) only [ev_rd1, ev_rd2, ev_rd3, ev_rc1, k_keep_ne]
  refine ev_putI rfl rfl fl_X0_31 rfl rfl rfl rfl rfl ?_
  refine ev_aload_n rfl rfl rfl ?_
  refine ev_aload_n rfl rfl rfl ?_
  refine ev_iconst (v := 2) rfl rfl (by decide) ?_
  refine ev_iald (j := 2) rfl rfl (g_act L b hn).2 (by unfold vp_in; decide) (by decide) ?_
  try simp (disch := omega) only [ev_rd1, ev_rd2, ev_rd3, ev_rc1, k_keep_ne]
  refine ev_putI rfl rfl fl_X0_34 rfl rfl rfl rfl rfl ?_
  refine ev_aload_n rfl rfl rfl ?_
  refine ev_aload_n rfl rfl rfl ?_
  refine ev_iconst (v := 3) rfl rfl (by decide) ?_
  refine ev_iald (j := 3) rfl rfl (g_act L b hn).2 (by unfold vp_in; decide) (by decide) ?_
  try simp (disch := omega) only [ev_rd1, ev_rd2, ev_rd3, ev_rc1, k_keep_ne]
  refine ev_putI rfl rfl fl_X0_37 rfl rfl rfl rfl rfl ?_
  refine ev_aload_n rfl rfl rfl ?_
  refine ev_aload_n rfl rfl rfl ?_
  refine ev_iconst (v := 4) rfl rfl (by decide) ?_
  refine ev_iald (j := 4) rfl rfl (g_act L b hn).2 (by unfold vp_in; decide) (by decide) ?_
  try simp (disch := omega) only [ev_rd1, ev_rd2, ev_rd3, ev_rc1, k_keep_ne]
  refine ev_putI rfl rfl fl_X0_40 rfl rfl rfl rfl rfl ?_
  refine ev_aload_n rfl rfl rfl ?_
  refine ev_aload_n rfl rfl rfl ?_
  refine ev_iconst (v := 5) rfl rfl (by decide) ?_
  refine ev_iald (j := 5) rfl rfl (g_act L b hn).2 (by unfold vp_in; decide) (by decide) ?_
  try simp (disch := omega) only [ev_rd1, ev_rd2, ev_rd3, ev_rc1, k_keep_ne]
  refine ev_putI rfl rfl fl_X0_43 rfl rfl rfl rfl rfl ?_
  refine ev_aload_n rfl rfl rfl ?_
  refine ev_bipush (v := 6) rfl rfl (by decide) ?_
  refine ev_aload_n rfl rfl rfl ?_
  refine ev_getR rfl rfl fl_X0_48 rfl rfl rfl rfl ?_
  refine ev_iconst (v := 0) rfl rfl (by decide) ?_
  refine ev_bipush (v := 12) rfl rfl (by decide) ?_
  refine ev_copy (sN := 6) (dN := 0) (nN := 12) rfl rfl cp_X0_52 cp_n cp_s cp_i (g_pos 13 n rfl) rfl (g_act L b hn).2 rfl (by decide) (by decide) (by decide) (by decide) (by decide) (by decide) (by decide) (by decide) rfl rfl (by decide) ?_
  refine ev_aload_n rfl rfl rfl ?_
  refine ev_bipush (v := 18) rfl rfl (by decide) ?_
  refine ev_aload_n rfl rfl rfl ?_
  refine ev_getR rfl rfl fl_X0_58 rfl rfl rfl rfl ?_
  refine ev_iconst (v := 0) rfl rfl (by decide) ?_
  refine ev_bipush (v := 12) rfl rfl (by decide) ?_
  refine ev_copy (sN := 18) (dN := 0) (nN := 12) rfl rfl cp_X0_52 cp_n cp_s cp_i (g_pos 13 n rfl) rfl (g_act L b hn).2 rfl (by decide) (by decide) (by decide) (by decide) (by decide) (by decide) (by decide) (by decide) rfl rfl (by decide) ?_
  refine ev_iconst (v := 1) rfl rfl (by decide) ?_
  exact ev_iret rfl rfl rfl (⟨rfl, rfl, by
      funext i j
      have q0 : ¬ (13 + n = 11) := by omega
      have q1 : ¬ (13 + n = 2) := by omega
      have q2 : ¬ (13 + n = 4) := by omega
      have q3 : ¬ (13 + n = 9) := by omega
      have q4 : ¬ (13 + n = 10) := by omega
      by_cases h2 : i = 2
      · subst h2
        simp only [ev_set, ev_cpy, va_cpy, k_rest, q0, q1, q2, q3, q4, false_and, true_and, if_true, if_false, if_neg c_4, Nat.reduceEqDiff]
        repeat' split
        all_goals first | rfl | (exfalso; omega) | (subst_vars; rfl)
      by_cases h4 : i = 4
      · subst h4
        simp only [ev_set, ev_cpy, va_cpy, k_rest, q0, q1, q2, q3, q4, false_and, true_and, if_true, if_false, if_neg c_4, Nat.reduceEqDiff]
        repeat' split
        all_goals first | rfl | (exfalso; omega) | (subst_vars; rfl)
      by_cases h9 : i = 9
      · subst h9
        simp only [ev_set, ev_cpy, va_cpy, k_rest, q0, q1, q2, q3, q4, false_and, true_and, if_true, if_false, if_neg c_4, Nat.reduceEqDiff]
        repeat' split
        all_goals first | rfl | (exfalso; omega) | (congr 1; omega)
      by_cases h10 : i = 10
      · subst h10
        simp only [ev_set, ev_cpy, va_cpy, k_rest, q0, q1, q2, q3, q4, false_and, true_and, if_true, if_false, if_neg c_4, Nat.reduceEqDiff]
        repeat' split
        all_goals first | rfl | (exfalso; omega) | (congr 1; omega)
      by_cases h11 : i = 11
      · subst h11
        simp only [ev_set, ev_cpy, va_cpy, k_rest, q0, q1, q2, q3, q4, false_and, true_and, if_true, if_false, if_neg c_4, Nat.reduceEqDiff]
        repeat' split
        all_goals first | rfl | (exfalso; omega) | exact hx | (subst_vars; rfl)
      · simp only [ev_set, ev_cpy, k_rest, h2, h4, h9, h10, h11, false_and, if_false]⟩)

set_option maxRecDepth 100000 in
set_option maxHeartbeats 4000000 in
theorem c_restore0 (L : Nat) (b : Bool) (h : Hp) (hh : h 11 2 = 0) : EvD mi_X0_restore [.ref 11, .ref 2, .ref 4] (G0 L b) h (0) (h) := by
  refine EvD.of (lo := [some (.ref 11), some (.ref 2), some (.ref 4), none]) pf_X0_restore ok_X0_restore rfl rfl ?_
  refine ev_aload_n rfl rfl rfl ?_
  refine ev_getI rfl rfl fl_X0_20 rfl rfl rfl ?_
  refine ev_if_ne rfl rfl (fun z_ => absurd hh z_) (fun c_4 => ?_)
  refine ev_iconst (v := 0) rfl rfl (by decide) ?_
  exact ev_iret rfl rfl rfl (⟨rfl, rfl, rfl⟩)
end
section
def r_fire (h : Hp) (v : Int32) : Int32 := if z_wi v 0 9 = 0 then -1 else h 2 2
def k_fire (h : Hp) (n : Nat) (v : Int32) : Hp := if z_wi v 0 9 = 0 then h else ev_set (k_keep h n) 2 2 v
def r_water (h : Hp) (v : Int32) : Int32 := if z_wi v 1 9999 = 0 then -1 else z_min 9999 (h 2 1 + v)
def k_water (h : Hp) (n : Nat) (v : Int32) : Hp := if z_wi v 1 9999 = 0 then h else ev_set (k_keep h n) 2 1 (z_min 9999 (h 2 1 + v))
def r_valve (h : Hp) (v : Int32) : Int32 := if z_wi v 50 200 = 0 then -1 else h 2 3
def k_valve (h : Hp) (n : Nat) (v : Int32) : Hp := if z_wi v 50 200 = 0 then h else ev_set (ev_set (k_keep h n) 2 3 v) 2 0 (z_min (h 2 0) v)
def r_press (h : Hp) (v : Int32) : Int32 := if z_wi v 0 (h 2 3) = 0 then -1 else h 2 0
def k_press (h : Hp) (n : Nat) (v : Int32) : Hp := if z_wi v 0 (h 2 3) = 0 then h else ev_set (k_keep h n) 2 0 v

set_option maxRecDepth 100000 in
set_option maxHeartbeats 4000000 in
theorem x_fire (L : Nat) (b : Bool) (h : Hp) (n : Nat) (hn : n < 10) (hx : h 11 1 = nI n) (v : Int32) : EvD mi_X9_fire [.ref 1, .int v] (G0 L b) h (r_fire h v) (k_fire h n v) := by
  refine EvD.of (lo := [some (.ref 1), some (.int v), none]) pf_X9_fire ok_X9_fire rfl rfl ?_
  refine ev_iload_n rfl rfl rfl ?_
  refine ev_iconst (v := 0) rfl rfl (by decide) ?_
  refine ev_bipush (v := 9) rfl rfl (by decide) ?_
  refine ev_S3D rfl rfl lk_X9_75 st_X9_isWithin rfl rfl (c_isWithin _ _ _ _ _) ?_
  refine ev_if_ne rfl rfl (fun c_7 => ?_) (fun c_7 => ?_)
  · refine ev_aload_n rfl rfl rfl ?_
    refine ev_getR rfl rfl fl_X9_29 rfl rfl rfl rfl ?_
    refine ev_aload_n rfl rfl rfl ?_
    refine ev_getR rfl rfl fl_X9_10 rfl rfl rfl rfl ?_
    refine ev_aload_n rfl rfl rfl ?_
    refine ev_getR rfl rfl fl_X9_22 rfl rfl rfl rfl ?_
    refine ev_V2U rfl rfl lk_X9_79 vt_X0_keep rfl rfl rfl rfl rfl (c_keep _ _ _ n hn hx) ?_
    refine ev_aload_n rfl rfl rfl ?_
    refine ev_getR rfl rfl fl_X9_10 rfl rfl rfl rfl ?_
    refine ev_getI rfl rfl fl_X9_83 rfl rfl rfl ?_
    try simp (disch := omega) only [ev_rd1, ev_rd2, ev_rd3, ev_rc1, k_keep_ne]
    refine ev_istore_n rfl rfl rfl rfl ?_
    dsimp only [List.set]
    refine ev_aload_n rfl rfl rfl ?_
    refine ev_getR rfl rfl fl_X9_10 rfl rfl rfl rfl ?_
    refine ev_iload_n rfl rfl rfl ?_
    refine ev_putI rfl rfl fl_X9_83 rfl rfl rfl rfl rfl ?_
    refine ev_iload_n rfl rfl rfl ?_
    exact ev_iret rfl rfl rfl (⟨congrArg (fun z => some (Value.int z)) (by simp only [r_fire, if_neg c_7]), rfl, by simp only [k_fire, if_neg c_7]⟩)
  · refine ev_iconst (v := (-1)) rfl rfl (by decide) ?_
    exact ev_iret rfl rfl rfl (⟨congrArg (fun z => some (Value.int z)) (by simp only [r_fire, if_pos c_7]), rfl, by simp only [k_fire, if_pos c_7]⟩)

set_option maxRecDepth 100000 in
set_option maxHeartbeats 4000000 in
theorem x_water (L : Nat) (b : Bool) (h : Hp) (n : Nat) (hn : n < 10) (hx : h 11 1 = nI n) (v : Int32) : EvD mi_X9_water [.ref 1, .int v] (G0 L b) h (r_water h v) (k_water h n v) := by
  refine EvD.of (lo := [some (.ref 1), some (.int v)]) pf_X9_water ok_X9_water rfl rfl ?_
  refine ev_iload_n rfl rfl rfl ?_
  refine ev_iconst (v := 1) rfl rfl (by decide) ?_
  refine ev_sipush (v := 9999) rfl rfl (by decide) ?_
  refine ev_S3D rfl rfl lk_X9_75 st_X9_isWithin rfl rfl (c_isWithin _ _ _ _ _) ?_
  refine ev_if_ne rfl rfl (fun c_8 => ?_) (fun c_8 => ?_)
  · refine ev_aload_n rfl rfl rfl ?_
    refine ev_getR rfl rfl fl_X9_29 rfl rfl rfl rfl ?_
    refine ev_aload_n rfl rfl rfl ?_
    refine ev_getR rfl rfl fl_X9_10 rfl rfl rfl rfl ?_
    refine ev_aload_n rfl rfl rfl ?_
    refine ev_getR rfl rfl fl_X9_22 rfl rfl rfl rfl ?_
    refine ev_V2U rfl rfl lk_X9_79 vt_X0_keep rfl rfl rfl rfl rfl (c_keep _ _ _ n hn hx) ?_
    refine ev_aload_n rfl rfl rfl ?_
    refine ev_getR rfl rfl fl_X9_10 rfl rfl rfl rfl ?_
    refine ev_sipush (v := 9999) rfl rfl (by decide) ?_
    refine ev_aload_n rfl rfl rfl ?_
    refine ev_getR rfl rfl fl_X9_10 rfl rfl rfl rfl ?_
    refine ev_getI rfl rfl fl_X9_87 rfl rfl rfl ?_
    try simp (disch := omega) only [ev_rd1, ev_rd2, ev_rd3, ev_rc1, k_keep_ne]
    refine ev_iload_n rfl rfl rfl ?_
    refine ev_iadd rfl rfl ?_
    refine ev_S2D rfl rfl lk_X9_90 st_J9_min_7cf53 rfl rfl (c_min _ _ _ _) ?_
    refine ev_putI rfl rfl fl_X9_87 rfl rfl rfl rfl rfl ?_
    refine ev_aload_n rfl rfl rfl ?_
    refine ev_getR rfl rfl fl_X9_10 rfl rfl rfl rfl ?_
    refine ev_getI rfl rfl fl_X9_87 rfl rfl rfl ?_
    try simp (disch := omega) only [ev_rd1, ev_rd2, ev_rd3, ev_rc1, k_keep_ne]
    exact ev_iret rfl rfl rfl (⟨congrArg (fun z => some (Value.int z)) (by simp only [r_water, if_neg c_8]), rfl, by simp only [k_water, if_neg c_8]⟩)
  · refine ev_iconst (v := (-1)) rfl rfl (by decide) ?_
    exact ev_iret rfl rfl rfl (⟨congrArg (fun z => some (Value.int z)) (by simp only [r_water, if_pos c_8]), rfl, by simp only [k_water, if_pos c_8]⟩)

set_option maxRecDepth 100000 in
set_option maxHeartbeats 4000000 in
theorem x_valve (L : Nat) (b : Bool) (h : Hp) (n : Nat) (hn : n < 10) (hx : h 11 1 = nI n) (v : Int32) : EvD mi_X9_valve [.ref 1, .int v] (G0 L b) h (r_valve h v) (k_valve h n v) := by
  refine EvD.of (lo := [some (.ref 1), some (.int v), none]) pf_X9_valve ok_X9_valve rfl rfl ?_
  refine ev_iload_n rfl rfl rfl ?_
  refine ev_bipush (v := 50) rfl rfl (by decide) ?_
  refine ev_sipush (v := 200) rfl rfl (by decide) ?_
  refine ev_S3D rfl rfl lk_X9_75 st_X9_isWithin rfl rfl (c_isWithin _ _ _ _ _) ?_
  refine ev_if_ne rfl rfl (fun c_9 => ?_) (fun c_9 => ?_)
  · refine ev_aload_n rfl rfl rfl ?_
    refine ev_getR rfl rfl fl_X9_29 rfl rfl rfl rfl ?_
    refine ev_aload_n rfl rfl rfl ?_
    refine ev_getR rfl rfl fl_X9_10 rfl rfl rfl rfl ?_
    refine ev_aload_n rfl rfl rfl ?_
    refine ev_getR rfl rfl fl_X9_22 rfl rfl rfl rfl ?_
    refine ev_V2U rfl rfl lk_X9_79 vt_X0_keep rfl rfl rfl rfl rfl (c_keep _ _ _ n hn hx) ?_
    refine ev_aload_n rfl rfl rfl ?_
    refine ev_getR rfl rfl fl_X9_10 rfl rfl rfl rfl ?_
    refine ev_getI rfl rfl fl_X9_96 rfl rfl rfl ?_
    try simp (disch := omega) only [ev_rd1, ev_rd2, ev_rd3, ev_rc1, k_keep_ne]
    refine ev_istore_n rfl rfl rfl rfl ?_
    dsimp only [List.set]
    refine ev_aload_n rfl rfl rfl ?_
    refine ev_getR rfl rfl fl_X9_10 rfl rfl rfl rfl ?_
    refine ev_iload_n rfl rfl rfl ?_
    refine ev_putI rfl rfl fl_X9_96 rfl rfl rfl rfl rfl ?_
    refine ev_aload_n rfl rfl rfl ?_
    refine ev_getR rfl rfl fl_X9_10 rfl rfl rfl rfl ?_
    refine ev_aload_n rfl rfl rfl ?_
    refine ev_getR rfl rfl fl_X9_10 rfl rfl rfl rfl ?_
    refine ev_getI rfl rfl fl_X9_99 rfl rfl rfl ?_
    try simp (disch := omega) only [ev_rd1, ev_rd2, ev_rd3, ev_rc1, k_keep_ne]
    refine ev_iload_n rfl rfl rfl ?_
    refine ev_S2D rfl rfl lk_X9_90 st_J9_min_7cf53 rfl rfl (c_min _ _ _ _) ?_
    refine ev_putI rfl rfl fl_X9_99 rfl rfl rfl rfl rfl ?_
    refine ev_iload_n rfl rfl rfl ?_
    exact ev_iret rfl rfl rfl (⟨congrArg (fun z => some (Value.int z)) (by simp only [r_valve, if_neg c_9]), rfl, by simp only [k_valve, if_neg c_9]⟩)
  · refine ev_iconst (v := (-1)) rfl rfl (by decide) ?_
    exact ev_iret rfl rfl rfl (⟨congrArg (fun z => some (Value.int z)) (by simp only [r_valve, if_pos c_9]), rfl, by simp only [k_valve, if_pos c_9]⟩)

set_option maxRecDepth 100000 in
set_option maxHeartbeats 4000000 in
theorem x_pressure (L : Nat) (b : Bool) (h : Hp) (n : Nat) (hn : n < 10) (hx : h 11 1 = nI n) (v : Int32) : EvD mi_X9_pressure [.ref 1, .int v] (G0 L b) h (r_press h v) (k_press h n v) := by
  refine EvD.of (lo := [some (.ref 1), some (.int v), none]) pf_X9_pressure ok_X9_pressure rfl rfl ?_
  refine ev_iload_n rfl rfl rfl ?_
  refine ev_iconst (v := 0) rfl rfl (by decide) ?_
  refine ev_aload_n rfl rfl rfl ?_
  refine ev_getR rfl rfl fl_X9_10 rfl rfl rfl rfl ?_
  refine ev_getI rfl rfl fl_X9_96 rfl rfl rfl ?_
  refine ev_S3D rfl rfl lk_X9_75 st_X9_isWithin rfl rfl (c_isWithin _ _ _ _ _) ?_
  refine ev_if_ne rfl rfl (fun c_12 => ?_) (fun c_12 => ?_)
  · refine ev_aload_n rfl rfl rfl ?_
    refine ev_getR rfl rfl fl_X9_29 rfl rfl rfl rfl ?_
    refine ev_aload_n rfl rfl rfl ?_
    refine ev_getR rfl rfl fl_X9_10 rfl rfl rfl rfl ?_
    refine ev_aload_n rfl rfl rfl ?_
    refine ev_getR rfl rfl fl_X9_22 rfl rfl rfl rfl ?_
    refine ev_V2U rfl rfl lk_X9_79 vt_X0_keep rfl rfl rfl rfl rfl (c_keep _ _ _ n hn hx) ?_
    refine ev_aload_n rfl rfl rfl ?_
    refine ev_getR rfl rfl fl_X9_10 rfl rfl rfl rfl ?_
    refine ev_getI rfl rfl fl_X9_99 rfl rfl rfl ?_
    try simp (disch := omega) only [ev_rd1, ev_rd2, ev_rd3, ev_rc1, k_keep_ne]
    refine ev_istore_n rfl rfl rfl rfl ?_
    dsimp only [List.set]
    refine ev_aload_n rfl rfl rfl ?_
    refine ev_getR rfl rfl fl_X9_10 rfl rfl rfl rfl ?_
    refine ev_iload_n rfl rfl rfl ?_
    refine ev_putI rfl rfl fl_X9_99 rfl rfl rfl rfl rfl ?_
    refine ev_iload_n rfl rfl rfl ?_
    exact ev_iret rfl rfl rfl (⟨congrArg (fun z => some (Value.int z)) (by simp only [r_press, if_neg c_12]), rfl, by simp only [k_press, if_neg c_12]⟩)
  · refine ev_iconst (v := (-1)) rfl rfl (by decide) ?_
    exact ev_iret rfl rfl rfl (⟨congrArg (fun z => some (Value.int z)) (by simp only [r_press, if_pos c_12]), rfl, by simp only [k_press, if_pos c_12]⟩)

set_option maxRecDepth 100000 in
set_option maxHeartbeats 4000000 in
theorem x_speed (L : Nat) (b : Bool) (h : Hp) (v : Int32) : EvD mi_X9_speed [.ref 1, .int v] (G0 L b) h (if z_wi v 1 99 = 0 then -1 else h 50 6) (if z_wi v 1 99 = 0 then h else ev_set h 50 6 v) := by
  refine EvD.of (lo := [some (.ref 1), some (.int v), none]) pf_X9_speed ok_X9_speed rfl rfl ?_
  refine ev_iload_n rfl rfl rfl ?_
  refine ev_iconst (v := 1) rfl rfl (by decide) ?_
  refine ev_bipush (v := 99) rfl rfl (by decide) ?_
  refine ev_S3D rfl rfl lk_X9_75 st_X9_isWithin rfl rfl (c_isWithin _ _ _ _ _) ?_
  refine ev_if_ne rfl rfl (fun c_7 => ?_) (fun c_7 => ?_)
  · refine ev_aload_n rfl rfl rfl ?_
    refine ev_getR rfl rfl fl_X9_64 rfl rfl rfl rfl ?_
    refine ev_getI rfl rfl fl_X9_283 rfl rfl rfl ?_
    try simp (disch := omega) only [ev_rd1, ev_rd2, ev_rd3, ev_rc1, k_keep_ne]
    refine ev_istore_n rfl rfl rfl rfl ?_
    dsimp only [List.set]
    refine ev_aload_n rfl rfl rfl ?_
    refine ev_getR rfl rfl fl_X9_64 rfl rfl rfl rfl ?_
    refine ev_iload_n rfl rfl rfl ?_
    refine ev_putI rfl rfl fl_X9_283 rfl rfl rfl rfl rfl ?_
    refine ev_iload_n rfl rfl rfl ?_
    exact ev_iret rfl rfl rfl (⟨congrArg (fun z => some (Value.int z)) (by simp only [if_neg c_7]), rfl, by simp only [if_neg c_7]⟩)
  · refine ev_iconst (v := (-1)) rfl rfl (by decide) ?_
    exact ev_iret rfl rfl rfl (⟨congrArg (fun z => some (Value.int z)) (by simp only [if_pos c_7]), rfl, by simp only [if_pos c_7]⟩)

set_option maxRecDepth 100000 in
set_option maxHeartbeats 4000000 in
theorem x_fault (L : Nat) (b : Bool) (h : Hp)  : EvD mi_X9_fault [.ref 1] (G0 L b) h (h 23 7) (h) := by
  refine EvD.of (lo := [some (.ref 1)]) pf_X9_fault ok_X9_fault rfl rfl ?_
  refine ev_aload_n rfl rfl rfl ?_
  refine ev_getR rfl rfl fl_X9_36 rfl rfl rfl rfl ?_
  refine ev_getI rfl rfl fl_X9_180 rfl rfl rfl ?_
  exact ev_iret rfl rfl rfl (⟨rfl, rfl, rfl⟩)

set_option maxRecDepth 100000 in
set_option maxHeartbeats 4000000 in
theorem x_end (L : Nat) (b : Bool) (h : Hp) (v : Int32) : EvD mi_X9_end [.ref 1, .int v] (G0 L b) h (if z_wi v 0 (h 23 1) = 0 then -1 else h 23 1) (if z_wi v 0 (h 23 1) = 0 then h else ev_set h 23 1 v) := by
  refine EvD.of (lo := [some (.ref 1), some (.int v), none]) pf_X9_end ok_X9_end rfl rfl ?_
  refine ev_iload_n rfl rfl rfl ?_
  refine ev_iconst (v := 0) rfl rfl (by decide) ?_
  refine ev_aload_n rfl rfl rfl ?_
  refine ev_getR rfl rfl fl_X9_36 rfl rfl rfl rfl ?_
  refine ev_getI rfl rfl fl_X9_173 rfl rfl rfl ?_
  refine ev_S3D rfl rfl lk_X9_75 st_X9_isWithin rfl rfl (c_isWithin _ _ _ _ _) ?_
  refine ev_if_ne rfl rfl (fun c_12 => ?_) (fun c_12 => ?_)
  · refine ev_aload_n rfl rfl rfl ?_
    refine ev_getR rfl rfl fl_X9_36 rfl rfl rfl rfl ?_
    refine ev_getI rfl rfl fl_X9_173 rfl rfl rfl ?_
    try simp (disch := omega) only [ev_rd1, ev_rd2, ev_rd3, ev_rc1, k_keep_ne]
    refine ev_istore_n rfl rfl rfl rfl ?_
    dsimp only [List.set]
    refine ev_aload_n rfl rfl rfl ?_
    refine ev_getR rfl rfl fl_X9_36 rfl rfl rfl rfl ?_
    refine ev_iload_n rfl rfl rfl ?_
    refine ev_putI rfl rfl fl_X9_173 rfl rfl rfl rfl rfl ?_
    refine ev_iload_n rfl rfl rfl ?_
    exact ev_iret rfl rfl rfl (⟨congrArg (fun z => some (Value.int z)) (by simp only [if_neg c_12]), rfl, by simp only [if_neg c_12]⟩)
  · refine ev_iconst (v := (-1)) rfl rfl (by decide) ?_
    exact ev_iret rfl rfl rfl (⟨congrArg (fun z => some (Value.int z)) (by simp only [if_pos c_12]), rfl, by simp only [if_pos c_12]⟩)

set_option maxRecDepth 100000 in
set_option maxHeartbeats 4000000 in
theorem x_whistle (L : Nat) (b : Bool) (h : Hp) (m : Nat) (hm0 : m ≤ 12) (hm : h 4 7 = nI m) (n d s q : Int32) (hq : q = 0 ∨ q = 1) : EvD mi_X9_whistle [.ref 1, .int n, .int d, .int s, .int q] (G0 L b) h (z_add h n d s) (k_add h m n d s q) := by
  refine EvD.of (lo := [some (.ref 1), some (.int n), some (.int d), some (.int s), some (.int q)]) pf_X9_whistle ok_X9_whistle rfl rfl ?_
  refine ev_aload_n rfl rfl rfl ?_
  refine ev_getR rfl rfl fl_X9_22 rfl rfl rfl rfl ?_
  refine ev_iload_n rfl rfl rfl ?_
  refine ev_iload_n rfl rfl rfl ?_
  refine ev_iload_n rfl rfl rfl ?_
  refine ev_iload rfl rfl rfl ?_
  refine ev_V4D rfl rfl lk_X9_122 vt_X8_add rfl rfl rfl rfl rfl (c_add _ _ _ m hm0 hm _ _ _ _ hq) ?_
  exact ev_iret rfl rfl rfl (⟨rfl, rfl, rfl⟩)

set_option maxRecDepth 100000 in
set_option maxHeartbeats 4000000 in
theorem x_boat (L : Nat) (b : Bool) (h : Hp) (m : Nat) (hm0 : m ≤ 4) (hm : h 50 2 = nI m) (p l : Int32) : EvD mi_X9_boat [.ref 1, .int p, .int l] (G0 L b) h (if z_wi p 0 999 = 0 then -1 else if z_wi l 0 99 = 0 then -1 else z_addB (h 50 2) 4) (if z_wi p 0 999 = 0 then h else if z_wi l 0 99 = 0 then h else k_boat h m p l) := by
  refine EvD.of (lo := [some (.ref 1), some (.int p), some (.int l)]) pf_X9_boat ok_X9_boat rfl rfl ?_
  refine ev_iload_n rfl rfl rfl ?_
  refine ev_S1D rfl rfl lk_X9_271 st_X9_isPlace rfl rfl (c_isPlace _ _ _) ?_
  refine ev_if_eq rfl rfl (fun c_4 => ?_) (fun c_4 => ?_)
  · refine ev_iconst (v := (-1)) rfl rfl (by decide) ?_
    exact ev_iret rfl rfl rfl (⟨congrArg (fun z => some (Value.int z)) (by simp only [if_pos c_4]), rfl, by simp only [if_pos c_4]⟩)
  · refine ev_iload_n rfl rfl rfl ?_
    refine ev_iconst (v := 0) rfl rfl (by decide) ?_
    refine ev_bipush (v := 99) rfl rfl (by decide) ?_
    refine ev_S3D rfl rfl lk_X9_75 st_X9_isWithin rfl rfl (c_isWithin _ _ _ _ _) ?_
    refine ev_if_ne rfl rfl (fun c_14 => ?_) (fun c_14 => ?_)
    · refine ev_aload_n rfl rfl rfl ?_
      refine ev_getR rfl rfl fl_X9_64 rfl rfl rfl rfl ?_
      refine ev_iload_n rfl rfl rfl ?_
      refine ev_iload_n rfl rfl rfl ?_
      refine ev_V2D rfl rfl lk_X9_274 vt_X3_addBoat rfl rfl rfl rfl rfl (c_addBoat _ _ _ m hm0 hm _ _) ?_
      exact ev_iret rfl rfl rfl (⟨congrArg (fun z => some (Value.int z)) (by simp only [if_neg c_4, if_neg c_14]), rfl, by simp only [if_neg c_4, if_neg c_14]⟩)
    · refine ev_iconst (v := (-1)) rfl rfl (by decide) ?_
      exact ev_iret rfl rfl rfl (⟨congrArg (fun z => some (Value.int z)) (by simp only [if_neg c_4, if_pos c_14]), rfl, by simp only [if_neg c_4, if_pos c_14]⟩)

set_option maxRecDepth 100000 in
set_option maxHeartbeats 4000000 in
theorem x_bend (L : Nat) (b : Bool) (h : Hp) (m : Nat) (hm0 : m ≤ 6) (hm : h 50 5 = nI m) (p l : Int32) : EvD mi_X9_bend [.ref 1, .int p, .int l] (G0 L b) h (if z_wi p 0 999 = 0 then -1 else if z_wi l 1 99 = 0 then -1 else if s_bd h p 0 m = 0 then z_addN (h 50 5) else -1) (if z_wi p 0 999 = 0 then h else if z_wi l 1 99 = 0 then h else if s_bd h p 0 m = 0 then k_bend h m p l else h) := by
  refine EvD.of (lo := [some (.ref 1), some (.int p), some (.int l)]) pf_X9_bend ok_X9_bend rfl rfl ?_
  refine ev_iload_n rfl rfl rfl ?_
  refine ev_S1D rfl rfl lk_X9_271 st_X9_isPlace rfl rfl (c_isPlace _ _ _) ?_
  refine ev_if_eq rfl rfl (fun c_4 => ?_) (fun c_4 => ?_)
  · refine ev_iconst (v := (-1)) rfl rfl (by decide) ?_
    exact ev_iret rfl rfl rfl (⟨congrArg (fun z => some (Value.int z)) (by simp only [if_pos c_4]), rfl, by simp only [if_pos c_4]⟩)
  · refine ev_iload_n rfl rfl rfl ?_
    refine ev_iconst (v := 1) rfl rfl (by decide) ?_
    refine ev_bipush (v := 99) rfl rfl (by decide) ?_
    refine ev_S3D rfl rfl lk_X9_75 st_X9_isWithin rfl rfl (c_isWithin _ _ _ _ _) ?_
    refine ev_if_eq rfl rfl (fun c_14 => ?_) (fun c_14 => ?_)
    · refine ev_iconst (v := (-1)) rfl rfl (by decide) ?_
      exact ev_iret rfl rfl rfl (⟨congrArg (fun z => some (Value.int z)) (by simp only [if_neg c_4, if_pos c_14]), rfl, by simp only [if_neg c_4, if_pos c_14]⟩)
    · refine ev_aload_n rfl rfl rfl ?_
      refine ev_getR rfl rfl fl_X9_64 rfl rfl rfl rfl ?_
      refine ev_iload_n rfl rfl rfl ?_
      refine ev_V1D rfl rfl lk_X9_277 vt_X3_bendsAt rfl rfl rfl rfl rfl (c_bendsAt _ _ _ m hm0 hm _) ?_
      refine ev_if_eq rfl rfl (fun c_25 => ?_) (fun c_25 => ?_)
      · refine ev_aload_n rfl rfl rfl ?_
        refine ev_getR rfl rfl fl_X9_64 rfl rfl rfl rfl ?_
        refine ev_iload_n rfl rfl rfl ?_
        refine ev_iload_n rfl rfl rfl ?_
        refine ev_V2D rfl rfl lk_X9_280 vt_X3_addBend rfl rfl rfl rfl rfl (c_addBend _ _ _ m hm0 hm _ _) ?_
        exact ev_iret rfl rfl rfl (⟨congrArg (fun z => some (Value.int z)) (by simp only [if_neg c_4, if_neg c_14, if_pos c_25]), rfl, by simp only [if_neg c_4, if_neg c_14, if_pos c_25]⟩)
      · refine ev_iconst (v := (-1)) rfl rfl (by decide) ?_
        exact ev_iret rfl rfl rfl (⟨congrArg (fun z => some (Value.int z)) (by simp only [if_neg c_4, if_neg c_14, if_neg c_25]), rfl, by simp only [if_neg c_4, if_neg c_14, if_neg c_25]⟩)

set_option maxRecDepth 100000 in
set_option maxHeartbeats 4000000 in
theorem x_far (L : Nat) (b : Bool) (h : Hp) (m : Nat) (hm0 : m ≤ 6) (hm : h 50 5 = nI m) (x y : Int32) : EvD mi_X9_far [.ref 1, .int x, .int y] (G0 L b) h (if z_wi x 0 999 = 0 then -1 else if z_wi y 0 999 = 0 then -1 else o_way h m x y) (h) := by
  refine EvD.of (lo := [some (.ref 1), some (.int x), some (.int y)]) pf_X9_far ok_X9_far rfl rfl ?_
  refine ev_iload_n rfl rfl rfl ?_
  refine ev_S1D rfl rfl lk_X9_271 st_X9_isPlace rfl rfl (c_isPlace _ _ _) ?_
  refine ev_if_eq rfl rfl (fun c_4 => ?_) (fun c_4 => ?_)
  · refine ev_iconst (v := (-1)) rfl rfl (by decide) ?_
    exact ev_iret rfl rfl rfl (⟨congrArg (fun z => some (Value.int z)) (by simp only [if_pos c_4]), rfl, rfl⟩)
  · refine ev_iload_n rfl rfl rfl ?_
    refine ev_S1D rfl rfl lk_X9_271 st_X9_isPlace rfl rfl (c_isPlace _ _ _) ?_
    refine ev_if_eq rfl rfl (fun c_11 => ?_) (fun c_11 => ?_)
    · refine ev_iconst (v := (-1)) rfl rfl (by decide) ?_
      exact ev_iret rfl rfl rfl (⟨congrArg (fun z => some (Value.int z)) (by simp only [if_neg c_4, if_pos c_11]), rfl, rfl⟩)
    · refine ev_aload_n rfl rfl rfl ?_
      refine ev_getR rfl rfl fl_X9_64 rfl rfl rfl rfl ?_
      refine ev_iload_n rfl rfl rfl ?_
      refine ev_iload_n rfl rfl rfl ?_
      refine ev_V2D rfl rfl lk_X9_286 vt_X3_way rfl rfl rfl rfl rfl (c_way _ _ _ m hm0 hm _ _) ?_
      refine ev_goto rfl rfl ?_
      exact ev_iret rfl rfl rfl (⟨congrArg (fun z => some (Value.int z)) (by simp only [if_neg c_4, if_neg c_11]), rfl, rfl⟩)
end
